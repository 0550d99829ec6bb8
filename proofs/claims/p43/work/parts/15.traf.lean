theorem tw_893 : Cond.fieldLink RX5 59 "Turnpike$Traffic" "vehicles" "I" ∈ tp_all := tp_mem 893 (by decide +kernel) rfl
theorem tw_881 : Cond.fieldLink RX5 38 "Turnpike$Traffic" "vehicle" "[LTurnpike$Vehicle;" ∈ tp_all := tp_mem 881 (by decide +kernel) rfl
theorem tw_873 : Cond.fieldLink RX5 12 "Turnpike$Traffic" "roads" "LTurnpike$Roads;" ∈ tp_all := tp_mem 873 (by decide +kernel) rfl
theorem tw_302 : Cond.methodLink RX5 212 yX2_firstOfWay ∈ tp_all := tp_mem 302 (by decide +kernel) rfl
theorem tw_301 : Cond.code yX7_nextOfWay cX7_nextOfWay 1 (some .int) ∈ tp_all := tp_mem 301 (by decide +kernel) rfl
theorem tw_298 : Cond.methodLink RX5 209 yX7_nextOfWay ∈ tp_all := tp_mem 298 (by decide +kernel) rfl
theorem tw_299 : Cond.instanceMethod yX7_nextOfWay ∈ tp_all := tp_mem 299 (by decide +kernel) rfl
theorem tw_300 : Cond.selects RX7 yX7_nextOfWay yX7_nextOfWay ∈ tp_all := tp_mem 300 (by decide +kernel) rfl
theorem tw_885 : Cond.fieldLink RX5 65 "Turnpike$Traffic" "clock" "I" ∈ tp_all := tp_mem 885 (by decide +kernel) rfl
theorem tw_286 : Cond.code yX7_arrive cX7_arrive 2 none ∈ tp_all := tp_mem 286 (by decide +kernel) rfl
theorem tw_283 : Cond.methodLink RX5 242 yX7_arrive ∈ tp_all := tp_mem 283 (by decide +kernel) rfl
theorem tw_284 : Cond.instanceMethod yX7_arrive ∈ tp_all := tp_mem 284 (by decide +kernel) rfl
theorem tw_285 : Cond.selects RX7 yX7_arrive yX7_arrive ∈ tp_all := tp_mem 285 (by decide +kernel) rfl
theorem tw_895 : Cond.fieldLink RX5 125 "Turnpike$Traffic" "underWay" "I" ∈ tp_all := tp_mem 895 (by decide +kernel) rfl
theorem tw_891 : Cond.fieldLink RX5 86 "Turnpike$Traffic" "flows" "I" ∈ tp_all := tp_mem 891 (by decide +kernel) rfl
theorem tw_879 : Cond.fieldLink RX5 32 "Turnpike$Traffic" "flow" "[LTurnpike$Flow;" ∈ tp_all := tp_mem 879 (by decide +kernel) rfl
theorem tw_290 : Cond.code yX0_countTrip cX0_countTrip 3 none ∈ tp_all := tp_mem 290 (by decide +kernel) rfl
theorem tw_287 : Cond.methodLink RX5 252 yX0_countTrip ∈ tp_all := tp_mem 287 (by decide +kernel) rfl
theorem tw_288 : Cond.instanceMethod yX0_countTrip ∈ tp_all := tp_mem 288 (by decide +kernel) rfl
theorem tw_289 : Cond.selects RX0 yX0_countTrip yX0_countTrip ∈ tp_all := tp_mem 289 (by decide +kernel) rfl
theorem tw_28 : Cond.initialized RX0 ∈ tp_all := tp_mem 28 (by decide +kernel) rfl
theorem tw_890 : Cond.fieldLink RX5 128 "Turnpike$Traffic" "nodes" "I" ∈ tp_all := tp_mem 890 (by decide +kernel) rfl
theorem tw_875 : Cond.fieldLink RX5 20 "Turnpike$Traffic" "signal" "[LTurnpike$Signal;" ∈ tp_all := tp_mem 875 (by decide +kernel) rfl
theorem tw_236 : Cond.methodLink RX5 134 yX4_linksOn ∈ tp_all := tp_mem 236 (by decide +kernel) rfl
theorem tw_248 : Cond.code yX2_anyHasQueueIn cX2_anyHasQueueIn 4 (some .boolean) ∈ tp_all := tp_mem 248 (by decide +kernel) rfl
theorem tw_245 : Cond.methodLink RX5 138 yX2_anyHasQueueIn ∈ tp_all := tp_mem 245 (by decide +kernel) rfl
theorem tw_246 : Cond.instanceMethod yX2_anyHasQueueIn ∈ tp_all := tp_mem 246 (by decide +kernel) rfl
theorem tw_247 : Cond.selects RX2 yX2_anyHasQueueIn yX2_anyHasQueueIn ∈ tp_all := tp_mem 247 (by decide +kernel) rfl
theorem tw_256 : Cond.code yX4_playTick cX4_playTick 2 none ∈ tp_all := tp_mem 256 (by decide +kernel) rfl
theorem tw_253 : Cond.methodLink RX5 142 yX4_playTick ∈ tp_all := tp_mem 253 (by decide +kernel) rfl
theorem tw_254 : Cond.instanceMethod yX4_playTick ∈ tp_all := tp_mem 254 (by decide +kernel) rfl
theorem tw_255 : Cond.selects RX4 yX4_playTick yX4_playTick ∈ tp_all := tp_mem 255 (by decide +kernel) rfl
theorem te_f48 {U : State} (h : tp_E U) : va_Nw (.fieldLinkNest "Turnpike$Traffic" 208 "Turnpike$Vehicle" "kind" "I" "Turnpike") U := h.1 _ (List.mem_of_getElem? (i := 48) rfl)
theorem te_f46 {U : State} (h : tp_E U) : va_Nw (.fieldLinkNest "Turnpike$Traffic" 186 "Turnpike$Vehicle" "to" "I" "Turnpike") U := h.1 _ (List.mem_of_getElem? (i := 46) rfl)
theorem te_f45 {U : State} (h : tp_E U) : va_Nw (.fieldLinkNest "Turnpike$Traffic" 244 "Turnpike$Vehicle" "flow" "I" "Turnpike") U := h.1 _ (List.mem_of_getElem? (i := 45) rfl)
theorem te_f56 {U : State} (h : tp_E U) : va_Nw (.fieldLinkNest "Turnpike$Traffic" 246 "Turnpike$Vehicle" "trip" "I" "Turnpike") U := h.1 _ (List.mem_of_getElem? (i := 56) rfl)
theorem te_f58 {U : State} (h : tp_E U) : va_Nw (.fieldLinkNest "Turnpike$Traffic" 249 "Turnpike$Vehicle" "delay" "I" "Turnpike") U := h.1 _ (List.mem_of_getElem? (i := 58) rfl)
theorem te_f28 {U : State} (h : tp_E U) : va_Nw (.fieldLinkNest "Turnpike$Traffic" 131 "Turnpike$Signal" "phases" "I" "Turnpike") U := h.1 _ (List.mem_of_getElem? (i := 28) rfl)
theorem dX5_find_0 : decode cX5_find 0 = .ok (.iload_n 1, 1) := by decide +kernel
theorem dX5_find_1 : decode cX5_find 1 = .ok (.ifCond .lt 20, 3) := by decide +kernel
theorem dX5_find_21 : decode cX5_find 21 = .ok (.aconst_null, 1) := by decide +kernel
theorem dX5_find_22 : decode cX5_find 22 = .ok (.areturn, 1) := by decide +kernel
theorem dX5_find_4 : decode cX5_find 4 = .ok (.iload_n 1, 1) := by decide +kernel
theorem dX5_find_5 : decode cX5_find 5 = .ok (.aload_n 0, 1) := by decide +kernel
theorem dX5_find_6 : decode cX5_find 6 = .ok (.getfield 59, 3) := by decide +kernel
theorem dX5_find_9 : decode cX5_find 9 = .ok (.if_icmp .ge 12, 3) := by decide +kernel
theorem dX5_find_12 : decode cX5_find 12 = .ok (.aload_n 0, 1) := by decide +kernel
theorem dX5_find_13 : decode cX5_find 13 = .ok (.getfield 38, 3) := by decide +kernel
theorem dX5_find_16 : decode cX5_find 16 = .ok (.iload_n 1, 1) := by decide +kernel
theorem dX5_find_17 : decode cX5_find 17 = .ok (.aaload, 1) := by decide +kernel
theorem dX5_find_18 : decode cX5_find 18 = .ok (.goto 4, 3) := by decide +kernel
theorem dX5_nextOf_0 : decode cX5_nextOf 0 = .ok (.aload_n 1, 1) := by decide +kernel
theorem dX5_nextOf_1 : decode cX5_nextOf 1 = .ok (.getfield 208, 3) := by decide +kernel
theorem dX5_nextOf_4 : decode cX5_nextOf 4 = .ok (.ifCond .ne 10, 3) := by decide +kernel
theorem dX5_nextOf_14 : decode cX5_nextOf 14 = .ok (.aload_n 0, 1) := by decide +kernel
theorem dX5_nextOf_15 : decode cX5_nextOf 15 = .ok (.getfield 12, 3) := by decide +kernel
theorem dX5_nextOf_18 : decode cX5_nextOf 18 = .ok (.iload_n 2, 1) := by decide +kernel
theorem dX5_nextOf_19 : decode cX5_nextOf 19 = .ok (.aload_n 1, 1) := by decide +kernel
theorem dX5_nextOf_20 : decode cX5_nextOf 20 = .ok (.getfield 186, 3) := by decide +kernel
theorem dX5_nextOf_23 : decode cX5_nextOf 23 = .ok (.invokevirtual 212, 3) := by decide +kernel
theorem dX5_nextOf_26 : decode cX5_nextOf 26 = .ok (.ireturn, 1) := by decide +kernel
theorem dX5_nextOf_7 : decode cX5_nextOf 7 = .ok (.aload_n 1, 1) := by decide +kernel
theorem dX5_nextOf_8 : decode cX5_nextOf 8 = .ok (.invokevirtual 209, 3) := by decide +kernel
theorem dX5_nextOf_11 : decode cX5_nextOf 11 = .ok (.goto 15, 3) := by decide +kernel
theorem dX5_arrive_0 : decode cX5_arrive 0 = .ok (.aload_n 1, 1) := by decide +kernel
theorem dX5_arrive_1 : decode cX5_arrive 1 = .ok (.aload_n 0, 1) := by decide +kernel
theorem dX5_arrive_2 : decode cX5_arrive 2 = .ok (.getfield 65, 3) := by decide +kernel
theorem dX5_arrive_5 : decode cX5_arrive 5 = .ok (.invokevirtual 242, 3) := by decide +kernel
theorem dX5_arrive_8 : decode cX5_arrive 8 = .ok (.aload_n 0, 1) := by decide +kernel
theorem dX5_arrive_9 : decode cX5_arrive 9 = .ok (.dup, 1) := by decide +kernel
theorem dX5_arrive_10 : decode cX5_arrive 10 = .ok (.getfield 125, 3) := by decide +kernel
theorem dX5_arrive_13 : decode cX5_arrive 13 = .ok (.iconst 1, 1) := by decide +kernel
theorem dX5_arrive_14 : decode cX5_arrive 14 = .ok (.isub, 1) := by decide +kernel
theorem dX5_arrive_15 : decode cX5_arrive 15 = .ok (.putfield 125, 3) := by decide +kernel
theorem dX5_arrive_18 : decode cX5_arrive 18 = .ok (.aload_n 1, 1) := by decide +kernel
theorem dX5_arrive_19 : decode cX5_arrive 19 = .ok (.getfield 244, 3) := by decide +kernel
theorem dX5_arrive_22 : decode cX5_arrive 22 = .ok (.ifCond .lt 34, 3) := by decide +kernel
theorem dX5_arrive_56 : decode cX5_arrive 56 = .ok (.return_, 1) := by decide +kernel
theorem dX5_arrive_25 : decode cX5_arrive 25 = .ok (.aload_n 1, 1) := by decide +kernel
theorem dX5_arrive_26 : decode cX5_arrive 26 = .ok (.getfield 244, 3) := by decide +kernel
theorem dX5_arrive_29 : decode cX5_arrive 29 = .ok (.aload_n 0, 1) := by decide +kernel
theorem dX5_arrive_30 : decode cX5_arrive 30 = .ok (.getfield 86, 3) := by decide +kernel
theorem dX5_arrive_33 : decode cX5_arrive 33 = .ok (.if_icmp .ge 23, 3) := by decide +kernel
theorem dX5_arrive_36 : decode cX5_arrive 36 = .ok (.aload_n 0, 1) := by decide +kernel
theorem dX5_arrive_37 : decode cX5_arrive 37 = .ok (.getfield 32, 3) := by decide +kernel
theorem dX5_arrive_40 : decode cX5_arrive 40 = .ok (.aload_n 1, 1) := by decide +kernel
theorem dX5_arrive_41 : decode cX5_arrive 41 = .ok (.getfield 244, 3) := by decide +kernel
theorem dX5_arrive_44 : decode cX5_arrive 44 = .ok (.aaload, 1) := by decide +kernel
theorem dX5_arrive_45 : decode cX5_arrive 45 = .ok (.aload_n 1, 1) := by decide +kernel
theorem dX5_arrive_46 : decode cX5_arrive 46 = .ok (.getfield 246, 3) := by decide +kernel
theorem dX5_arrive_49 : decode cX5_arrive 49 = .ok (.aload_n 1, 1) := by decide +kernel
theorem dX5_arrive_50 : decode cX5_arrive 50 = .ok (.getfield 249, 3) := by decide +kernel
theorem dX5_arrive_53 : decode cX5_arrive 53 = .ok (.invokevirtual 252, 3) := by decide +kernel
theorem dX5_playSignals_0 : decode cX5_playSignals 0 = .ok (.iconst 0, 1) := by decide +kernel
theorem dX5_playSignals_1 : decode cX5_playSignals 1 = .ok (.istore_n 1, 1) := by decide +kernel
theorem dX5_playSignals_2 : decode cX5_playSignals 2 = .ok (.iload_n 1, 1) := by decide +kernel
theorem dX5_playSignals_3 : decode cX5_playSignals 3 = .ok (.aload_n 0, 1) := by decide +kernel
theorem dX5_playSignals_4 : decode cX5_playSignals 4 = .ok (.getfield 128, 3) := by decide +kernel
theorem dX5_playSignals_7 : decode cX5_playSignals 7 = .ok (.if_icmp .ge 50, 3) := by decide +kernel
theorem dX5_playSignals_57 : decode cX5_playSignals 57 = .ok (.return_, 1) := by decide +kernel
theorem dX5_playSignals_10 : decode cX5_playSignals 10 = .ok (.aload_n 0, 1) := by decide +kernel
theorem dX5_playSignals_11 : decode cX5_playSignals 11 = .ok (.getfield 20, 3) := by decide +kernel
theorem dX5_playSignals_14 : decode cX5_playSignals 14 = .ok (.iload_n 1, 1) := by decide +kernel
theorem dX5_playSignals_15 : decode cX5_playSignals 15 = .ok (.aaload, 1) := by decide +kernel
theorem dX5_playSignals_16 : decode cX5_playSignals 16 = .ok (.getfield 131, 3) := by decide +kernel
theorem dX5_playSignals_19 : decode cX5_playSignals 19 = .ok (.ifCond .le 32, 3) := by decide +kernel
theorem dX5_playSignals_51 : decode cX5_playSignals 51 = .ok (.iinc 1 1, 3) := by decide +kernel
theorem dX5_playSignals_54 : decode cX5_playSignals 54 = .ok (.goto (-52), 3) := by decide +kernel
theorem dX5_playSignals_22 : decode cX5_playSignals 22 = .ok (.aload_n 0, 1) := by decide +kernel
theorem dX5_playSignals_23 : decode cX5_playSignals 23 = .ok (.getfield 20, 3) := by decide +kernel
theorem dX5_playSignals_26 : decode cX5_playSignals 26 = .ok (.iload_n 1, 1) := by decide +kernel
theorem dX5_playSignals_27 : decode cX5_playSignals 27 = .ok (.aaload, 1) := by decide +kernel
theorem dX5_playSignals_28 : decode cX5_playSignals 28 = .ok (.aload_n 0, 1) := by decide +kernel
theorem dX5_playSignals_29 : decode cX5_playSignals 29 = .ok (.getfield 12, 3) := by decide +kernel
theorem dX5_playSignals_32 : decode cX5_playSignals 32 = .ok (.aload_n 0, 1) := by decide +kernel
theorem dX5_playSignals_33 : decode cX5_playSignals 33 = .ok (.getfield 65, 3) := by decide +kernel
theorem dX5_playSignals_36 : decode cX5_playSignals 36 = .ok (.aload_n 0, 1) := by decide +kernel
theorem dX5_playSignals_37 : decode cX5_playSignals 37 = .ok (.getfield 20, 3) := by decide +kernel
theorem dX5_playSignals_40 : decode cX5_playSignals 40 = .ok (.iload_n 1, 1) := by decide +kernel
theorem dX5_playSignals_41 : decode cX5_playSignals 41 = .ok (.aaload, 1) := by decide +kernel
theorem dX5_playSignals_42 : decode cX5_playSignals 42 = .ok (.invokevirtual 134, 3) := by decide +kernel
theorem dX5_playSignals_45 : decode cX5_playSignals 45 = .ok (.invokevirtual 138, 3) := by decide +kernel
theorem dX5_playSignals_48 : decode cX5_playSignals 48 = .ok (.invokevirtual 142, 3) := by decide +kernel
set_option maxRecDepth 100000 in
set_option maxHeartbeats 4000000 in
/-- Traffic.find: none -/
theorem c_Traffic_find_none (l : Launch) (dC : Nat → ClassId) (dI : Nat → Nat → Nat) (cy : Nat → ClassId) (L : Lay) (tr : Option Nat) (a : St) (κ : Kap) (τ : Tau) (n : Int32) (sz : Nat) (hT : TL L tr τ) (hf : T_no a n) : Met l yX5_find (tp_w yX5_find cX5_find 2 (some (.object "Turnpike$Vehicle"))) ({ frames := 0, cells := 0, slots := 0, locals := 0 }) (va_Pc [.ref (L 0 0), .int n] (mPre dC dI cy (TW cy L tr a κ τ) sz)) (va_Qq (fun (r u : Option Nat) => r = u) (fun (u : Option Nat) (t : State) => (u = (none : Option Nat)) ∧ mw (dC, dI) vwCl (mA (TW cy L tr a κ τ) sz) (TW cy L tr a κ τ) t.heap) (mA (TW cy L tr a κ τ) sz)) (0) (0) (mA (TW cy L tr a κ τ) sz) := by
  refine Met.ofW (cc := cX5_find) (maxL := 2) (ret := (some (.object "Turnpike$Vehicle"))) (by decide) rfl ?_
  intro p e s m args below meth c s₁ B hml hv
  obtain ⟨rfl, hsz, hP, hK, hE⟩ := hv
  have hx := B.exec
  have hb := B.bytes
  have hr := B.returns
  have hts0 := atoms_spec (ws := tp_w yX5_find cX5_find 2 (some (.object "Turnpike$Vehicle"))) B.pre
  have hts : ∀ w ∈ tp_all, w.before _ s = true := fun w h => hts0 w (List.mem_cons_of_mem _ h)
  have hown : s.vm.findClass RX5 = some m.cls := findClass_of_methodNamed B.named
  have hlocks := B.notSynchronized
  subst hsz
  have hP := hP.self s.heap.size
  generalize hAe : mA (TW cy L tr a κ τ) s.heap.size = A at hP ⊢
  have hA : ∀ q : Nat, s.heap.size ≤ q → A q := fun q h => by rw [← hAe]; exact Or.inr h
  have hS : va_S A s.heap s.heap [] := va_S.rf
  have hl9 := lv_entry ([.ref (L 0 0), .int n]) (n := 2) (Nat.le_of_ble_eq_true rfl)
  rw [lg_entry_eq]
  generalize (lg_sl ([.ref (L 0 0), .int n]) ++ List.replicate (2 - (lg_sl ([.ref (L 0 0), .int n])).length) Slot.unset).toArray = ls at hl9 ⊢
  have hl : lv_has ls 2 [(0, .ref (L 0 0)), (1, .int n)] := hl9
  refine lv_iload_n hx hb dX5_find_0 rfl (lv_at hl 1 rfl) ?_
  refine lv_if_lt (tgt := 21) hx hb dX5_find_1 (by decide) (fun c_1 => ?_) (fun c_1 => ?_)
  · refine lv_null hx hb dX5_find_21 ?_
    refine W.widen (k := 0) (n := 0) (Nat.le_of_ble_eq_true rfl) (Nat.le_of_ble_eq_true rfl) ?_
    have g_1 : none = (none : Option Nat) := by
      first | rfl | assumption | (simp only [if_pos c_1])
    exact W.aret (v := .null) hx hb hr (Or.inl ⟨_, rfl⟩) (Or.inl rfl) (fun t ht hW => ⟨⟨none, none, rfl, rfl, ⟨g_1, by show mw _ _ _ _ t.heap; rw [ht]; exact hP⟩⟩, hS.F ht⟩) hS.2.2 dX5_find_22
  · refine lv_iload_n hx hb dX5_find_4 rfl (lv_at hl 1 rfl) ?_
    refine lv_aload_n hx hb dX5_find_5 rfl (lv_at hl 0 rfl) ?_
    refine va_get (D := (dC, dI)) (ws := [(L 0 0, .inr (5, [.ref (L 1 0), .ref (L 20 0), .ref (L 21 0), .ref (L 22 0), .ref (L 23 0), va_rf tr, .int ((a 0 0) 0), .int ((a 0 0) 1), .int ((a 0 0) 2), .int ((a 0 0) 3), .int ((a 0 0) 4), .int ((a 0 0) 5)]))]) (ci := 5) (v := .int ((a 0 0) 4)) (C := RX5) (T := TX5) (N := 12) hx hb hts tl_X5 hown hK (hP.one (tw_mem (f := 0) (i := 0) (by decide) rfl)) 0 rfl rfl 10 (by decide) (hts _ tw_893) (fun _ h9 => h9) rfl dX5_find_6 ?_
    refine lv_icmp_ge (tgt := 21) hx hb dX5_find_9 (by decide) (fun c_2 => ?_) (fun c_2 => ?_)
    · refine lv_null hx hb dX5_find_21 ?_
      refine W.widen (k := 0) (n := 0) (Nat.le_of_ble_eq_true rfl) (Nat.le_of_ble_eq_true rfl) ?_
      have g_2 : none = (none : Option Nat) := by
        first | rfl | assumption | (simp only [if_neg c_1, if_pos c_2])
      exact W.aret (v := .null) hx hb hr (Or.inl ⟨_, rfl⟩) (Or.inl rfl) (fun t ht hW => ⟨⟨none, none, rfl, rfl, ⟨g_2, by show mw _ _ _ _ t.heap; rw [ht]; exact hP⟩⟩, hS.F ht⟩) hS.2.2 dX5_find_22
    · exact absurd hf (fun h => h.elim c_1 c_2)
set_option maxRecDepth 100000 in
set_option maxHeartbeats 4000000 in
/-- Traffic.find: a vehicle -/
theorem c_Traffic_find_some (l : Launch) (dC : Nat → ClassId) (dI : Nat → Nat → Nat) (cy : Nat → ClassId) (L : Lay) (tr : Option Nat) (a : St) (κ : Kap) (τ : Tau) (M : Nat) (n : Int32) (sz : Nat) (hT : TL L tr τ) (hw : Wf M a) (hf : ¬ T_no a n) : Met l yX5_find (tp_w yX5_find cX5_find 2 (some (.object "Turnpike$Vehicle"))) ({ frames := 0, cells := 0, slots := 0, locals := 0 }) (va_Pc [.ref (L 0 0), .int n] (mPre dC dI cy (TW cy L tr a κ τ) sz)) (va_Qr (fun _ : Unit => True) (fun (_ : Unit) (rv : Nat) (t : State) => (rv = L 15 n.toNatClampNeg) ∧ mw (dC, dI) vwCl (mA (TW cy L tr a κ τ) sz) (TW cy L tr a κ τ) t.heap) (mA (TW cy L tr a κ τ) sz)) (0) (0) (mA (TW cy L tr a κ τ) sz) := by
  refine Met.ofW (cc := cX5_find) (maxL := 2) (ret := (some (.object "Turnpike$Vehicle"))) (by decide) rfl ?_
  intro p e s m args below meth c s₁ B hml hv
  obtain ⟨rfl, hsz, hP, hK, hE⟩ := hv
  have hx := B.exec
  have hb := B.bytes
  have hr := B.returns
  have hts0 := atoms_spec (ws := tp_w yX5_find cX5_find 2 (some (.object "Turnpike$Vehicle"))) B.pre
  have hts : ∀ w ∈ tp_all, w.before _ s = true := fun w h => hts0 w (List.mem_cons_of_mem _ h)
  have hown : s.vm.findClass RX5 = some m.cls := findClass_of_methodNamed B.named
  have hlocks := B.notSynchronized
  subst hsz
  have hP := hP.self s.heap.size
  generalize hAe : mA (TW cy L tr a κ τ) s.heap.size = A at hP ⊢
  have hA : ∀ q : Nat, s.heap.size ≤ q → A q := fun q h => by rw [← hAe]; exact Or.inr h
  have hS : va_S A s.heap s.heap [] := va_S.rf
  have hl9 := lv_entry ([.ref (L 0 0), .int n]) (n := 2) (Nat.le_of_ble_eq_true rfl)
  rw [lg_entry_eq]
  generalize (lg_sl ([.ref (L 0 0), .int n]) ++ List.replicate (2 - (lg_sl ([.ref (L 0 0), .int n])).length) Slot.unset).toArray = ls at hl9 ⊢
  have hl : lv_has ls 2 [(0, .ref (L 0 0)), (1, .int n)] := hl9
  refine lv_iload_n hx hb dX5_find_0 rfl (lv_at hl 1 rfl) ?_
  refine lv_if_lt (tgt := 21) hx hb dX5_find_1 (by decide) (fun c_1 => absurd c_1 (fun h => hf (Or.inl h))) (fun _ => ?_)
  refine lv_iload_n hx hb dX5_find_4 rfl (lv_at hl 1 rfl) ?_
  refine lv_aload_n hx hb dX5_find_5 rfl (lv_at hl 0 rfl) ?_
  refine va_get (D := (dC, dI)) (ws := [(L 0 0, .inr (5, [.ref (L 1 0), .ref (L 20 0), .ref (L 21 0), .ref (L 22 0), .ref (L 23 0), va_rf tr, .int ((a 0 0) 0), .int ((a 0 0) 1), .int ((a 0 0) 2), .int ((a 0 0) 3), .int ((a 0 0) 4), .int ((a 0 0) 5)]))]) (ci := 5) (v := .int ((a 0 0) 4)) (C := RX5) (T := TX5) (N := 12) hx hb hts tl_X5 hown hK (hP.one (tw_mem (f := 0) (i := 0) (by decide) rfl)) 0 rfl rfl 10 (by decide) (hts _ tw_893) (fun _ h9 => h9) rfl dX5_find_6 ?_
  refine lv_icmp_ge (tgt := 21) hx hb dX5_find_9 (by decide) (fun c_2 => absurd c_2 (fun h => hf (Or.inr h))) (fun _ => ?_)
  refine lv_aload_n hx hb dX5_find_12 rfl (lv_at hl 0 rfl) ?_
  refine va_get (D := (dC, dI)) (ws := [(L 0 0, .inr (5, [.ref (L 1 0), .ref (L 20 0), .ref (L 21 0), .ref (L 22 0), .ref (L 23 0), va_rf tr, .int ((a 0 0) 0), .int ((a 0 0) 1), .int ((a 0 0) 2), .int ((a 0 0) 3), .int ((a 0 0) 4), .int ((a 0 0) 5)]))]) (ci := 5) (v := .ref (L 23 0)) (C := RX5) (T := TX5) (N := 12) hx hb hts tl_X5 hown hK (hP.one (tw_mem (f := 0) (i := 0) (by decide) rfl)) 0 rfl rfl 4 (by decide) (hts _ tw_881) (fun _ h9 => h9) rfl dX5_find_13 ?_
  refine lv_iload_n hx hb dX5_find_16 rfl (lv_at hl 1 rfl) ?_
  have j_1 : (n : Int32).toNatClampNeg = n.toNatClampNeg := m_cl (m_nI (fun h => hf (Or.inl h))) (m_lt (n := 200) (fun h => hf (Or.inl h)) (fun h => hf (Or.inr h)) hw.1.2.2.2.2) (by decide)
  refine va_aldq hx hb hK (ws := [(L 23 0, .inl (cy 7, 200, .inr (.inr (.inr (.inr (fun j => some (L 15 j)))))))]) (hP.one (tw_mem (f := 23) (i := 0) (by decide) rfl)) 0 7 rfl rfl (m_in (m_nI (fun h => hf (Or.inl h))) (m_lt (n := 200) (fun h => hf (Or.inl h)) (fun h => hf (Or.inr h)) hw.1.2.2.2.2) (by decide)) dX5_find_17 ?_
  refine W.eq (g2 := F0 m 18 ls [.ref (L 15 n.toNatClampNeg)]) (by first | (rw [j_1]; done) | (rw [j_1]; rfl)) ?_
  refine lv_goto (tgt := 22) hx hb dX5_find_18 (by decide) ?_
  refine W.widen (k := 0) (n := 0) (Nat.le_of_ble_eq_true rfl) (Nat.le_of_ble_eq_true rfl) ?_
  have g_1 : (L 15 n.toNatClampNeg) = L 15 n.toNatClampNeg := by
    first | rfl | assumption | (simp only [])
  exact W.aret (v := .ref (L 15 n.toNatClampNeg)) hx hb hr (Or.inl ⟨_, rfl⟩) (Or.inr ⟨_, rfl⟩) (fun t ht hW => ⟨⟨(), L 15 n.toNatClampNeg, rfl, trivial, ⟨g_1, by show mw _ _ _ _ t.heap; rw [ht]; exact hP⟩⟩, hS.F ht⟩) hS.2.2 dX5_find_22
set_option maxRecDepth 100000 in
set_option maxHeartbeats 4000000 in
/-- Traffic.nextOf -/
theorem c_Traffic_nextOf (l : Launch) (dC : Nat → ClassId) (dI : Nat → Nat → Nat) (cy : Nat → ClassId) (L : Lay) (tr : Option Nat) (a : St) (κ : Kap) (τ : Tau) (M : Nat) (v : Nat) (nd : Int32) (sz : Nat) (hT : TL L tr τ) (hw : Wf M a) (hv : v < 200) (hnd : in_ nd 11) (hκ : CV a κ) : Met l yX5_nextOf (tp_w yX5_nextOf cX5_nextOf 3 (some .int)) ({ frames := 3, cells := 0, slots := 0, locals := 77 }) (va_Pc [.ref (L 0 0), .ref (L 15 v), .int nd] (mPre dC dI cy (TW cy L tr a κ τ) sz)) (va_Qi (fun (r u : Int32) => r = u) (fun (u : Int32) (t : State) => ∃ (κ2 : Kap), (u = T_next a v nd) ∧ (CV a κ2) ∧ mw (dC, dI) vwCl (mA (TW cy L tr a κ τ) sz) (TW cy L tr a κ2 τ) t.heap) (mA (TW cy L tr a κ τ) sz)) (0) (0) (mA (TW cy L tr a κ τ) sz) := by
  refine Met.ofW (cc := cX5_nextOf) (maxL := 3) (ret := (some .int)) (by decide) rfl ?_
  intro p e s m args below meth c s₁ B hml hv
  obtain ⟨rfl, hsz, hP, hK, hE⟩ := hv
  have hx := B.exec
  have hb := B.bytes
  have hr := B.returns
  have hts0 := atoms_spec (ws := tp_w yX5_nextOf cX5_nextOf 3 (some .int)) B.pre
  have hts : ∀ w ∈ tp_all, w.before _ s = true := fun w h => hts0 w (List.mem_cons_of_mem _ h)
  have hown : s.vm.findClass RX5 = some m.cls := findClass_of_methodNamed B.named
  have hlocks := B.notSynchronized
  subst hsz
  have hP := hP.self s.heap.size
  generalize hAe : mA (TW cy L tr a κ τ) s.heap.size = A at hP ⊢
  have hA : ∀ q : Nat, s.heap.size ≤ q → A q := fun q h => by rw [← hAe]; exact Or.inr h
  have hS : va_S A s.heap s.heap [] := va_S.rf
  have hl9 := lv_entry ([.ref (L 0 0), .ref (L 15 v), .int nd]) (n := 3) (Nat.le_of_ble_eq_true rfl)
  rw [lg_entry_eq]
  generalize (lg_sl ([.ref (L 0 0), .ref (L 15 v), .int nd]) ++ List.replicate (3 - (lg_sl ([.ref (L 0 0), .ref (L 15 v), .int nd])).length) Slot.unset).toArray = ls at hl9 ⊢
  have hl : lv_has ls 3 [(0, .ref (L 0 0)), (1, .ref (L 15 v)), (2, .int nd)] := hl9
  refine lv_aload_n hx hb dX5_nextOf_0 rfl (lv_at hl 1 rfl) ?_
  refine va_getN (D := (dC, dI)) (ws := [(L 15 v, .inr (7, [.int ((a 15 v) 0), .int ((a 15 v) 1), .int ((a 15 v) 2), .int ((a 15 v) 3), .int ((a 15 v) 4), .int ((a 15 v) 5), .int ((a 15 v) 6), .int ((a 15 v) 7), .int ((a 15 v) 8), .int ((a 15 v) 9), .int ((a 15 v) 10), .int ((a 15 v) 11), .ref (L 16 v)]))]) (ci := 7) (v := .int ((a 15 v) 2)) (C := RX7) (T := TX7) (N := 13) hx hb hts tl_X7 hown hK (hP.one (tw_mem (f := 15) (i := v) hv rfl)) 0 rfl rfl 2 (by decide) (va_Nw.use rfl (te_f48 hE)) (fun _ h9 => h9) rfl dX5_nextOf_1 ?_
  refine lv_if_ne (tgt := 14) hx hb dX5_nextOf_4 (by decide) (fun c_1 => ?_) (fun c_1 => ?_)
  · refine lv_aload_n hx hb dX5_nextOf_14 rfl (lv_at hl 0 rfl) ?_
    refine va_get (D := (dC, dI)) (ws := [(L 0 0, .inr (5, [.ref (L 1 0), .ref (L 20 0), .ref (L 21 0), .ref (L 22 0), .ref (L 23 0), va_rf tr, .int ((a 0 0) 0), .int ((a 0 0) 1), .int ((a 0 0) 2), .int ((a 0 0) 3), .int ((a 0 0) 4), .int ((a 0 0) 5)]))]) (ci := 5) (v := .ref (L 1 0)) (C := RX5) (T := TX5) (N := 12) hx hb hts tl_X5 hown hK (hP.one (tw_mem (f := 0) (i := 0) (by decide) rfl)) 0 rfl rfl 0 (by decide) (hts _ tw_873) (fun _ h9 => h9) rfl dX5_nextOf_15 ?_
    refine lv_iload_n hx hb dX5_nextOf_18 rfl (lv_at hl 2 rfl) ?_
    refine lv_aload_n hx hb dX5_nextOf_19 rfl (lv_at hl 1 rfl) ?_
    refine va_getN (D := (dC, dI)) (ws := [(L 15 v, .inr (7, [.int ((a 15 v) 0), .int ((a 15 v) 1), .int ((a 15 v) 2), .int ((a 15 v) 3), .int ((a 15 v) 4), .int ((a 15 v) 5), .int ((a 15 v) 6), .int ((a 15 v) 7), .int ((a 15 v) 8), .int ((a 15 v) 9), .int ((a 15 v) 10), .int ((a 15 v) 11), .ref (L 16 v)]))]) (ci := 7) (v := .int ((a 15 v) 1)) (C := RX7) (T := TX7) (N := 13) hx hb hts tl_X7 hown hK (hP.one (tw_mem (f := 15) (i := v) hv rfl)) 0 rfl rfl 1 (by decide) (va_Nw.use rfl (te_f46 hE)) (fun _ h9 => h9) rfl dX5_nextOf_20 ?_
    have hFc := m_free (C := (TW cy L tr a κ τ)) hP hS hA (fun _ _ h => h)
    refine va_calli (va_runV (As := [.int nd, .int ((a 15 v) 1)]) (rest := []) ⟨hx, hb, hml, hown, hts⟩ (c_Roads_firstOfWay l dC dI cy L tr a κ τ M nd ((a 15 v) 1) s.heap.size hT hw hnd (hw.2.2.2.2 v hv).2.1 hκ) (tp_cwV 2 hts tw_302 tw_213 tw_214 tw_22 tw_215 rfl rfl (by decide +kernel) ⟨Nat.le_of_ble_eq_true rfl, Nat.le_of_ble_eq_true rfl⟩) ⟨m_blind, va_recv hK (hP.one (e := .inr (2, [.ref (L 24 0), .int ((a 1 0) 0), .ref (L 25 0), .int κ.1])) (tw_mem (f := 1) (i := 0) (by decide) rfl)) (ci := 2) (q0 := 0) rfl rfl, fun U hU hW => ⟨rfl, m_pay hK hP hE (fun _ _ h => h) U hU hW⟩⟩ rfl rfl hl.1 rfl (lv_room (Nat.le_of_ble_eq_true rfl)) dX5_nextOf_23 ⟨(Nat.le_of_ble_eq_true rfl), (Nat.le_of_ble_eq_true rfl)⟩) hS (fun q _ h => hFc q h) hFc (fun r_1 u t H1 locs ht hvm hpo hB hz1 hk1 hS => ?_)
    obtain rfl := hpo
    obtain ⟨z_1, f_1, f_2, hP1⟩ := hB
    subst f_1
    rw [ht] at hP1
    have hP : mw (dC, dI) vwCl A (TW cy L tr a z_1 τ) H1 := hP.join (fun _ _ h => h) hk1 hFc hP1 (fun _ _ h => Or.inl h)
    generalize H1 = H at hP hS ⊢
    clear hP1 hk1 hFc
    refine W.widen (k := 0) (n := 0) (Nat.le_of_ble_eq_true rfl) (Nat.le_of_ble_eq_true rfl) ?_
    have g_1 : (G_first a nd ((a 15 v) 1)) = T_next a v nd := by
      simp only [T_next, if_neg c_1]
    have g_2 : CV a z_1 := by
      exact f_2
    exact W.iret (v := G_first a nd ((a 15 v) 1)) hx hb hr (fun t ht hW => ⟨⟨(G_first a nd ((a 15 v) 1)), (G_first a nd ((a 15 v) 1)), rfl, rfl, ⟨z_1, g_1, g_2, by show mw _ _ _ _ t.heap; rw [ht]; exact hP⟩⟩, hS.F ht⟩) hS.2.2 dX5_nextOf_26
  · refine lv_aload_n hx hb dX5_nextOf_7 rfl (lv_at hl 1 rfl) ?_
    have hFc := m_free (C := (TW cy L tr a κ τ)) hP hS hA (fun _ _ h => h)
    refine va_calli (va_runV (As := []) (rest := []) ⟨hx, hb, hml, hown, hts⟩ (c_Vehicle_nextOfWay l dC dI cy L tr a κ τ v s.heap.size hT hv (hw.2.2.2.2 v hv).1.2) (tp_cwV 0 hts tw_298 tw_299 tw_300 tw_29 tw_301 rfl rfl (by decide +kernel) ⟨Nat.le_of_ble_eq_true rfl, Nat.le_of_ble_eq_true rfl⟩) ⟨m_blind, va_recv hK (hP.one (e := .inr (7, [.int ((a 15 v) 0), .int ((a 15 v) 1), .int ((a 15 v) 2), .int ((a 15 v) 3), .int ((a 15 v) 4), .int ((a 15 v) 5), .int ((a 15 v) 6), .int ((a 15 v) 7), .int ((a 15 v) 8), .int ((a 15 v) 9), .int ((a 15 v) 10), .int ((a 15 v) 11), .ref (L 16 v)])) (tw_mem (f := 15) (i := v) hv rfl)) (ci := 7) (q0 := 0) rfl rfl, fun U hU hW => ⟨rfl, m_pay hK hP hE (fun _ _ h => h) U hU hW⟩⟩ rfl rfl hl.1 rfl (lv_room (Nat.le_of_ble_eq_true rfl)) dX5_nextOf_8 ⟨(Nat.le_of_ble_eq_true rfl), (Nat.le_of_ble_eq_true rfl)⟩) hS (fun q _ h => hFc q h) hFc (fun r_2 u t H1 locs ht hvm hpo hB hz1 hk1 hS => ?_)
    obtain rfl := hpo
    obtain ⟨f_3, hP1⟩ := hB
    subst f_3
    rw [ht] at hP1
    have hP : mw (dC, dI) vwCl A (TW cy L tr a κ τ) H1 := hP.join (fun _ _ h => h) hk1 hFc hP1 (fun _ _ h => Or.inl h)
    generalize H1 = H at hP hS ⊢
    clear hP1 hk1 hFc
    refine lv_goto (tgt := 26) hx hb dX5_nextOf_11 (by decide) ?_
    refine W.widen (k := 0) (n := 0) (Nat.le_of_ble_eq_true rfl) (Nat.le_of_ble_eq_true rfl) ?_
    have g_3 : (V_next a v) = T_next a v nd := by
      simp only [T_next, if_pos c_1]
    have g_4 : CV a κ := by
      exact hκ
    exact W.iret (v := V_next a v) hx hb hr (fun t ht hW => ⟨⟨(V_next a v), (V_next a v), rfl, rfl, ⟨κ, g_3, g_4, by show mw _ _ _ _ t.heap; rw [ht]; exact hP⟩⟩, hS.F ht⟩) hS.2.2 dX5_nextOf_26
set_option maxRecDepth 100000 in
set_option maxHeartbeats 4000000 in
/-- Traffic.arrive -/
theorem c_Traffic_arrive (l : Launch) (dC : Nat → ClassId) (dI : Nat → Nat → Nat) (cy : Nat → ClassId) (L : Lay) (tr : Option Nat) (a : St) (κ : Kap) (τ : Tau) (M : Nat) (v : Nat) (sz : Nat) (hT : TL L tr τ) (hw : Wf M a) (hv : v < 200) : Met l yX5_arrive (tp_w yX5_arrive cX5_arrive 2 none) ({ frames := 2, cells := 0, slots := 0, locals := 36 }) (va_Pc [.ref (L 0 0), .ref (L 15 v)] (mPre dC dI cy (TW cy L tr a κ τ) sz)) (va_Qv (fun _ : Unit => True) (fun (_ : Unit) (t : State) => mw (dC, dI) vwCl (mA (TW cy L tr a κ τ) sz) (TW cy L tr (T_arrive a v) κ τ) t.heap) (mA (TW cy L tr a κ τ) sz)) (0) (0) (mA (TW cy L tr a κ τ) sz) := by
  refine Met.ofW (cc := cX5_arrive) (maxL := 2) (ret := none) (by decide) rfl ?_
  intro p e s m args below meth c s₁ B hml hv
  obtain ⟨rfl, hsz, hP, hK, hE⟩ := hv
  have hx := B.exec
  have hb := B.bytes
  have hr := B.returns
  have hts0 := atoms_spec (ws := tp_w yX5_arrive cX5_arrive 2 none) B.pre
  have hts : ∀ w ∈ tp_all, w.before _ s = true := fun w h => hts0 w (List.mem_cons_of_mem _ h)
  have hown : s.vm.findClass RX5 = some m.cls := findClass_of_methodNamed B.named
  have hlocks := B.notSynchronized
  subst hsz
  have hP := hP.self s.heap.size
  generalize hAe : mA (TW cy L tr a κ τ) s.heap.size = A at hP ⊢
  have hA : ∀ q : Nat, s.heap.size ≤ q → A q := fun q h => by rw [← hAe]; exact Or.inr h
  have hS : va_S A s.heap s.heap [] := va_S.rf
  have hl9 := lv_entry ([.ref (L 0 0), .ref (L 15 v)]) (n := 2) (Nat.le_of_ble_eq_true rfl)
  rw [lg_entry_eq]
  generalize (lg_sl ([.ref (L 0 0), .ref (L 15 v)]) ++ List.replicate (2 - (lg_sl ([.ref (L 0 0), .ref (L 15 v)])).length) Slot.unset).toArray = ls at hl9 ⊢
  have hl : lv_has ls 2 [(0, .ref (L 0 0)), (1, .ref (L 15 v))] := hl9
  refine lv_aload_n hx hb dX5_arrive_0 rfl (lv_at hl 1 rfl) ?_
  refine lv_aload_n hx hb dX5_arrive_1 rfl (lv_at hl 0 rfl) ?_
  refine va_get (D := (dC, dI)) (ws := [(L 0 0, .inr (5, [.ref (L 1 0), .ref (L 20 0), .ref (L 21 0), .ref (L 22 0), .ref (L 23 0), va_rf tr, .int ((a 0 0) 0), .int ((a 0 0) 1), .int ((a 0 0) 2), .int ((a 0 0) 3), .int ((a 0 0) 4), .int ((a 0 0) 5)]))]) (ci := 5) (v := .int ((a 0 0) 0)) (C := RX5) (T := TX5) (N := 12) hx hb hts tl_X5 hown hK (hP.one (tw_mem (f := 0) (i := 0) (by decide) rfl)) 0 rfl rfl 6 (by decide) (hts _ tw_885) (fun _ h9 => h9) rfl dX5_arrive_2 ?_
  have hFc := m_free (C := (TW cy L tr a κ τ)) hP hS hA (fun _ _ h => h)
  refine va_callv (va_runV (As := [.int ((a 0 0) 0)]) (rest := []) ⟨hx, hb, hml, hown, hts⟩ (c_Vehicle_arrive l dC dI cy L tr a κ τ v ((a 0 0) 0) s.heap.size hT hv) (tp_cwV 1 hts tw_283 tw_284 tw_285 tw_29 tw_286 rfl rfl (by decide +kernel) ⟨Nat.le_of_ble_eq_true rfl, Nat.le_of_ble_eq_true rfl⟩) ⟨m_blind, va_recv hK (hP.one (e := .inr (7, [.int ((a 15 v) 0), .int ((a 15 v) 1), .int ((a 15 v) 2), .int ((a 15 v) 3), .int ((a 15 v) 4), .int ((a 15 v) 5), .int ((a 15 v) 6), .int ((a 15 v) 7), .int ((a 15 v) 8), .int ((a 15 v) 9), .int ((a 15 v) 10), .int ((a 15 v) 11), .ref (L 16 v)])) (tw_mem (f := 15) (i := v) hv rfl)) (ci := 7) (q0 := 0) rfl rfl, fun U hU hW => ⟨rfl, m_pay hK hP hE (fun _ _ h => h) U hU hW⟩⟩ rfl rfl hl.1 rfl (lv_room (Nat.le_of_ble_eq_true rfl)) dX5_arrive_5 ⟨(Nat.le_of_ble_eq_true rfl), (Nat.le_of_ble_eq_true rfl)⟩) hS (fun q _ h => hFc q h) hFc (fun u t H1 locs ht hvm hpo hB hz1 hk1 hS => ?_)
  have hP1 := hB
  rw [ht] at hP1
  have hP : mw (dC, dI) vwCl A (TW cy L tr (V_arr a v ((a 0 0) 0)) κ τ) H1 := hP.join (fun _ _ h => h) hk1 hFc hP1 (fun _ _ h => Or.inl h)
  generalize H1 = H at hP hS ⊢
  clear hP1 hk1 hFc
  obtain ⟨b1, eb1⟩ : ∃ z : St, z = V_arr a v ((a 0 0) 0) := ⟨_, rfl⟩
  rw [← eb1] at hP
  refine lv_aload_n hx hb dX5_arrive_8 rfl (lv_at hl 0 rfl) ?_
  refine lv_dup hx hb dX5_arrive_9 rfl ?_
  refine va_get (D := (dC, dI)) (ws := [(L 0 0, .inr (5, [.ref (L 1 0), .ref (L 20 0), .ref (L 21 0), .ref (L 22 0), .ref (L 23 0), va_rf tr, .int ((b1 0 0) 0), .int ((b1 0 0) 1), .int ((b1 0 0) 2), .int ((b1 0 0) 3), .int ((b1 0 0) 4), .int ((b1 0 0) 5)]))]) (ci := 5) (v := .int ((b1 0 0) 5)) (C := RX5) (T := TX5) (N := 12) hx hb hts tl_X5 hown hK (hP.one (tw_mem (f := 0) (i := 0) (by decide) rfl)) 0 rfl rfl 11 (by decide) (hts _ tw_895) (fun _ h9 => h9) rfl dX5_arrive_10 ?_
  refine lv_iconst (v := 1) hx hb dX5_arrive_13 (by decide) ?_
  refine lv_isub hx hb dX5_arrive_14 ?_
  obtain ⟨ws9, k9, hPw, hDw, hk9, -, hbk⟩ := hP.cut (e := .inr (5, [.ref (L 1 0), .ref (L 20 0), .ref (L 21 0), .ref (L 22 0), .ref (L 23 0), va_rf tr, .int ((b1 0 0) 0), .int ((b1 0 0) 1), .int ((b1 0 0) 2), .int ((b1 0 0) 3), .int ((b1 0 0) 4), .int ((b1 0 0) 5)])) (tw_mem (f := 0) (i := 0) (by decide) rfl)
  refine va_put (D := (dC, dI)) (ci := 5) (v := .int (((b1 0 0) 5) - 1)) (ty := .int) (C := RX5) (T := TX5) (N := 12) hx hb hts tl_X5 tyX5 tyX5_ok nmX5 hown hK hPw hDw hS k9 hk9 rfl 11 (by decide) (hts _ tw_895) (fun _ h9 => h9) rfl (by decide +kernel) rfl rfl (Nat.le_of_ble_eq_true rfl) dX5_arrive_15 (fun H locs hPw hDw hS => ?_)
  have hP : mw (dC, dI) vwCl A (TW cy L tr (S2 b1 0 0 (upd (b1 0 0) 5 (((b1 0 0) 5) - 1))) κ τ) H := (hbk _ _ hPw hDw).sub (tw_set (b := S2 b1 0 0 (upd (b1 0 0) 5 (((b1 0 0) 5) - 1))) (f := 0) (i := 0) (x := upd (b1 0 0) 5 (((b1 0 0) 5) - 1)) hT (by decide) (by decide) rfl)
  clear hbk hPw hDw hk9
  obtain ⟨b2, eb2⟩ : ∃ z : St, z = S2 b1 0 0 (upd (b1 0 0) 5 (((b1 0 0) 5) - 1)) := ⟨_, rfl⟩
  rw [← eb2] at hP
  refine lv_aload_n hx hb dX5_arrive_18 rfl (lv_at hl 1 rfl) ?_
  refine va_getN (D := (dC, dI)) (ws := [(L 15 v, .inr (7, [.int ((b2 15 v) 0), .int ((b2 15 v) 1), .int ((b2 15 v) 2), .int ((b2 15 v) 3), .int ((b2 15 v) 4), .int ((b2 15 v) 5), .int ((b2 15 v) 6), .int ((b2 15 v) 7), .int ((b2 15 v) 8), .int ((b2 15 v) 9), .int ((b2 15 v) 10), .int ((b2 15 v) 11), .ref (L 16 v)]))]) (ci := 7) (v := .int ((b2 15 v) 0)) (C := RX7) (T := TX7) (N := 13) hx hb hts tl_X7 hown hK (hP.one (tw_mem (f := 15) (i := v) hv rfl)) 0 rfl rfl 0 (by decide) (va_Nw.use rfl (te_f45 hE)) (fun _ h9 => h9) rfl dX5_arrive_19 ?_
  refine lv_if_lt (tgt := 56) hx hb dX5_arrive_22 (by decide) (fun c_1 => ?_) (fun c_1 => ?_)
  · refine W.widen (k := 0) (n := 0) (Nat.le_of_ble_eq_true rfl) (Nat.le_of_ble_eq_true rfl) ?_
    have s_1 : b2 = T_arrive a v := by
      simp only [T_arrive, T_arr1, ← eb1, ← eb2]
      unfold T_arr2
      simp only [if_pos c_1]
    rw [s_1] at hP
    exact W.vret hx hb hr (fun t ht hW => ⟨⟨(), rfl, trivial, (by show mw _ _ _ _ t.heap; rw [ht]; exact hP)⟩, hS.F ht⟩) hS.2.2 dX5_arrive_56
  · refine lv_aload_n hx hb dX5_arrive_25 rfl (lv_at hl 1 rfl) ?_
    refine va_getN (D := (dC, dI)) (ws := [(L 15 v, .inr (7, [.int ((b2 15 v) 0), .int ((b2 15 v) 1), .int ((b2 15 v) 2), .int ((b2 15 v) 3), .int ((b2 15 v) 4), .int ((b2 15 v) 5), .int ((b2 15 v) 6), .int ((b2 15 v) 7), .int ((b2 15 v) 8), .int ((b2 15 v) 9), .int ((b2 15 v) 10), .int ((b2 15 v) 11), .ref (L 16 v)]))]) (ci := 7) (v := .int ((b2 15 v) 0)) (C := RX7) (T := TX7) (N := 13) hx hb hts tl_X7 hown hK (hP.one (tw_mem (f := 15) (i := v) hv rfl)) 0 rfl rfl 0 (by decide) (va_Nw.use rfl (te_f45 hE)) (fun _ h9 => h9) rfl dX5_arrive_26 ?_
    refine lv_aload_n hx hb dX5_arrive_29 rfl (lv_at hl 0 rfl) ?_
    refine va_get (D := (dC, dI)) (ws := [(L 0 0, .inr (5, [.ref (L 1 0), .ref (L 20 0), .ref (L 21 0), .ref (L 22 0), .ref (L 23 0), va_rf tr, .int ((b2 0 0) 0), .int ((b2 0 0) 1), .int ((b2 0 0) 2), .int ((b2 0 0) 3), .int ((b2 0 0) 4), .int ((b2 0 0) 5)]))]) (ci := 5) (v := .int ((b2 0 0) 3)) (C := RX5) (T := TX5) (N := 12) hx hb hts tl_X5 hown hK (hP.one (tw_mem (f := 0) (i := 0) (by decide) rfl)) 0 rfl rfl 9 (by decide) (hts _ tw_891) (fun _ h9 => h9) rfl dX5_arrive_30 ?_
    refine lv_icmp_ge (tgt := 56) hx hb dX5_arrive_33 (by decide) (fun c_2 => ?_) (fun c_2 => ?_)
    · refine W.widen (k := 0) (n := 0) (Nat.le_of_ble_eq_true rfl) (Nat.le_of_ble_eq_true rfl) ?_
      have s_2 : b2 = T_arrive a v := by
        simp only [T_arrive, T_arr1, ← eb1, ← eb2]
        unfold T_arr2
        simp only [if_neg c_1, if_pos c_2]
      rw [s_2] at hP
      exact W.vret hx hb hr (fun t ht hW => ⟨⟨(), rfl, trivial, (by show mw _ _ _ _ t.heap; rw [ht]; exact hP)⟩, hS.F ht⟩) hS.2.2 dX5_arrive_56
    · refine lv_aload_n hx hb dX5_arrive_36 rfl (lv_at hl 0 rfl) ?_
      refine va_get (D := (dC, dI)) (ws := [(L 0 0, .inr (5, [.ref (L 1 0), .ref (L 20 0), .ref (L 21 0), .ref (L 22 0), .ref (L 23 0), va_rf tr, .int ((b2 0 0) 0), .int ((b2 0 0) 1), .int ((b2 0 0) 2), .int ((b2 0 0) 3), .int ((b2 0 0) 4), .int ((b2 0 0) 5)]))]) (ci := 5) (v := .ref (L 22 0)) (C := RX5) (T := TX5) (N := 12) hx hb hts tl_X5 hown hK (hP.one (tw_mem (f := 0) (i := 0) (by decide) rfl)) 0 rfl rfl 3 (by decide) (hts _ tw_879) (fun _ h9 => h9) rfl dX5_arrive_37 ?_
      refine lv_aload_n hx hb dX5_arrive_40 rfl (lv_at hl 1 rfl) ?_
      refine va_getN (D := (dC, dI)) (ws := [(L 15 v, .inr (7, [.int ((b2 15 v) 0), .int ((b2 15 v) 1), .int ((b2 15 v) 2), .int ((b2 15 v) 3), .int ((b2 15 v) 4), .int ((b2 15 v) 5), .int ((b2 15 v) 6), .int ((b2 15 v) 7), .int ((b2 15 v) 8), .int ((b2 15 v) 9), .int ((b2 15 v) 10), .int ((b2 15 v) 11), .ref (L 16 v)]))]) (ci := 7) (v := .int ((b2 15 v) 0)) (C := RX7) (T := TX7) (N := 13) hx hb hts tl_X7 hown hK (hP.one (tw_mem (f := 15) (i := v) hv rfl)) 0 rfl rfl 0 (by decide) (va_Nw.use rfl (te_f45 hE)) (fun _ h9 => h9) rfl dX5_arrive_41 ?_
      have j_1 : ((b2 15 v) 0 : Int32).toNatClampNeg = ((b2 15 v) 0).toNatClampNeg := m_cl (m_nI c_1) (m_lt (n := 10) c_1 c_2 (by rw [eb2, eb1]; exact hw.1.2.2.1.2)) (by decide)
      refine va_aldq hx hb hK (ws := [(L 22 0, .inl (cy 6, 10, .inr (.inr (.inr (.inr (fun j => some (L 14 j)))))))]) (hP.one (tw_mem (f := 22) (i := 0) (by decide) rfl)) 0 6 rfl rfl (m_in (m_nI c_1) (m_lt (n := 10) c_1 c_2 (by rw [eb2, eb1]; exact hw.1.2.2.1.2)) (by decide)) dX5_arrive_44 ?_
      refine W.eq (g2 := F0 m 45 ls [.ref (L 14 (((b2 15 v) 0).toNatClampNeg))]) (by first | (rw [j_1]; done) | (rw [j_1]; rfl)) ?_
      refine lv_aload_n hx hb dX5_arrive_45 rfl (lv_at hl 1 rfl) ?_
      refine va_getN (D := (dC, dI)) (ws := [(L 15 v, .inr (7, [.int ((b2 15 v) 0), .int ((b2 15 v) 1), .int ((b2 15 v) 2), .int ((b2 15 v) 3), .int ((b2 15 v) 4), .int ((b2 15 v) 5), .int ((b2 15 v) 6), .int ((b2 15 v) 7), .int ((b2 15 v) 8), .int ((b2 15 v) 9), .int ((b2 15 v) 10), .int ((b2 15 v) 11), .ref (L 16 v)]))]) (ci := 7) (v := .int ((b2 15 v) 9)) (C := RX7) (T := TX7) (N := 13) hx hb hts tl_X7 hown hK (hP.one (tw_mem (f := 15) (i := v) hv rfl)) 0 rfl rfl 9 (by decide) (va_Nw.use rfl (te_f56 hE)) (fun _ h9 => h9) rfl dX5_arrive_46 ?_
      refine lv_aload_n hx hb dX5_arrive_49 rfl (lv_at hl 1 rfl) ?_
      refine va_getN (D := (dC, dI)) (ws := [(L 15 v, .inr (7, [.int ((b2 15 v) 0), .int ((b2 15 v) 1), .int ((b2 15 v) 2), .int ((b2 15 v) 3), .int ((b2 15 v) 4), .int ((b2 15 v) 5), .int ((b2 15 v) 6), .int ((b2 15 v) 7), .int ((b2 15 v) 8), .int ((b2 15 v) 9), .int ((b2 15 v) 10), .int ((b2 15 v) 11), .ref (L 16 v)]))]) (ci := 7) (v := .int ((b2 15 v) 10)) (C := RX7) (T := TX7) (N := 13) hx hb hts tl_X7 hown hK (hP.one (tw_mem (f := 15) (i := v) hv rfl)) 0 rfl rfl 10 (by decide) (va_Nw.use rfl (te_f58 hE)) (fun _ h9 => h9) rfl dX5_arrive_50 ?_
      have hFc := m_free (C := (TW cy L tr b2 κ τ)) hP hS hA (fun _ _ h => h)
      refine va_callv (va_runV (As := [.int ((b2 15 v) 9), .int ((b2 15 v) 10)]) (rest := []) ⟨hx, hb, hml, hown, hts⟩ (c_Flow_countTrip l dC dI cy L tr b2 κ τ (((b2 15 v) 0).toNatClampNeg) ((b2 15 v) 9) ((b2 15 v) 10) H.size hT (m_lt (n := 10) c_1 c_2 (by rw [eb2, eb1]; exact hw.1.2.2.1.2))) (tp_cwV 2 hts tw_287 tw_288 tw_289 tw_28 tw_290 rfl rfl (by decide +kernel) ⟨Nat.le_of_ble_eq_true rfl, Nat.le_of_ble_eq_true rfl⟩) ⟨m_blind, va_recv hK (hP.one (e := .inr (0, [.int ((b2 14 (((b2 15 v) 0).toNatClampNeg)) 0), .int ((b2 14 (((b2 15 v) 0).toNatClampNeg)) 1), .int ((b2 14 (((b2 15 v) 0).toNatClampNeg)) 2), .int ((b2 14 (((b2 15 v) 0).toNatClampNeg)) 3), .int ((b2 14 (((b2 15 v) 0).toNatClampNeg)) 4), .int ((b2 14 (((b2 15 v) 0).toNatClampNeg)) 5), .int ((b2 14 (((b2 15 v) 0).toNatClampNeg)) 6), .int ((b2 14 (((b2 15 v) 0).toNatClampNeg)) 7), .int ((b2 14 (((b2 15 v) 0).toNatClampNeg)) 8), .int ((b2 14 (((b2 15 v) 0).toNatClampNeg)) 9), .int ((b2 14 (((b2 15 v) 0).toNatClampNeg)) 10), .int ((b2 14 (((b2 15 v) 0).toNatClampNeg)) 11)])) (tw_mem (f := 14) (i := ((b2 15 v) 0).toNatClampNeg) (m_lt (n := 10) c_1 c_2 (by rw [eb2, eb1]; exact hw.1.2.2.1.2)) rfl)) (ci := 0) (q0 := 0) rfl rfl, fun U hU hW => ⟨rfl, m_pay hK hP hE (fun _ _ h => h) U hU hW⟩⟩ rfl rfl hl.1 rfl (lv_room (Nat.le_of_ble_eq_true rfl)) dX5_arrive_53 ⟨(Nat.le_of_ble_eq_true rfl), (Nat.le_of_ble_eq_true rfl)⟩) hS (fun q _ h => hFc q h) hFc (fun u t H1 locs ht hvm hpo hB hz1 hk1 hS => ?_)
      have hP1 := hB
      rw [ht] at hP1
      have hP : mw (dC, dI) vwCl A (TW cy L tr (F_trip b2 (((b2 15 v) 0).toNatClampNeg) ((b2 15 v) 9) ((b2 15 v) 10)) κ τ) H1 := hP.join (fun _ _ h => h) hk1 hFc hP1 (fun _ _ h => Or.inl h)
      generalize H1 = H at hP hS ⊢
      clear hP1 hk1 hFc
      obtain ⟨b3, eb3⟩ : ∃ z : St, z = F_trip b2 (((b2 15 v) 0).toNatClampNeg) ((b2 15 v) 9) ((b2 15 v) 10) := ⟨_, rfl⟩
      rw [← eb3] at hP
      refine W.widen (k := 0) (n := 0) (Nat.le_of_ble_eq_true rfl) (Nat.le_of_ble_eq_true rfl) ?_
      have s_3 : b3 = T_arrive a v := by
        rw [eb3]
        simp only [T_arrive, T_arr1, ← eb1, ← eb2]
        unfold T_arr2
        simp only [if_neg c_1, if_neg c_2]
      rw [s_3] at hP
      exact W.vret hx hb hr (fun t ht hW => ⟨⟨(), rfl, trivial, (by show mw _ _ _ _ t.heap; rw [ht]; exact hP)⟩, hS.F ht⟩) hS.2.2 dX5_arrive_56
set_option maxRecDepth 100000 in
set_option maxHeartbeats 4000000 in
/-- Traffic.playSignals -/
theorem c_Traffic_playSignals (l : Launch) (dC : Nat → ClassId) (dI : Nat → Nat → Nat) (cy : Nat → ClassId) (L : Lay) (tr : Option Nat) (a : St) (κ : Kap) (τ : Tau) (M : Nat) (sz : Nat) (hT : TL L tr τ) (hw : Wf M a) : Met l yX5_playSignals (tp_w yX5_playSignals cX5_playSignals 2 none) ({ frames := 3, cells := 0, slots := 0, locals := 65 }) (va_Pc [.ref (L 0 0)] (mPre dC dI cy (TW cy L tr a κ τ) sz)) (va_Qv (fun _ : Unit => True) (fun (_ : Unit) (t : State) => mw (dC, dI) vwCl (mA (TW cy L tr a κ τ) sz) (TW cy L tr (T_sigs a) κ τ) t.heap) (mA (TW cy L tr a κ τ) sz)) (0) (0) (mA (TW cy L tr a κ τ) sz) := by
  refine Met.ofW (cc := cX5_playSignals) (maxL := 2) (ret := none) (by decide) rfl ?_
  intro p e s m args below meth c s₁ B hml hv
  obtain ⟨rfl, hsz, hP, hK, hE⟩ := hv
  have hx := B.exec
  have hb := B.bytes
  have hr := B.returns
  have hts0 := atoms_spec (ws := tp_w yX5_playSignals cX5_playSignals 2 none) B.pre
  have hts : ∀ w ∈ tp_all, w.before _ s = true := fun w h => hts0 w (List.mem_cons_of_mem _ h)
  have hown : s.vm.findClass RX5 = some m.cls := findClass_of_methodNamed B.named
  have hlocks := B.notSynchronized
  subst hsz
  have hP := hP.self s.heap.size
  generalize hAe : mA (TW cy L tr a κ τ) s.heap.size = A at hP ⊢
  have hA : ∀ q : Nat, s.heap.size ≤ q → A q := fun q h => by rw [← hAe]; exact Or.inr h
  have hS : va_S A s.heap s.heap [] := va_S.rf
  have hl9 := lv_entry ([.ref (L 0 0)]) (n := 2) (Nat.le_of_ble_eq_true rfl)
  rw [lg_entry_eq]
  generalize (lg_sl ([.ref (L 0 0)]) ++ List.replicate (2 - (lg_sl ([.ref (L 0 0)])).length) Slot.unset).toArray = ls at hl9 ⊢
  have hl : lv_has ls 2 [(0, .ref (L 0 0))] := hl9
  refine lv_iconst (v := 0) hx hb dX5_playSignals_0 (by decide) ?_
  refine lv_istore_n (lv' := [(1, .int 0), (0, .ref (L 0 0))]) hx hb dX5_playSignals_1 rfl hl (by decide) rfl (fun ls hl => ?_)
  have hN : nN a ≤ 12 := in_le hw.1.2.1
  refine W.widen (k := (fun i => 0 + 0 * i) 0) (n := (fun i => 0 + 0 * i) 0) (Nat.le_refl _) (Nat.le_refl _) ?_
  refine tp_for (σ := Unit) (nN a) (fun i => 0 + 0 * i) (fun i => 0 + 0 * i) (fun (i : Nat) (x : Unit) (H : Heap) (locs : List Loc) (ls : Array Slot) => mw (dC, dI) vwCl A (TW cy L tr (itN (T_sig (a 0 0 0)) i a) κ τ) H ∧ va_S A s.heap H locs ∧ lv_has ls 2 [(1, .int (nI i)), (0, .ref (L 0 0))]) ?_ ?_ (nN a) 0 (Nat.zero_add _) (()) _ _ ls ⟨hP, hS, lv_sub hl [0, 1] rfl⟩
  · rintro _ H locs ls ⟨hP, hS, hl⟩
    have hl : lv_has ls 2 [(1, .int (nI (nN a))), (0, .ref (L 0 0))] := hl
    obtain ⟨b1, eb1⟩ : ∃ z : St, z = itN (T_sig (a 0 0 0)) (nN a) a := ⟨_, rfl⟩
    rw [← eb1] at hP
    have h0b1 : b1 0 = a 0 := by rw [eb1]; exact itN_keep (P := fun b => b 0 = a 0) rfl (fun i b h => by rw [T_sig_off (by decide)]; exact h) _
    refine lv_iload_n hx hb dX5_playSignals_2 rfl (lv_at hl 0 rfl) ?_
    refine lv_aload_n hx hb dX5_playSignals_3 rfl (lv_at hl 1 rfl) ?_
    refine va_get (D := (dC, dI)) (ws := [(L 0 0, .inr (5, [.ref (L 1 0), .ref (L 20 0), .ref (L 21 0), .ref (L 22 0), .ref (L 23 0), va_rf tr, .int ((b1 0 0) 0), .int ((b1 0 0) 1), .int ((b1 0 0) 2), .int ((b1 0 0) 3), .int ((b1 0 0) 4), .int ((b1 0 0) 5)]))]) (ci := 5) (v := .int ((b1 0 0) 2)) (C := RX5) (T := TX5) (N := 12) hx hb hts tl_X5 hown hK (hP.one (tw_mem (f := 0) (i := 0) (by decide) rfl)) 0 rfl rfl 8 (by decide) (hts _ tw_890) (fun _ h9 => h9) rfl dX5_playSignals_4 ?_
    refine W.eq (g2 := F0 m 7 ls [.int (nI (nN a)), .int (nI (nN a))]) (by rw [h0b1, in_nI hw.1.2.1]) ?_
    refine lv_icmp_ge (tgt := 57) hx hb dX5_playSignals_7 (by decide) (fun _ => ?_) (fun c_1 => absurd (Int32.le_refl _) c_1)
    refine W.widen (k := 0) (n := 0) (by show 0 + 0 * (nN a) + 0 ≤ 0; omega) (by show 0 + 0 * (nN a) + 0 ≤ 0; omega) ?_
    have s_1 : b1 = T_sigs a := by
      rw [eb1]
      rfl
    rw [s_1] at hP
    exact W.vret hx hb hr (fun t ht hW => ⟨⟨(), rfl, trivial, (by show mw _ _ _ _ t.heap; rw [ht]; exact hP)⟩, hS.F ht⟩) hS.2.2 dX5_playSignals_57
  · rintro i _ H locs ls hi ⟨hP, hS, hl⟩ ih
    have hl : lv_has ls 2 [(1, .int (nI i)), (0, .ref (L 0 0))] := hl
    obtain ⟨b1, eb1⟩ : ∃ z : St, z = itN (T_sig (a 0 0 0)) i a := ⟨_, rfl⟩
    rw [← eb1] at hP
    have h0b1 : b1 0 = a 0 := by rw [eb1]; exact itN_keep (P := fun b => b 0 = a 0) rfl (fun i b h => by rw [T_sig_off (by decide)]; exact h) _
    have hwb1 : Wf M b1 := by rw [eb1]; exact itN_keepB (N := nN a) hw (fun j _ hj hb => T_sig_Wf (Nat.lt_of_lt_of_le hj (in_le hw.1.2.1)) hb) _ (Nat.le_of_lt hi)
    refine lv_iload_n hx hb dX5_playSignals_2 rfl (lv_at hl 0 rfl) ?_
    refine lv_aload_n hx hb dX5_playSignals_3 rfl (lv_at hl 1 rfl) ?_
    refine va_get (D := (dC, dI)) (ws := [(L 0 0, .inr (5, [.ref (L 1 0), .ref (L 20 0), .ref (L 21 0), .ref (L 22 0), .ref (L 23 0), va_rf tr, .int ((b1 0 0) 0), .int ((b1 0 0) 1), .int ((b1 0 0) 2), .int ((b1 0 0) 3), .int ((b1 0 0) 4), .int ((b1 0 0) 5)]))]) (ci := 5) (v := .int ((b1 0 0) 2)) (C := RX5) (T := TX5) (N := 12) hx hb hts tl_X5 hown hK (hP.one (tw_mem (f := 0) (i := 0) (by decide) rfl)) 0 rfl rfl 8 (by decide) (hts _ tw_890) (fun _ h9 => h9) rfl dX5_playSignals_4 ?_
    refine W.eq (g2 := F0 m 7 ls [.int (nI (nN a)), .int (nI i)]) (by rw [h0b1, in_nI hw.1.2.1]) ?_
    refine lv_icmp_ge (tgt := 57) hx hb dX5_playSignals_7 (by decide) (fun c_2 => absurd c_2 (nI_ge hi (by omega))) (fun _ => ?_)
    refine lv_aload_n hx hb dX5_playSignals_10 rfl (lv_at hl 1 rfl) ?_
    refine va_get (D := (dC, dI)) (ws := [(L 0 0, .inr (5, [.ref (L 1 0), .ref (L 20 0), .ref (L 21 0), .ref (L 22 0), .ref (L 23 0), va_rf tr, .int ((b1 0 0) 0), .int ((b1 0 0) 1), .int ((b1 0 0) 2), .int ((b1 0 0) 3), .int ((b1 0 0) 4), .int ((b1 0 0) 5)]))]) (ci := 5) (v := .ref (L 20 0)) (C := RX5) (T := TX5) (N := 12) hx hb hts tl_X5 hown hK (hP.one (tw_mem (f := 0) (i := 0) (by decide) rfl)) 0 rfl rfl 1 (by decide) (hts _ tw_875) (fun _ h9 => h9) rfl dX5_playSignals_11 ?_
    refine lv_iload_n hx hb dX5_playSignals_14 rfl (lv_at hl 0 rfl) ?_
    have j_1 : (nI i : Int32).toNatClampNeg = i := m_cl rfl (Nat.lt_of_lt_of_le hi hN) (by decide)
    refine va_aldq hx hb hK (ws := [(L 20 0, .inl (cy 4, 12, .inr (.inr (.inr (.inr (fun j => some (L 8 j)))))))]) (hP.one (tw_mem (f := 20) (i := 0) (by decide) rfl)) 0 4 rfl rfl (m_in rfl (Nat.lt_of_lt_of_le hi hN) (by decide)) dX5_playSignals_15 ?_
    refine W.eq (g2 := F0 m 16 ls [.ref (L 8 i)]) (by first | (rw [j_1]; done) | (rw [j_1]; rfl)) ?_
    refine va_getN (D := (dC, dI)) (ws := [(L 8 i, .inr (4, [.ref (L 9 i), .ref (L 10 i), .ref (L 11 i), .int ((b1 8 i) 0), .int ((b1 8 i) 1), .int ((b1 8 i) 2)]))]) (ci := 4) (v := .int ((b1 8 i) 0)) (C := RX4) (T := TX4) (N := 6) hx hb hts tl_X4 hown hK (hP.one (tw_mem (f := 8) (i := i) (Nat.lt_of_lt_of_le hi hN) rfl)) 0 rfl rfl 3 (by decide) (va_Nw.use rfl (te_f28 hE)) (fun _ h9 => h9) rfl dX5_playSignals_16 ?_
    refine lv_if_le (tgt := 51) hx hb dX5_playSignals_19 (by decide) (fun c_3 => ?_) (fun c_3 => ?_)
    · refine lv_iinc (v := nI (i + 1)) (lv' := [(1, .int (nI (i + 1))), (0, .ref (L 0 0))]) hx hb dX5_playSignals_51 hl (k := 0) rfl (nI_1 i) (by decide) rfl (fun ls hl => ?_)
      refine lv_goto (tgt := 2) hx hb dX5_playSignals_54 (by decide) ?_
      have e9 : b1 = itN (T_sig (a 0 0 0)) (i + 1) a := by
        rw [show itN (T_sig (a 0 0 0)) (i + 1) a = T_sig (a 0 0 0) i b1 from by rw [eb1]; rfl]
        unfold T_sig
        rw [if_pos c_3]
      rw [e9] at hP
      refine W.widen (k := (fun i => 0 + 0 * i) (i + 1)) (n := (fun i => 0 + 0 * i) (i + 1)) (by show _ ≤ 0 + 0 * (i + 1); omega) (by show _ ≤ 0 + 0 * (i + 1); omega) ?_
      exact ih () _ _ ls ⟨hP, hS, lv_sub hl [0, 1] rfl⟩
    · refine lv_aload_n hx hb dX5_playSignals_22 rfl (lv_at hl 1 rfl) ?_
      refine va_get (D := (dC, dI)) (ws := [(L 0 0, .inr (5, [.ref (L 1 0), .ref (L 20 0), .ref (L 21 0), .ref (L 22 0), .ref (L 23 0), va_rf tr, .int ((b1 0 0) 0), .int ((b1 0 0) 1), .int ((b1 0 0) 2), .int ((b1 0 0) 3), .int ((b1 0 0) 4), .int ((b1 0 0) 5)]))]) (ci := 5) (v := .ref (L 20 0)) (C := RX5) (T := TX5) (N := 12) hx hb hts tl_X5 hown hK (hP.one (tw_mem (f := 0) (i := 0) (by decide) rfl)) 0 rfl rfl 1 (by decide) (hts _ tw_875) (fun _ h9 => h9) rfl dX5_playSignals_23 ?_
      refine lv_iload_n hx hb dX5_playSignals_26 rfl (lv_at hl 0 rfl) ?_
      have j_2 : (nI i : Int32).toNatClampNeg = i := m_cl rfl (Nat.lt_of_lt_of_le hi hN) (by decide)
      refine va_aldq hx hb hK (ws := [(L 20 0, .inl (cy 4, 12, .inr (.inr (.inr (.inr (fun j => some (L 8 j)))))))]) (hP.one (tw_mem (f := 20) (i := 0) (by decide) rfl)) 0 4 rfl rfl (m_in rfl (Nat.lt_of_lt_of_le hi hN) (by decide)) dX5_playSignals_27 ?_
      refine W.eq (g2 := F0 m 28 ls [.ref (L 8 i)]) (by first | (rw [j_2]; done) | (rw [j_2]; rfl)) ?_
      refine lv_aload_n hx hb dX5_playSignals_28 rfl (lv_at hl 1 rfl) ?_
      refine va_get (D := (dC, dI)) (ws := [(L 0 0, .inr (5, [.ref (L 1 0), .ref (L 20 0), .ref (L 21 0), .ref (L 22 0), .ref (L 23 0), va_rf tr, .int ((b1 0 0) 0), .int ((b1 0 0) 1), .int ((b1 0 0) 2), .int ((b1 0 0) 3), .int ((b1 0 0) 4), .int ((b1 0 0) 5)]))]) (ci := 5) (v := .ref (L 1 0)) (C := RX5) (T := TX5) (N := 12) hx hb hts tl_X5 hown hK (hP.one (tw_mem (f := 0) (i := 0) (by decide) rfl)) 0 rfl rfl 0 (by decide) (hts _ tw_873) (fun _ h9 => h9) rfl dX5_playSignals_29 ?_
      refine lv_aload_n hx hb dX5_playSignals_32 rfl (lv_at hl 1 rfl) ?_
      refine va_get (D := (dC, dI)) (ws := [(L 0 0, .inr (5, [.ref (L 1 0), .ref (L 20 0), .ref (L 21 0), .ref (L 22 0), .ref (L 23 0), va_rf tr, .int ((b1 0 0) 0), .int ((b1 0 0) 1), .int ((b1 0 0) 2), .int ((b1 0 0) 3), .int ((b1 0 0) 4), .int ((b1 0 0) 5)]))]) (ci := 5) (v := .int ((b1 0 0) 0)) (C := RX5) (T := TX5) (N := 12) hx hb hts tl_X5 hown hK (hP.one (tw_mem (f := 0) (i := 0) (by decide) rfl)) 0 rfl rfl 6 (by decide) (hts _ tw_885) (fun _ h9 => h9) rfl dX5_playSignals_33 ?_
      refine lv_aload_n hx hb dX5_playSignals_36 rfl (lv_at hl 1 rfl) ?_
      refine va_get (D := (dC, dI)) (ws := [(L 0 0, .inr (5, [.ref (L 1 0), .ref (L 20 0), .ref (L 21 0), .ref (L 22 0), .ref (L 23 0), va_rf tr, .int ((b1 0 0) 0), .int ((b1 0 0) 1), .int ((b1 0 0) 2), .int ((b1 0 0) 3), .int ((b1 0 0) 4), .int ((b1 0 0) 5)]))]) (ci := 5) (v := .ref (L 20 0)) (C := RX5) (T := TX5) (N := 12) hx hb hts tl_X5 hown hK (hP.one (tw_mem (f := 0) (i := 0) (by decide) rfl)) 0 rfl rfl 1 (by decide) (hts _ tw_875) (fun _ h9 => h9) rfl dX5_playSignals_37 ?_
      refine lv_iload_n hx hb dX5_playSignals_40 rfl (lv_at hl 0 rfl) ?_
      have j_3 : (nI i : Int32).toNatClampNeg = i := m_cl rfl (Nat.lt_of_lt_of_le hi hN) (by decide)
      refine va_aldq hx hb hK (ws := [(L 20 0, .inl (cy 4, 12, .inr (.inr (.inr (.inr (fun j => some (L 8 j)))))))]) (hP.one (tw_mem (f := 20) (i := 0) (by decide) rfl)) 0 4 rfl rfl (m_in rfl (Nat.lt_of_lt_of_le hi hN) (by decide)) dX5_playSignals_41 ?_
      refine W.eq (g2 := F0 m 42 ls [.ref (L 8 i), .int ((b1 0 0) 0), .ref (L 1 0), .ref (L 8 i)]) (by first | (rw [j_3]; done) | (rw [j_3]; rfl)) ?_
      have hFc := m_free (C := (TW cy L tr b1 κ τ)) hP hS hA (fun _ _ h => h)
      refine va_calli (va_runV (As := []) (rest := [.int ((b1 0 0) 0), .ref (L 1 0), .ref (L 8 i)]) ⟨hx, hb, hml, hown, hts⟩ (c_Signal_linksOn l dC dI cy L tr b1 κ τ i H.size hT (Nat.lt_of_lt_of_le hi hN) (hwb1.2.2.1 i (Nat.lt_of_lt_of_le hi hN)).1.2) (tp_cwV 0 hts tw_236 tw_237 tw_238 tw_27 tw_239 rfl rfl (by decide +kernel) ⟨Nat.le_of_ble_eq_true rfl, Nat.le_of_ble_eq_true rfl⟩) ⟨m_blind, va_recv hK (hP.one (e := .inr (4, [.ref (L 9 i), .ref (L 10 i), .ref (L 11 i), .int ((b1 8 i) 0), .int ((b1 8 i) 1), .int ((b1 8 i) 2)])) (tw_mem (f := 8) (i := i) (Nat.lt_of_lt_of_le hi hN) rfl)) (ci := 4) (q0 := 0) rfl rfl, fun U hU hW => ⟨rfl, m_pay hK hP hE (fun _ _ h => h) U hU hW⟩⟩ rfl rfl hl.1 rfl (lv_room (Nat.le_of_ble_eq_true rfl)) dX5_playSignals_42 ⟨(by show 0 + 0 * i + 0 ≤ 0; omega), (by show 0 + 0 * i + 0 ≤ 0; omega)⟩) hS (fun q _ h => hFc q h) hFc (fun r_1 u t H1 locs ht hvm hpo hB hz1 hk1 hS => ?_)
      obtain rfl := hpo
      obtain ⟨f_1, hP1⟩ := hB
      subst f_1
      rw [ht] at hP1
      have hP : mw (dC, dI) vwCl A (TW cy L tr b1 κ τ) H1 := hP.join (fun _ _ h => h) hk1 hFc hP1 (fun _ _ h => Or.inl h)
      generalize H1 = H at hP hS ⊢
      clear hP1 hk1 hFc
      have hFc := m_free (C := (TW cy L tr b1 κ τ)) hP hS hA (fun _ _ h => h)
      refine va_calli (va_runV (As := [.int ((b1 0 0) 0), .int (S_links b1 i)]) (rest := [.ref (L 8 i)]) ⟨hx, hb, hml, hown, hts⟩ (c_Roads_anyHasQueueIn l dC dI cy L tr b1 κ τ M ((b1 0 0) 0) (S_links b1 i) H.size hT hwb1) (tp_cwV 2 hts tw_245 tw_246 tw_247 tw_22 tw_248 rfl rfl (by decide +kernel) ⟨Nat.le_of_ble_eq_true rfl, Nat.le_of_ble_eq_true rfl⟩) ⟨m_blind, va_recv hK (hP.one (e := .inr (2, [.ref (L 24 0), .int ((b1 1 0) 0), .ref (L 25 0), .int κ.1])) (tw_mem (f := 1) (i := 0) (by decide) rfl)) (ci := 2) (q0 := 0) rfl rfl, fun U hU hW => ⟨rfl, m_pay hK hP hE (fun _ _ h => h) U hU hW⟩⟩ rfl rfl hl.1 rfl (lv_room (Nat.le_of_ble_eq_true rfl)) dX5_playSignals_45 ⟨(by show 0 + 0 * i + 0 + 0 ≤ 0; omega), (by show 0 + 0 * i + 0 + 0 ≤ 0; omega)⟩) hS (fun q _ h => hFc q h) hFc (fun r_2 u t H1 locs ht hvm hpo hB hz1 hk1 hS => ?_)
      obtain rfl := hpo
      obtain ⟨f_2, hP1⟩ := hB
      subst f_2
      rw [ht] at hP1
      have hP : mw (dC, dI) vwCl A (TW cy L tr b1 κ τ) H1 := hP.join (fun _ _ h => h) hk1 hFc hP1 (fun _ _ h => Or.inl h)
      generalize H1 = H at hP hS ⊢
      clear hP1 hk1 hFc
      have hFc := m_free (C := (TW cy L tr b1 κ τ)) hP hS hA (fun _ _ h => h)
      refine va_callv (va_runV (As := [.int (G_any b1 ((b1 0 0) 0) (S_links b1 i) (nL b1) 0)]) (rest := []) ⟨hx, hb, hml, hown, hts⟩ (c_Signal_playTick l dC dI cy L tr b1 κ τ i (G_any b1 ((b1 0 0) 0) (S_links b1 i) (nL b1) 0) H.size hT (Nat.lt_of_lt_of_le hi hN) (hwb1.2.2.1 i (Nat.lt_of_lt_of_le hi hN)).1.2) (tp_cwV 1 hts tw_253 tw_254 tw_255 tw_27 tw_256 rfl rfl (by decide +kernel) ⟨Nat.le_of_ble_eq_true rfl, Nat.le_of_ble_eq_true rfl⟩) ⟨m_blind, va_recv hK (hP.one (e := .inr (4, [.ref (L 9 i), .ref (L 10 i), .ref (L 11 i), .int ((b1 8 i) 0), .int ((b1 8 i) 1), .int ((b1 8 i) 2)])) (tw_mem (f := 8) (i := i) (Nat.lt_of_lt_of_le hi hN) rfl)) (ci := 4) (q0 := 0) rfl rfl, fun U hU hW => ⟨rfl, m_pay hK hP hE (fun _ _ h => h) U hU hW⟩⟩ rfl rfl hl.1 rfl (lv_room (Nat.le_of_ble_eq_true rfl)) dX5_playSignals_48 ⟨(by show 0 + 0 * i + 0 + 0 + 0 ≤ 0; omega), (by show 0 + 0 * i + 0 + 0 + 0 ≤ 0; omega)⟩) hS (fun q _ h => hFc q h) hFc (fun u t H1 locs ht hvm hpo hB hz1 hk1 hS => ?_)
      have hP1 := hB
      rw [ht] at hP1
      have hP : mw (dC, dI) vwCl A (TW cy L tr (S_play b1 i (G_any b1 ((b1 0 0) 0) (S_links b1 i) (nL b1) 0)) κ τ) H1 := hP.join (fun _ _ h => h) hk1 hFc hP1 (fun _ _ h => Or.inl h)
      generalize H1 = H at hP hS ⊢
      clear hP1 hk1 hFc
      obtain ⟨b2, eb2⟩ : ∃ z : St, z = S_play b1 i (G_any b1 ((b1 0 0) 0) (S_links b1 i) (nL b1) 0) := ⟨_, rfl⟩
      rw [← eb2] at hP
      refine lv_iinc (v := nI (i + 1)) (lv' := [(1, .int (nI (i + 1))), (0, .ref (L 0 0))]) hx hb dX5_playSignals_51 hl (k := 0) rfl (nI_1 i) (by decide) rfl (fun ls hl => ?_)
      refine lv_goto (tgt := 2) hx hb dX5_playSignals_54 (by decide) ?_
      have e9 : b2 = itN (T_sig (a 0 0 0)) (i + 1) a := by
        rw [show itN (T_sig (a 0 0 0)) (i + 1) a = T_sig (a 0 0 0) i b1 from by rw [eb1]; rfl]
        unfold T_sig
        rw [if_neg c_3, eb2, h0b1]
      rw [e9] at hP
      refine W.widen (k := (fun i => 0 + 0 * i) (i + 1)) (n := (fun i => 0 + 0 * i) (i + 1)) (by show _ ≤ 0 + 0 * (i + 1); omega) (by show _ ≤ 0 + 0 * (i + 1); omega) ?_
      exact ih () _ _ ls ⟨hP, hS, lv_sub hl [0, 1] rfl⟩
