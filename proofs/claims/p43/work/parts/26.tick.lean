theorem tw_169 : Cond.code yX2_playSlowTick cX2_playSlowTick 2 none ∈ tp_all := tp_mem 169 (by decide +kernel) rfl
theorem tw_166 : Cond.methodLink RX5 62 yX2_playSlowTick ∈ tp_all := tp_mem 166 (by decide +kernel) rfl
theorem tw_167 : Cond.instanceMethod yX2_playSlowTick ∈ tp_all := tp_mem 167 (by decide +kernel) rfl
theorem tw_168 : Cond.selects RX2 yX2_playSlowTick yX2_playSlowTick ∈ tp_all := tp_mem 168 (by decide +kernel) rfl
theorem tw_887 : Cond.fieldLink RX5 42 "Turnpike$Traffic" "refresh" "I" ∈ tp_all := tp_mem 887 (by decide +kernel) rfl
theorem tw_177 : Cond.code yX2_reckonCostsIn cX2_reckonCostsIn 4 none ∈ tp_all := tp_mem 177 (by decide +kernel) rfl
theorem tw_174 : Cond.methodLink RX5 68 yX2_reckonCostsIn ∈ tp_all := tp_mem 174 (by decide +kernel) rfl
theorem tw_175 : Cond.instanceMethod yX2_reckonCostsIn ∈ tp_all := tp_mem 175 (by decide +kernel) rfl
theorem tw_176 : Cond.selects RX2 yX2_reckonCostsIn yX2_reckonCostsIn ∈ tp_all := tp_mem 176 (by decide +kernel) rfl
theorem tw_195 : Cond.code yX5_bringVehicles cX5_bringVehicles 2 none ∈ tp_all := tp_mem 195 (by decide +kernel) rfl
theorem tw_191 : Cond.methodLink RX5 71 yX5_bringVehicles ∈ tp_all := tp_mem 191 (by decide +kernel) rfl
theorem tw_193 : Cond.instanceMethod yX5_bringVehicles ∈ tp_all := tp_mem 193 (by decide +kernel) rfl
theorem tw_2 : Cond.selects RX5 yX5_bringVehicles yX5_bringVehicles ∈ tp_all := tp_mem 2 (by decide +kernel) rfl
theorem tw_235 : Cond.code yX5_playSignals cX5_playSignals 2 none ∈ tp_all := tp_mem 235 (by decide +kernel) rfl
theorem tw_232 : Cond.methodLink RX5 74 yX5_playSignals ∈ tp_all := tp_mem 232 (by decide +kernel) rfl
theorem tw_234 : Cond.instanceMethod yX5_playSignals ∈ tp_all := tp_mem 234 (by decide +kernel) rfl
theorem tw_4 : Cond.selects RX5 yX5_playSignals yX5_playSignals ∈ tp_all := tp_mem 4 (by decide +kernel) rfl
theorem tw_260 : Cond.code yX5_driveOnLinks cX5_driveOnLinks 9 none ∈ tp_all := tp_mem 260 (by decide +kernel) rfl
theorem tw_257 : Cond.methodLink RX5 77 yX5_driveOnLinks ∈ tp_all := tp_mem 257 (by decide +kernel) rfl
theorem tw_259 : Cond.instanceMethod yX5_driveOnLinks ∈ tp_all := tp_mem 259 (by decide +kernel) rfl
theorem tw_6 : Cond.selects RX5 yX5_driveOnLinks yX5_driveOnLinks ∈ tp_all := tp_mem 6 (by decide +kernel) rfl
theorem tw_359 : Cond.code yX5_driveFromNodes cX5_driveFromNodes 4 none ∈ tp_all := tp_mem 359 (by decide +kernel) rfl
theorem tw_356 : Cond.methodLink RX5 80 yX5_driveFromNodes ∈ tp_all := tp_mem 356 (by decide +kernel) rfl
theorem tw_358 : Cond.instanceMethod yX5_driveFromNodes ∈ tp_all := tp_mem 358 (by decide +kernel) rfl
theorem tw_11 : Cond.selects RX5 yX5_driveFromNodes yX5_driveFromNodes ∈ tp_all := tp_mem 11 (by decide +kernel) rfl
theorem tw_364 : Cond.code yX2_countQueuesIn cX2_countQueuesIn 3 none ∈ tp_all := tp_mem 364 (by decide +kernel) rfl
theorem tw_361 : Cond.methodLink RX5 83 yX2_countQueuesIn ∈ tp_all := tp_mem 361 (by decide +kernel) rfl
theorem tw_362 : Cond.instanceMethod yX2_countQueuesIn ∈ tp_all := tp_mem 362 (by decide +kernel) rfl
theorem tw_363 : Cond.selects RX2 yX2_countQueuesIn yX2_countQueuesIn ∈ tp_all := tp_mem 363 (by decide +kernel) rfl
theorem dX5_tick_0 : decode cX5_tick 0 = .ok (.aload_n 0, 1) := by decide +kernel
theorem dX5_tick_1 : decode cX5_tick 1 = .ok (.getfield 12, 3) := by decide +kernel
theorem dX5_tick_4 : decode cX5_tick 4 = .ok (.invokevirtual 62, 3) := by decide +kernel
theorem dX5_tick_7 : decode cX5_tick 7 = .ok (.aload_n 0, 1) := by decide +kernel
theorem dX5_tick_8 : decode cX5_tick 8 = .ok (.getfield 42, 3) := by decide +kernel
theorem dX5_tick_11 : decode cX5_tick 11 = .ok (.ifCond .le 26, 3) := by decide +kernel
theorem dX5_tick_14 : decode cX5_tick 14 = .ok (.aload_n 0, 1) := by decide +kernel
theorem dX5_tick_15 : decode cX5_tick 15 = .ok (.getfield 65, 3) := by decide +kernel
theorem dX5_tick_18 : decode cX5_tick 18 = .ok (.aload_n 0, 1) := by decide +kernel
theorem dX5_tick_19 : decode cX5_tick 19 = .ok (.getfield 42, 3) := by decide +kernel
theorem dX5_tick_22 : decode cX5_tick 22 = .ok (.irem, 1) := by decide +kernel
theorem dX5_tick_23 : decode cX5_tick 23 = .ok (.ifCond .ne 14, 3) := by decide +kernel
theorem dX5_tick_26 : decode cX5_tick 26 = .ok (.aload_n 0, 1) := by decide +kernel
theorem dX5_tick_27 : decode cX5_tick 27 = .ok (.getfield 12, 3) := by decide +kernel
theorem dX5_tick_30 : decode cX5_tick 30 = .ok (.aload_n 0, 1) := by decide +kernel
theorem dX5_tick_31 : decode cX5_tick 31 = .ok (.getfield 65, 3) := by decide +kernel
theorem dX5_tick_34 : decode cX5_tick 34 = .ok (.invokevirtual 68, 3) := by decide +kernel
theorem dX5_tick_37 : decode cX5_tick 37 = .ok (.aload_n 0, 1) := by decide +kernel
theorem dX5_tick_38 : decode cX5_tick 38 = .ok (.invokevirtual 71, 3) := by decide +kernel
theorem dX5_tick_41 : decode cX5_tick 41 = .ok (.aload_n 0, 1) := by decide +kernel
theorem dX5_tick_42 : decode cX5_tick 42 = .ok (.invokevirtual 74, 3) := by decide +kernel
theorem dX5_tick_45 : decode cX5_tick 45 = .ok (.aload_n 0, 1) := by decide +kernel
theorem dX5_tick_46 : decode cX5_tick 46 = .ok (.invokevirtual 77, 3) := by decide +kernel
theorem dX5_tick_49 : decode cX5_tick 49 = .ok (.aload_n 0, 1) := by decide +kernel
theorem dX5_tick_50 : decode cX5_tick 50 = .ok (.invokevirtual 80, 3) := by decide +kernel
theorem dX5_tick_53 : decode cX5_tick 53 = .ok (.aload_n 0, 1) := by decide +kernel
theorem dX5_tick_54 : decode cX5_tick 54 = .ok (.getfield 12, 3) := by decide +kernel
theorem dX5_tick_57 : decode cX5_tick 57 = .ok (.aload_n 0, 1) := by decide +kernel
theorem dX5_tick_58 : decode cX5_tick 58 = .ok (.getfield 65, 3) := by decide +kernel
theorem dX5_tick_61 : decode cX5_tick 61 = .ok (.invokevirtual 83, 3) := by decide +kernel
theorem dX5_tick_64 : decode cX5_tick 64 = .ok (.aload_n 0, 1) := by decide +kernel
theorem dX5_tick_65 : decode cX5_tick 65 = .ok (.dup, 1) := by decide +kernel
theorem dX5_tick_66 : decode cX5_tick 66 = .ok (.getfield 65, 3) := by decide +kernel
theorem dX5_tick_69 : decode cX5_tick 69 = .ok (.iconst 1, 1) := by decide +kernel
theorem dX5_tick_70 : decode cX5_tick 70 = .ok (.iadd, 1) := by decide +kernel
theorem dX5_tick_71 : decode cX5_tick 71 = .ok (.putfield 65, 3) := by decide +kernel
theorem dX5_tick_74 : decode cX5_tick 74 = .ok (.return_, 1) := by decide +kernel
set_option maxRecDepth 100000 in
set_option maxHeartbeats 4000000 in
/-- Traffic.tick -/
theorem c_Traffic_tick (l : Launch) (dC : Nat → ClassId) (dI : Nat → Nat → Nat) (cy : Nat → ClassId) (L : Lay) (tr : Option Nat) (a : St) (κ : Kap) (τ : Tau) (M : Nat) (Bd : Nat) (sz : Nat) (hT : TL L tr τ) (hw : Wf M a) (hh : Hid L tr a κ τ) (hMB : M + 84 ≤ Bd) (hck : 0 ≤ (a 0 0 0).toInt) (hB2 : Bd < 30000) : Met l yX5_tick (tp_w yX5_tick cX5_tick 1 none) ({ frames := 6, cells := 84 * cT tr, slots := 84 * pB tr Bd, locals := 151 }) (va_Pc [.ref (L 0 0)] (mPre dC dI cy (TW cy L tr a κ τ) sz)) (va_Qv (fun _ : Unit => True) (fun (_ : Unit) (t : State) => ∃ (κ2 : Kap), ∃ (τ2 : Tau), (Hid L tr (T_tick a) κ2 τ2) ∧ mw (dC, dI) vwCl (mA (TW cy L tr a κ τ) sz) (TW cy L tr (T_tick a) κ2 τ2) t.heap) (mA (TW cy L tr a κ τ) sz)) (84 * cT tr) (84 * pB tr Bd) (mA (TW cy L tr a κ τ) sz) := by
  refine Met.ofW (cc := cX5_tick) (maxL := 1) (ret := none) (by decide) rfl ?_
  intro p e s m args below meth c s₁ B hml hv
  obtain ⟨rfl, hsz, hP, hK, hE⟩ := hv
  have hx := B.exec
  have hb := B.bytes
  have hr := B.returns
  have hts0 := atoms_spec (ws := tp_w yX5_tick cX5_tick 1 none) B.pre
  have hts : ∀ w ∈ tp_all, w.before _ s = true := fun w h => hts0 w (List.mem_cons_of_mem _ h)
  have hown : s.vm.findClass RX5 = some m.cls := findClass_of_methodNamed B.named
  have hlocks := B.notSynchronized
  subst hsz
  have hP := hP.self s.heap.size
  generalize hAe : mA (TW cy L tr a κ τ) s.heap.size = A at hP ⊢
  have hA : ∀ q : Nat, s.heap.size ≤ q → A q := fun q h => by rw [← hAe]; exact Or.inr h
  have hS : va_S A s.heap s.heap [] := va_S.rf
  have hl9 := lv_entry ([.ref (L 0 0)]) (n := 1) (Nat.le_of_ble_eq_true rfl)
  rw [lg_entry_eq]
  generalize (lg_sl ([.ref (L 0 0)]) ++ List.replicate (1 - (lg_sl ([.ref (L 0 0)])).length) Slot.unset).toArray = ls at hl9 ⊢
  have hl : lv_has ls 1 [(0, .ref (L 0 0))] := hl9
  refine lv_aload_n hx hb dX5_tick_0 rfl (lv_at hl 0 rfl) ?_
  refine va_get (D := (dC, dI)) (ws := [(L 0 0, .inr (5, [.ref (L 1 0), .ref (L 20 0), .ref (L 21 0), .ref (L 22 0), .ref (L 23 0), va_rf tr, .int ((a 0 0) 0), .int ((a 0 0) 1), .int ((a 0 0) 2), .int ((a 0 0) 3), .int ((a 0 0) 4), .int ((a 0 0) 5)]))]) (ci := 5) (v := .ref (L 1 0)) (C := RX5) (T := TX5) (N := 12) hx hb hts tl_X5 hown hK (hP.one (tw_mem (f := 0) (i := 0) (by decide) rfl)) 0 rfl rfl 0 (by decide) (hts _ tw_873) (fun _ h9 => h9) rfl dX5_tick_1 ?_
  have hFc := m_free (C := (TW cy L tr a κ τ)) hP hS hA (fun _ _ h => h)
  refine va_callv (va_runV (As := []) (rest := []) ⟨hx, hb, hml, hown, hts⟩ (c_Roads_playSlowTick l dC dI cy L tr a κ τ M s.heap.size hT hw) (tp_cwV 0 hts tw_166 tw_167 tw_168 tw_22 tw_169 rfl rfl (by decide +kernel) ⟨Nat.le_of_ble_eq_true rfl, Nat.le_of_ble_eq_true rfl⟩) ⟨m_blind, va_recv hK (hP.one (e := .inr (2, [.ref (L 24 0), .int ((a 1 0) 0), .ref (L 25 0), .int κ.1])) (tw_mem (f := 1) (i := 0) (by decide) rfl)) (ci := 2) (q0 := 0) rfl rfl, fun U hU hW => ⟨rfl, m_pay hK hP hE (fun _ _ h => h) U hU hW⟩⟩ rfl rfl hl.1 rfl (lv_room (Nat.le_of_ble_eq_true rfl)) dX5_tick_4 ⟨(by show 0 + 0 ≤ 84 * cT tr; omega), (by show 0 + 0 ≤ 84 * pB tr Bd; omega)⟩) hS (fun q _ h => hFc q h) hFc (fun u t H1 locs ht hvm hpo hB hz1 hk1 hS => ?_)
  have hP1 := hB
  rw [ht] at hP1
  have hP : mw (dC, dI) vwCl A (TW cy L tr (G_slow a) κ τ) H1 := hP.join (fun _ _ h => h) hk1 hFc hP1 (fun _ _ h => Or.inl h)
  generalize H1 = H at hP hS ⊢
  clear hP1 hk1 hFc
  obtain ⟨b1, eb1⟩ : ∃ z : St, z = G_slow a := ⟨_, rfl⟩
  rw [← eb1] at hP
  have hw1 : Wf M b1 := by rw [eb1]; exact G_slow_Wf hw
  have hh1 : Hid L tr b1 κ τ := by rw [eb1]; exact Hid.same hw G_slow_sameR G_slow_sameT hh
  have h01 : b1 0 = a 0 := by rw [eb1]; funext j; exact G_slow_off (by decide)
  suffices h37 : ∀ (κ5 : Kap), CV (T_costs b1) κ5 → ∀ ls : Array Slot, lv_has ls 1 [(0, .ref (L 0 0))] → ∀ (H : Heap) (locs : List Loc), mw (dC, dI) vwCl A (TW cy L tr (T_costs b1) κ5 τ) H → va_S A s.heap H locs → W p l e _ s m _ below meth c H locs (0 + 0) (0 + 0) _ (F0 m 37 ls []) by
    refine lv_aload_n hx hb dX5_tick_7 rfl (lv_at hl 0 rfl) ?_
    refine va_get (D := (dC, dI)) (ws := [(L 0 0, .inr (5, [.ref (L 1 0), .ref (L 20 0), .ref (L 21 0), .ref (L 22 0), .ref (L 23 0), va_rf tr, .int ((b1 0 0) 0), .int ((b1 0 0) 1), .int ((b1 0 0) 2), .int ((b1 0 0) 3), .int ((b1 0 0) 4), .int ((b1 0 0) 5)]))]) (ci := 5) (v := .int ((b1 0 0) 1)) (C := RX5) (T := TX5) (N := 12) hx hb hts tl_X5 hown hK (hP.one (tw_mem (f := 0) (i := 0) (by decide) rfl)) 0 rfl rfl 7 (by decide) (hts _ tw_887) (fun _ h9 => h9) rfl dX5_tick_8 ?_
    refine lv_if_le (tgt := 37) hx hb dX5_tick_11 (by decide) (fun c_1 => ?_) (fun c_1 => ?_)
    · have e37 : T_costs b1 = b1 := by unfold T_costs; rw [if_pos c_1]
      rw [← e37] at hP
      exact h37 κ (by rw [e37]; exact hh1.2.1) ls (lv_sub hl [0] rfl) _ _ hP hS
    · refine lv_aload_n hx hb dX5_tick_14 rfl (lv_at hl 0 rfl) ?_
      refine va_get (D := (dC, dI)) (ws := [(L 0 0, .inr (5, [.ref (L 1 0), .ref (L 20 0), .ref (L 21 0), .ref (L 22 0), .ref (L 23 0), va_rf tr, .int ((b1 0 0) 0), .int ((b1 0 0) 1), .int ((b1 0 0) 2), .int ((b1 0 0) 3), .int ((b1 0 0) 4), .int ((b1 0 0) 5)]))]) (ci := 5) (v := .int ((b1 0 0) 0)) (C := RX5) (T := TX5) (N := 12) hx hb hts tl_X5 hown hK (hP.one (tw_mem (f := 0) (i := 0) (by decide) rfl)) 0 rfl rfl 6 (by decide) (hts _ tw_885) (fun _ h9 => h9) rfl dX5_tick_15 ?_
      refine lv_aload_n hx hb dX5_tick_18 rfl (lv_at hl 0 rfl) ?_
      refine va_get (D := (dC, dI)) (ws := [(L 0 0, .inr (5, [.ref (L 1 0), .ref (L 20 0), .ref (L 21 0), .ref (L 22 0), .ref (L 23 0), va_rf tr, .int ((b1 0 0) 0), .int ((b1 0 0) 1), .int ((b1 0 0) 2), .int ((b1 0 0) 3), .int ((b1 0 0) 4), .int ((b1 0 0) 5)]))]) (ci := 5) (v := .int ((b1 0 0) 1)) (C := RX5) (T := TX5) (N := 12) hx hb hts tl_X5 hown hK (hP.one (tw_mem (f := 0) (i := 0) (by decide) rfl)) 0 rfl rfl 7 (by decide) (hts _ tw_887) (fun _ h9 => h9) rfl dX5_tick_19 ?_
      refine lv_irem hx hb dX5_tick_22 (m_ne0 c_1) ?_
      refine lv_if_ne (tgt := 37) hx hb dX5_tick_23 (by decide) (fun c_2 => ?_) (fun c_2 => ?_)
      · have e37 : T_costs b1 = b1 := by unfold T_costs; rw [if_neg c_1, if_neg c_2]
        rw [← e37] at hP
        exact h37 κ (by rw [e37]; exact hh1.2.1) ls (lv_sub hl [0] rfl) _ _ hP hS
      · refine lv_aload_n hx hb dX5_tick_26 rfl (lv_at hl 0 rfl) ?_
        refine va_get (D := (dC, dI)) (ws := [(L 0 0, .inr (5, [.ref (L 1 0), .ref (L 20 0), .ref (L 21 0), .ref (L 22 0), .ref (L 23 0), va_rf tr, .int ((b1 0 0) 0), .int ((b1 0 0) 1), .int ((b1 0 0) 2), .int ((b1 0 0) 3), .int ((b1 0 0) 4), .int ((b1 0 0) 5)]))]) (ci := 5) (v := .ref (L 1 0)) (C := RX5) (T := TX5) (N := 12) hx hb hts tl_X5 hown hK (hP.one (tw_mem (f := 0) (i := 0) (by decide) rfl)) 0 rfl rfl 0 (by decide) (hts _ tw_873) (fun _ h9 => h9) rfl dX5_tick_27 ?_
        refine lv_aload_n hx hb dX5_tick_30 rfl (lv_at hl 0 rfl) ?_
        refine va_get (D := (dC, dI)) (ws := [(L 0 0, .inr (5, [.ref (L 1 0), .ref (L 20 0), .ref (L 21 0), .ref (L 22 0), .ref (L 23 0), va_rf tr, .int ((b1 0 0) 0), .int ((b1 0 0) 1), .int ((b1 0 0) 2), .int ((b1 0 0) 3), .int ((b1 0 0) 4), .int ((b1 0 0) 5)]))]) (ci := 5) (v := .int ((b1 0 0) 0)) (C := RX5) (T := TX5) (N := 12) hx hb hts tl_X5 hown hK (hP.one (tw_mem (f := 0) (i := 0) (by decide) rfl)) 0 rfl rfl 6 (by decide) (hts _ tw_885) (fun _ h9 => h9) rfl dX5_tick_31 ?_
        have hFc := m_free (C := (TW cy L tr b1 κ τ)) hP hS hA (fun _ _ h => h)
        refine va_callv (va_runV (As := [.int ((b1 0 0) 0)]) (rest := []) ⟨hx, hb, hml, hown, hts⟩ (c_Roads_reckonCostsIn l dC dI cy L tr b1 κ τ M ((b1 0 0) 0) H.size hT hw1 hh1.2.1) (tp_cwV 1 hts tw_174 tw_175 tw_176 tw_22 tw_177 rfl rfl (by decide +kernel) ⟨Nat.le_of_ble_eq_true rfl, Nat.le_of_ble_eq_true rfl⟩) ⟨m_blind, va_recv hK (hP.one (e := .inr (2, [.ref (L 24 0), .int ((b1 1 0) 0), .ref (L 25 0), .int κ.1])) (tw_mem (f := 1) (i := 0) (by decide) rfl)) (ci := 2) (q0 := 0) rfl rfl, fun U hU hW => ⟨rfl, m_pay hK hP hE (fun _ _ h => h) U hU hW⟩⟩ rfl rfl hl.1 rfl (lv_room (Nat.le_of_ble_eq_true rfl)) dX5_tick_34 ⟨(by show 0 + 0 + 0 ≤ 84 * cT tr; omega), (by show 0 + 0 + 0 ≤ 84 * pB tr Bd; omega)⟩) hS (fun q _ h => hFc q h) hFc (fun u t H1 locs ht hvm hpo hB hz1 hk1 hS => ?_)
        obtain ⟨z_1, f_1, hP1⟩ := hB
        rw [ht] at hP1
        have hP : mw (dC, dI) vwCl A (TW cy L tr (G_reck b1 ((b1 0 0) 0)) z_1 τ) H1 := hP.join (fun _ _ h => h) hk1 hFc hP1 (fun _ _ h => Or.inl h)
        generalize H1 = H at hP hS ⊢
        clear hP1 hk1 hFc
        obtain ⟨b2, eb2⟩ : ∃ z : St, z = G_reck b1 ((b1 0 0) 0) := ⟨_, rfl⟩
        rw [← eb2] at hP
        have e37 : T_costs b1 = b2 := by unfold T_costs; rw [if_neg c_1, if_pos c_2]; rw [eb2]
        rw [← e37] at hP
        exact h37 z_1 (by rw [e37]; exact (by rw [eb2]; exact f_1)) ls (lv_sub hl [0] rfl) _ _ hP hS
  clear hP hS hl hl9 ls
  intro κ5 hc5 ls hl H locs hP hS
  obtain ⟨b2, eb2⟩ : ∃ z : St, z = T_costs b1 := ⟨_, rfl⟩
  rw [← eb2] at hP
  rw [← eb2] at hc5
  have hw2 : Wf M b2 := by rw [eb2]; unfold T_costs; split; exact hw1; split; exact G_reck_Wf hw1; exact hw1
  have h02 : b2 0 = a 0 := by rw [eb2, ← h01]; unfold T_costs; split; rfl; split; (funext j; exact G_reck_off (by decide)); rfl
  have ht2 : TRab tr b2 τ := by rw [eb2]; unfold T_costs; split; exact hh1.2.2; split; exact TRab.same G_reck_sameT hh1.2.2; exact hh1.2.2
  refine lv_aload_n hx hb dX5_tick_37 rfl (lv_at hl 0 rfl) ?_
  have hFc := m_free (C := (TW cy L tr b2 κ5 τ)) hP hS hA (fun _ _ h => h)
  refine va_callv (va_runV (As := []) (rest := []) ⟨hx, hb, hml, hown, hts⟩ (c_Traffic_bringVehicles l dC dI cy L tr b2 κ5 τ M H.size hT hw2 hc5) (tp_cwV 0 hts tw_191 tw_193 tw_2 tw_21 tw_195 rfl rfl (by decide +kernel) ⟨Nat.le_of_ble_eq_true rfl, Nat.le_of_ble_eq_true rfl⟩) ⟨m_blind, va_recv hK (hP.one (e := .inr (5, [.ref (L 1 0), .ref (L 20 0), .ref (L 21 0), .ref (L 22 0), .ref (L 23 0), va_rf tr, .int ((b2 0 0) 0), .int ((b2 0 0) 1), .int ((b2 0 0) 2), .int ((b2 0 0) 3), .int ((b2 0 0) 4), .int ((b2 0 0) 5)])) (tw_mem (f := 0) (i := 0) (by decide) rfl)) (ci := 5) (q0 := 0) rfl rfl, fun U hU hW => ⟨rfl, m_pay hK hP hE (fun _ _ h => h) U hU hW⟩⟩ rfl rfl hl.1 rfl (lv_room (Nat.le_of_ble_eq_true rfl)) dX5_tick_38 ⟨(by show 0 + 0 + 0 ≤ 84 * cT tr; omega), (by show 0 + 0 + 0 ≤ 84 * pB tr Bd; omega)⟩) hS (fun q _ h => hFc q h) hFc (fun u t H1 locs ht hvm hpo hB hz1 hk1 hS => ?_)
  obtain ⟨z_2, f_2, hP1⟩ := hB
  rw [ht] at hP1
  have hP : mw (dC, dI) vwCl A (TW cy L tr (T_flows b2) z_2 τ) H1 := hP.join (fun _ _ h => h) hk1 hFc hP1 (fun _ _ h => Or.inl h)
  generalize H1 = H at hP hS ⊢
  clear hP1 hk1 hFc
  obtain ⟨b3, eb3⟩ : ∃ z : St, z = T_flows b2 := ⟨_, rfl⟩
  rw [← eb3] at hP
  have hw3 : Wf M b3 := by rw [eb3]; exact T_flows_Wf hw2
  have ht3 : TRab tr b3 τ := by rw [eb3]; exact T_flows_TR hw2 ht2
  have hc3 : CV b3 z_2 := by rw [eb3]; exact f_2
  refine lv_aload_n hx hb dX5_tick_41 rfl (lv_at hl 0 rfl) ?_
  have hFc := m_free (C := (TW cy L tr b3 z_2 τ)) hP hS hA (fun _ _ h => h)
  refine va_callv (va_runV (As := []) (rest := []) ⟨hx, hb, hml, hown, hts⟩ (c_Traffic_playSignals l dC dI cy L tr b3 z_2 τ M H.size hT hw3) (tp_cwV 0 hts tw_232 tw_234 tw_4 tw_21 tw_235 rfl rfl (by decide +kernel) ⟨Nat.le_of_ble_eq_true rfl, Nat.le_of_ble_eq_true rfl⟩) ⟨m_blind, va_recv hK (hP.one (e := .inr (5, [.ref (L 1 0), .ref (L 20 0), .ref (L 21 0), .ref (L 22 0), .ref (L 23 0), va_rf tr, .int ((b3 0 0) 0), .int ((b3 0 0) 1), .int ((b3 0 0) 2), .int ((b3 0 0) 3), .int ((b3 0 0) 4), .int ((b3 0 0) 5)])) (tw_mem (f := 0) (i := 0) (by decide) rfl)) (ci := 5) (q0 := 0) rfl rfl, fun U hU hW => ⟨rfl, m_pay hK hP hE (fun _ _ h => h) U hU hW⟩⟩ rfl rfl hl.1 rfl (lv_room (Nat.le_of_ble_eq_true rfl)) dX5_tick_42 ⟨(by show 0 + 0 + 0 + 0 ≤ 84 * cT tr; omega), (by show 0 + 0 + 0 + 0 ≤ 84 * pB tr Bd; omega)⟩) hS (fun q _ h => hFc q h) hFc (fun u t H1 locs ht hvm hpo hB hz1 hk1 hS => ?_)
  have hP1 := hB
  rw [ht] at hP1
  have hP : mw (dC, dI) vwCl A (TW cy L tr (T_sigs b3) z_2 τ) H1 := hP.join (fun _ _ h => h) hk1 hFc hP1 (fun _ _ h => Or.inl h)
  generalize H1 = H at hP hS ⊢
  clear hP1 hk1 hFc
  obtain ⟨b4, eb4⟩ : ∃ z : St, z = T_sigs b3 := ⟨_, rfl⟩
  rw [← eb4] at hP
  have hw4 : Wf M b4 := by rw [eb4]; exact T_sigs_Wf hw3
  have hh4 : Hid L tr b4 z_2 τ := ⟨hT, by rw [eb4]; exact CV.same (sameR.of (T_sigs_off (by decide)).symm (T_sigs_off (by decide)).symm) (in_le hw3.1.1) hc3, by rw [eb4]; exact TRab.same (sameT.of (T_sigs_off (by decide)).symm (T_sigs_off (by decide)).symm (by rw [T_sigs_off (by decide)])) ht3⟩
  have hk4 : 0 ≤ (b4 0 0 0).toInt := by rw [eb4, T_sigs_off (by decide), eb3, T_flows_00 (by decide) (by decide), h02]; exact hck
  refine lv_aload_n hx hb dX5_tick_45 rfl (lv_at hl 0 rfl) ?_
  have hFc := m_free (C := (TW cy L tr b4 z_2 τ)) hP hS hA (fun _ _ h => h)
  refine va_callv (va_runV (As := []) (rest := []) ⟨hx, hb, hml, hown, hts⟩ (c_Traffic_driveOnLinks l dC dI cy L tr b4 z_2 τ M Bd H.size hT hw4 hh4 (by omega) hk4 hB2) (tp_cwV 0 hts tw_257 tw_259 tw_6 tw_21 tw_260 rfl rfl (by decide +kernel) ⟨Nat.le_of_ble_eq_true rfl, Nat.le_of_ble_eq_true rfl⟩) ⟨m_blind, va_recv hK (hP.one (e := .inr (5, [.ref (L 1 0), .ref (L 20 0), .ref (L 21 0), .ref (L 22 0), .ref (L 23 0), va_rf tr, .int ((b4 0 0) 0), .int ((b4 0 0) 1), .int ((b4 0 0) 2), .int ((b4 0 0) 3), .int ((b4 0 0) 4), .int ((b4 0 0) 5)])) (tw_mem (f := 0) (i := 0) (by decide) rfl)) (ci := 5) (q0 := 0) rfl rfl, fun U hU hW => ⟨rfl, m_pay hK hP hE (fun _ _ h => h) U hU hW⟩⟩ rfl rfl hl.1 rfl (lv_room (Nat.le_of_ble_eq_true rfl)) dX5_tick_46 ⟨(by show 0 + 0 + 0 + 0 + (72 * cT tr) ≤ 84 * cT tr; omega), (by show 0 + 0 + 0 + 0 + (72 * pB tr Bd) ≤ 84 * pB tr Bd; omega)⟩) hS (fun q _ h => hFc q h) hFc (fun u t H1 locs ht hvm hpo hB hz1 hk1 hS => ?_)
  obtain ⟨z_3, z_4, f_3, hP1⟩ := hB
  rw [ht] at hP1
  have hP : mw (dC, dI) vwCl A (TW cy L tr (T_links b4) z_3 z_4) H1 := hP.join (fun _ _ h => h) hk1 hFc hP1 (fun _ _ h => Or.inl h)
  generalize H1 = H at hP hS ⊢
  clear hP1 hk1 hFc
  obtain ⟨b5, eb5⟩ : ∃ z : St, z = T_links b4 := ⟨_, rfl⟩
  rw [← eb5] at hP
  have hw5 : Wf (M + 72) b5 := by rw [eb5]; exact T_links_Wf hw4 (by omega) hk4
  have hh5 : Hid L tr b5 z_3 z_4 := by rw [eb5]; exact f_3
  refine lv_aload_n hx hb dX5_tick_49 rfl (lv_at hl 0 rfl) ?_
  have hFc := m_free (C := (TW cy L tr b5 z_3 z_4)) hP hS hA (fun _ _ h => h)
  refine va_callv (va_runV (As := []) (rest := []) ⟨hx, hb, hml, hown, hts⟩ (c_Traffic_driveFromNodes l dC dI cy L tr b5 z_3 z_4 ((M + 72)) Bd H.size f_3.1 hw5 hh5 (by omega) hB2) (tp_cwV 0 hts tw_356 tw_358 tw_11 tw_21 tw_359 rfl rfl (by decide +kernel) ⟨Nat.le_of_ble_eq_true rfl, Nat.le_of_ble_eq_true rfl⟩) ⟨m_blind, va_recv hK (hP.one (e := .inr (5, [.ref (L 1 0), .ref (L 20 0), .ref (L 21 0), .ref (L 22 0), .ref (L 23 0), va_rf tr, .int ((b5 0 0) 0), .int ((b5 0 0) 1), .int ((b5 0 0) 2), .int ((b5 0 0) 3), .int ((b5 0 0) 4), .int ((b5 0 0) 5)])) (tw_mem (f := 0) (i := 0) (by decide) rfl)) (ci := 5) (q0 := 0) rfl rfl, fun U hU hW => ⟨rfl, m_pay hK hP hE (fun _ _ h => h) U hU hW⟩⟩ rfl rfl hl.1 rfl (lv_room (Nat.le_of_ble_eq_true rfl)) dX5_tick_50 ⟨(by show 0 + 0 + 0 + 0 + (72 * cT tr) + (12 * cT tr) ≤ 84 * cT tr; omega), (by show 0 + 0 + 0 + 0 + (72 * pB tr Bd) + (12 * pB tr Bd) ≤ 84 * pB tr Bd; omega)⟩) hS (fun q _ h => hFc q h) hFc (fun u t H1 locs ht hvm hpo hB hz1 hk1 hS => ?_)
  obtain ⟨z_5, z_6, f_4, hP1⟩ := hB
  rw [ht] at hP1
  have hP : mw (dC, dI) vwCl A (TW cy L tr (T_nodes b5) z_5 z_6) H1 := hP.join (fun _ _ h => h) hk1 hFc hP1 (fun _ _ h => Or.inl h)
  generalize H1 = H at hP hS ⊢
  clear hP1 hk1 hFc
  obtain ⟨b6, eb6⟩ : ∃ z : St, z = T_nodes b5 := ⟨_, rfl⟩
  rw [← eb6] at hP
  have hw6 : Wf (M + 72 + 12) b6 := by rw [eb6]; exact T_nodes_Wf hw5 (by omega)
  have hh6 : Hid L tr b6 z_5 z_6 := by rw [eb6]; exact f_4
  refine lv_aload_n hx hb dX5_tick_53 rfl (lv_at hl 0 rfl) ?_
  refine va_get (D := (dC, dI)) (ws := [(L 0 0, .inr (5, [.ref (L 1 0), .ref (L 20 0), .ref (L 21 0), .ref (L 22 0), .ref (L 23 0), va_rf tr, .int ((b6 0 0) 0), .int ((b6 0 0) 1), .int ((b6 0 0) 2), .int ((b6 0 0) 3), .int ((b6 0 0) 4), .int ((b6 0 0) 5)]))]) (ci := 5) (v := .ref (L 1 0)) (C := RX5) (T := TX5) (N := 12) hx hb hts tl_X5 hown hK (hP.one (tw_mem (f := 0) (i := 0) (by decide) rfl)) 0 rfl rfl 0 (by decide) (hts _ tw_873) (fun _ h9 => h9) rfl dX5_tick_54 ?_
  refine lv_aload_n hx hb dX5_tick_57 rfl (lv_at hl 0 rfl) ?_
  refine va_get (D := (dC, dI)) (ws := [(L 0 0, .inr (5, [.ref (L 1 0), .ref (L 20 0), .ref (L 21 0), .ref (L 22 0), .ref (L 23 0), va_rf tr, .int ((b6 0 0) 0), .int ((b6 0 0) 1), .int ((b6 0 0) 2), .int ((b6 0 0) 3), .int ((b6 0 0) 4), .int ((b6 0 0) 5)]))]) (ci := 5) (v := .int ((b6 0 0) 0)) (C := RX5) (T := TX5) (N := 12) hx hb hts tl_X5 hown hK (hP.one (tw_mem (f := 0) (i := 0) (by decide) rfl)) 0 rfl rfl 6 (by decide) (hts _ tw_885) (fun _ h9 => h9) rfl dX5_tick_58 ?_
  have hFc := m_free (C := (TW cy L tr b6 z_5 z_6)) hP hS hA (fun _ _ h => h)
  refine va_callv (va_runV (As := [.int ((b6 0 0) 0)]) (rest := []) ⟨hx, hb, hml, hown, hts⟩ (c_Roads_countQueuesIn l dC dI cy L tr b6 z_5 z_6 ((M + 72 + 12)) ((b6 0 0) 0) H.size f_4.1 hw6) (tp_cwV 1 hts tw_361 tw_362 tw_363 tw_22 tw_364 rfl rfl (by decide +kernel) ⟨Nat.le_of_ble_eq_true rfl, Nat.le_of_ble_eq_true rfl⟩) ⟨m_blind, va_recv hK (hP.one (e := .inr (2, [.ref (L 24 0), .int ((b6 1 0) 0), .ref (L 25 0), .int z_5.1])) (tw_mem (f := 1) (i := 0) (by decide) rfl)) (ci := 2) (q0 := 0) rfl rfl, fun U hU hW => ⟨rfl, m_pay hK hP hE (fun _ _ h => h) U hU hW⟩⟩ rfl rfl hl.1 rfl (lv_room (Nat.le_of_ble_eq_true rfl)) dX5_tick_61 ⟨(by show 0 + 0 + 0 + 0 + (72 * cT tr) + (12 * cT tr) + 0 ≤ 84 * cT tr; omega), (by show 0 + 0 + 0 + 0 + (72 * pB tr Bd) + (12 * pB tr Bd) + 0 ≤ 84 * pB tr Bd; omega)⟩) hS (fun q _ h => hFc q h) hFc (fun u t H1 locs ht hvm hpo hB hz1 hk1 hS => ?_)
  have hP1 := hB
  rw [ht] at hP1
  have hP : mw (dC, dI) vwCl A (TW cy L tr (G_cq b6 ((b6 0 0) 0)) z_5 z_6) H1 := hP.join (fun _ _ h => h) hk1 hFc hP1 (fun _ _ h => Or.inl h)
  generalize H1 = H at hP hS ⊢
  clear hP1 hk1 hFc
  obtain ⟨b7, eb7⟩ : ∃ z : St, z = G_cq b6 ((b6 0 0) 0) := ⟨_, rfl⟩
  rw [← eb7] at hP
  have hw7 : Wf (M + 72 + 12) b7 := by rw [eb7]; exact G_cq_Wf hw6
  have hh7 : Hid L tr b7 z_5 z_6 := by rw [eb7]; exact Hid.same hw6 G_cq_sameR G_cq_sameT hh6
  refine lv_aload_n hx hb dX5_tick_64 rfl (lv_at hl 0 rfl) ?_
  refine lv_dup hx hb dX5_tick_65 rfl ?_
  refine va_get (D := (dC, dI)) (ws := [(L 0 0, .inr (5, [.ref (L 1 0), .ref (L 20 0), .ref (L 21 0), .ref (L 22 0), .ref (L 23 0), va_rf tr, .int ((b7 0 0) 0), .int ((b7 0 0) 1), .int ((b7 0 0) 2), .int ((b7 0 0) 3), .int ((b7 0 0) 4), .int ((b7 0 0) 5)]))]) (ci := 5) (v := .int ((b7 0 0) 0)) (C := RX5) (T := TX5) (N := 12) hx hb hts tl_X5 hown hK (hP.one (tw_mem (f := 0) (i := 0) (by decide) rfl)) 0 rfl rfl 6 (by decide) (hts _ tw_885) (fun _ h9 => h9) rfl dX5_tick_66 ?_
  refine lv_iconst (v := 1) hx hb dX5_tick_69 (by decide) ?_
  refine lv_iadd hx hb dX5_tick_70 ?_
  obtain ⟨ws9, k9, hPw, hDw, hk9, -, hbk⟩ := hP.cut (e := .inr (5, [.ref (L 1 0), .ref (L 20 0), .ref (L 21 0), .ref (L 22 0), .ref (L 23 0), va_rf tr, .int ((b7 0 0) 0), .int ((b7 0 0) 1), .int ((b7 0 0) 2), .int ((b7 0 0) 3), .int ((b7 0 0) 4), .int ((b7 0 0) 5)])) (tw_mem (f := 0) (i := 0) (by decide) rfl)
  refine va_put (D := (dC, dI)) (ci := 5) (v := .int (((b7 0 0) 0) + 1)) (ty := .int) (C := RX5) (T := TX5) (N := 12) hx hb hts tl_X5 tyX5 tyX5_ok nmX5 hown hK hPw hDw hS k9 hk9 rfl 6 (by decide) (hts _ tw_885) (fun _ h9 => h9) rfl (by decide +kernel) rfl rfl (Nat.le_of_ble_eq_true rfl) dX5_tick_71 (fun H locs hPw hDw hS => ?_)
  have hP : mw (dC, dI) vwCl A (TW cy L tr (S2 b7 0 0 (upd (b7 0 0) 0 (((b7 0 0) 0) + 1))) z_5 z_6) H := (hbk _ _ hPw hDw).sub (tw_set (b := S2 b7 0 0 (upd (b7 0 0) 0 (((b7 0 0) 0) + 1))) (f := 0) (i := 0) (x := upd (b7 0 0) 0 (((b7 0 0) 0) + 1)) f_4.1 (by decide) (by decide) rfl)
  clear hbk hPw hDw hk9
  refine W.widen (k := 84 * cT tr) (n := 84 * pB tr Bd) (by show 0 + 0 + 0 + 0 + (72 * cT tr) + (12 * cT tr) + 0 + 0 ≤ 84 * cT tr; omega) (by show 0 + 0 + 0 + 0 + (72 * pB tr Bd) + (12 * pB tr Bd) + 0 + 0 ≤ 84 * pB tr Bd; omega) ?_
  have s_1 : S2 b7 0 0 (upd (b7 0 0) 0 (((b7 0 0) 0) + 1)) = T_tick a := by
    have e6 : b6 = T_play (T_costs (G_slow a)) := by rw [eb6, eb5, eb4, eb3, eb2, eb1]; rfl
    unfold T_tick
    rw [← e6, ← eb7]
    rfl
  rw [s_1] at hP
  have g_1 : Hid L tr (T_tick a) z_5 z_6 := by
    rw [← s_1]
    exact Hid.same hw7 (sameR.off (by decide) (by decide)) (sameT.z0 (x := upd (b7 0 0) 0 (b7 0 0 0 + 1)) rfl) hh7
  exact W.vret hx hb hr (fun t ht hW => ⟨⟨(), rfl, trivial, ⟨z_5, z_6, g_1, by show mw _ _ _ _ t.heap; rw [ht]; exact hP⟩⟩, hS.F ht⟩) hS.2.2 dX5_tick_74
