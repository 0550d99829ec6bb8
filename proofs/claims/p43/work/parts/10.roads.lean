theorem tw_701 : Cond.fieldLink RX2 66 "Turnpike$Roads" "reckoned" "I" ∈ tp_all := tp_mem 701 (by decide +kernel) rfl
theorem tw_697 : Cond.fieldLink RX2 23 "Turnpike$Roads" "links" "I" ∈ tp_all := tp_mem 697 (by decide +kernel) rfl
theorem tw_695 : Cond.fieldLink RX2 11 "Turnpike$Roads" "link" "[LTurnpike$Link;" ∈ tp_all := tp_mem 695 (by decide +kernel) rfl
theorem tw_173 : Cond.code yX1_playSlowTick cX1_playSlowTick 1 none ∈ tp_all := tp_mem 173 (by decide +kernel) rfl
theorem tw_170 : Cond.methodLink RX2 55 yX1_playSlowTick ∈ tp_all := tp_mem 170 (by decide +kernel) rfl
theorem tw_171 : Cond.instanceMethod yX1_playSlowTick ∈ tp_all := tp_mem 171 (by decide +kernel) rfl
theorem tw_172 : Cond.selects RX1 yX1_playSlowTick yX1_playSlowTick ∈ tp_all := tp_mem 172 (by decide +kernel) rfl
theorem tw_368 : Cond.code yX1_countQueueIn cX1_countQueueIn 3 none ∈ tp_all := tp_mem 368 (by decide +kernel) rfl
theorem tw_365 : Cond.methodLink RX2 62 yX1_countQueueIn ∈ tp_all := tp_mem 365 (by decide +kernel) rfl
theorem tw_366 : Cond.instanceMethod yX1_countQueueIn ∈ tp_all := tp_mem 366 (by decide +kernel) rfl
theorem tw_367 : Cond.selects RX1 yX1_countQueueIn yX1_countQueueIn ∈ tp_all := tp_mem 367 (by decide +kernel) rfl
theorem tw_252 : Cond.code yX1_hasQueueIn cX1_hasQueueIn 2 (some .boolean) ∈ tp_all := tp_mem 252 (by decide +kernel) rfl
theorem tw_249 : Cond.methodLink RX2 51 yX1_hasQueueIn ∈ tp_all := tp_mem 249 (by decide +kernel) rfl
theorem tw_250 : Cond.instanceMethod yX1_hasQueueIn ∈ tp_all := tp_mem 250 (by decide +kernel) rfl
theorem tw_251 : Cond.selects RX1 yX1_hasQueueIn yX1_hasQueueIn ∈ tp_all := tp_mem 251 (by decide +kernel) rfl
theorem dX2_forgetWays_0 : decode cX2_forgetWays 0 = .ok (.aload_n 0, 1) := by decide +kernel
theorem dX2_forgetWays_1 : decode cX2_forgetWays 1 = .ok (.iconst 0, 1) := by decide +kernel
theorem dX2_forgetWays_2 : decode cX2_forgetWays 2 = .ok (.putfield 66, 3) := by decide +kernel
theorem dX2_forgetWays_5 : decode cX2_forgetWays 5 = .ok (.return_, 1) := by decide +kernel
theorem dX2_find_0 : decode cX2_find 0 = .ok (.iload_n 1, 1) := by decide +kernel
theorem dX2_find_1 : decode cX2_find 1 = .ok (.ifCond .lt 20, 3) := by decide +kernel
theorem dX2_find_21 : decode cX2_find 21 = .ok (.aconst_null, 1) := by decide +kernel
theorem dX2_find_22 : decode cX2_find 22 = .ok (.areturn, 1) := by decide +kernel
theorem dX2_find_4 : decode cX2_find 4 = .ok (.iload_n 1, 1) := by decide +kernel
theorem dX2_find_5 : decode cX2_find 5 = .ok (.aload_n 0, 1) := by decide +kernel
theorem dX2_find_6 : decode cX2_find 6 = .ok (.getfield 23, 3) := by decide +kernel
theorem dX2_find_9 : decode cX2_find 9 = .ok (.if_icmp .ge 12, 3) := by decide +kernel
theorem dX2_find_12 : decode cX2_find 12 = .ok (.aload_n 0, 1) := by decide +kernel
theorem dX2_find_13 : decode cX2_find 13 = .ok (.getfield 11, 3) := by decide +kernel
theorem dX2_find_16 : decode cX2_find 16 = .ok (.iload_n 1, 1) := by decide +kernel
theorem dX2_find_17 : decode cX2_find 17 = .ok (.aaload, 1) := by decide +kernel
theorem dX2_find_18 : decode cX2_find 18 = .ok (.goto 4, 3) := by decide +kernel
theorem dX2_playSlowTick_0 : decode cX2_playSlowTick 0 = .ok (.iconst 0, 1) := by decide +kernel
theorem dX2_playSlowTick_1 : decode cX2_playSlowTick 1 = .ok (.istore_n 1, 1) := by decide +kernel
theorem dX2_playSlowTick_2 : decode cX2_playSlowTick 2 = .ok (.iload_n 1, 1) := by decide +kernel
theorem dX2_playSlowTick_3 : decode cX2_playSlowTick 3 = .ok (.aload_n 0, 1) := by decide +kernel
theorem dX2_playSlowTick_4 : decode cX2_playSlowTick 4 = .ok (.getfield 23, 3) := by decide +kernel
theorem dX2_playSlowTick_7 : decode cX2_playSlowTick 7 = .ok (.if_icmp .ge 18, 3) := by decide +kernel
theorem dX2_playSlowTick_25 : decode cX2_playSlowTick 25 = .ok (.return_, 1) := by decide +kernel
theorem dX2_playSlowTick_10 : decode cX2_playSlowTick 10 = .ok (.aload_n 0, 1) := by decide +kernel
theorem dX2_playSlowTick_11 : decode cX2_playSlowTick 11 = .ok (.getfield 11, 3) := by decide +kernel
theorem dX2_playSlowTick_14 : decode cX2_playSlowTick 14 = .ok (.iload_n 1, 1) := by decide +kernel
theorem dX2_playSlowTick_15 : decode cX2_playSlowTick 15 = .ok (.aaload, 1) := by decide +kernel
theorem dX2_playSlowTick_16 : decode cX2_playSlowTick 16 = .ok (.invokevirtual 55, 3) := by decide +kernel
theorem dX2_playSlowTick_19 : decode cX2_playSlowTick 19 = .ok (.iinc 1 1, 3) := by decide +kernel
theorem dX2_playSlowTick_22 : decode cX2_playSlowTick 22 = .ok (.goto (-20), 3) := by decide +kernel
theorem dX2_countQueuesIn_0 : decode cX2_countQueuesIn 0 = .ok (.iconst 0, 1) := by decide +kernel
theorem dX2_countQueuesIn_1 : decode cX2_countQueuesIn 1 = .ok (.istore_n 2, 1) := by decide +kernel
theorem dX2_countQueuesIn_2 : decode cX2_countQueuesIn 2 = .ok (.iload_n 2, 1) := by decide +kernel
theorem dX2_countQueuesIn_3 : decode cX2_countQueuesIn 3 = .ok (.aload_n 0, 1) := by decide +kernel
theorem dX2_countQueuesIn_4 : decode cX2_countQueuesIn 4 = .ok (.getfield 23, 3) := by decide +kernel
theorem dX2_countQueuesIn_7 : decode cX2_countQueuesIn 7 = .ok (.if_icmp .ge 19, 3) := by decide +kernel
theorem dX2_countQueuesIn_26 : decode cX2_countQueuesIn 26 = .ok (.return_, 1) := by decide +kernel
theorem dX2_countQueuesIn_10 : decode cX2_countQueuesIn 10 = .ok (.aload_n 0, 1) := by decide +kernel
theorem dX2_countQueuesIn_11 : decode cX2_countQueuesIn 11 = .ok (.getfield 11, 3) := by decide +kernel
theorem dX2_countQueuesIn_14 : decode cX2_countQueuesIn 14 = .ok (.iload_n 2, 1) := by decide +kernel
theorem dX2_countQueuesIn_15 : decode cX2_countQueuesIn 15 = .ok (.aaload, 1) := by decide +kernel
theorem dX2_countQueuesIn_16 : decode cX2_countQueuesIn 16 = .ok (.iload_n 1, 1) := by decide +kernel
theorem dX2_countQueuesIn_17 : decode cX2_countQueuesIn 17 = .ok (.invokevirtual 62, 3) := by decide +kernel
theorem dX2_countQueuesIn_20 : decode cX2_countQueuesIn 20 = .ok (.iinc 2 1, 3) := by decide +kernel
theorem dX2_countQueuesIn_23 : decode cX2_countQueuesIn 23 = .ok (.goto (-21), 3) := by decide +kernel
theorem dX2_anyHasQueueIn_0 : decode cX2_anyHasQueueIn 0 = .ok (.iconst 0, 1) := by decide +kernel
theorem dX2_anyHasQueueIn_1 : decode cX2_anyHasQueueIn 1 = .ok (.istore_n 3, 1) := by decide +kernel
theorem dX2_anyHasQueueIn_2 : decode cX2_anyHasQueueIn 2 = .ok (.iload_n 3, 1) := by decide +kernel
theorem dX2_anyHasQueueIn_3 : decode cX2_anyHasQueueIn 3 = .ok (.aload_n 0, 1) := by decide +kernel
theorem dX2_anyHasQueueIn_4 : decode cX2_anyHasQueueIn 4 = .ok (.getfield 23, 3) := by decide +kernel
theorem dX2_anyHasQueueIn_7 : decode cX2_anyHasQueueIn 7 = .ok (.if_icmp .ge 33, 3) := by decide +kernel
theorem dX2_anyHasQueueIn_40 : decode cX2_anyHasQueueIn 40 = .ok (.iconst 0, 1) := by decide +kernel
theorem dX2_anyHasQueueIn_41 : decode cX2_anyHasQueueIn 41 = .ok (.ireturn, 1) := by decide +kernel
theorem dX2_anyHasQueueIn_10 : decode cX2_anyHasQueueIn 10 = .ok (.iload_n 2, 1) := by decide +kernel
theorem dX2_anyHasQueueIn_11 : decode cX2_anyHasQueueIn 11 = .ok (.iload_n 3, 1) := by decide +kernel
theorem dX2_anyHasQueueIn_12 : decode cX2_anyHasQueueIn 12 = .ok (.ishr, 1) := by decide +kernel
theorem dX2_anyHasQueueIn_13 : decode cX2_anyHasQueueIn 13 = .ok (.iconst 1, 1) := by decide +kernel
theorem dX2_anyHasQueueIn_14 : decode cX2_anyHasQueueIn 14 = .ok (.iand, 1) := by decide +kernel
theorem dX2_anyHasQueueIn_15 : decode cX2_anyHasQueueIn 15 = .ok (.iconst 1, 1) := by decide +kernel
theorem dX2_anyHasQueueIn_16 : decode cX2_anyHasQueueIn 16 = .ok (.if_icmp .ne 18, 3) := by decide +kernel
theorem dX2_anyHasQueueIn_34 : decode cX2_anyHasQueueIn 34 = .ok (.iinc 3 1, 3) := by decide +kernel
theorem dX2_anyHasQueueIn_37 : decode cX2_anyHasQueueIn 37 = .ok (.goto (-35), 3) := by decide +kernel
theorem dX2_anyHasQueueIn_19 : decode cX2_anyHasQueueIn 19 = .ok (.aload_n 0, 1) := by decide +kernel
theorem dX2_anyHasQueueIn_20 : decode cX2_anyHasQueueIn 20 = .ok (.getfield 11, 3) := by decide +kernel
theorem dX2_anyHasQueueIn_23 : decode cX2_anyHasQueueIn 23 = .ok (.iload_n 3, 1) := by decide +kernel
theorem dX2_anyHasQueueIn_24 : decode cX2_anyHasQueueIn 24 = .ok (.aaload, 1) := by decide +kernel
theorem dX2_anyHasQueueIn_25 : decode cX2_anyHasQueueIn 25 = .ok (.iload_n 1, 1) := by decide +kernel
theorem dX2_anyHasQueueIn_26 : decode cX2_anyHasQueueIn 26 = .ok (.invokevirtual 51, 3) := by decide +kernel
theorem dX2_anyHasQueueIn_29 : decode cX2_anyHasQueueIn 29 = .ok (.ifCond .eq 5, 3) := by decide +kernel
theorem dX2_anyHasQueueIn_32 : decode cX2_anyHasQueueIn 32 = .ok (.iconst 1, 1) := by decide +kernel
theorem dX2_anyHasQueueIn_33 : decode cX2_anyHasQueueIn 33 = .ok (.ireturn, 1) := by decide +kernel
set_option maxRecDepth 100000 in
set_option maxHeartbeats 4000000 in
/-- Roads.forgetWays -/
theorem c_Roads_forgetWays (l : Launch) (dC : Nat → ClassId) (dI : Nat → Nat → Nat) (cy : Nat → ClassId) (L : Lay) (tr : Option Nat) (a : St) (κ : Kap) (τ : Tau) (sz : Nat) (hT : TL L tr τ) : Met l yX2_forgetWays (tp_w yX2_forgetWays cX2_forgetWays 1 none) ({ frames := 0, cells := 0, slots := 0, locals := 0 }) (va_Pc [.ref (L 1 0)] (mPre dC dI cy (TW cy L tr a κ τ) sz)) (va_Qv (fun _ : Unit => True) (fun (_ : Unit) (t : State) => mw (dC, dI) vwCl (mA (TW cy L tr a κ τ) sz) (TW cy L tr a ((0, κ.2)) τ) t.heap) (mA (TW cy L tr a κ τ) sz)) (0) (0) (mA (TW cy L tr a κ τ) sz) := by
  refine Met.ofW (cc := cX2_forgetWays) (maxL := 1) (ret := none) (by decide) rfl ?_
  intro p e s m args below meth c s₁ B hml hv
  obtain ⟨rfl, hsz, hP, hK, hE⟩ := hv
  have hx := B.exec
  have hb := B.bytes
  have hr := B.returns
  have hts0 := atoms_spec (ws := tp_w yX2_forgetWays cX2_forgetWays 1 none) B.pre
  have hts : ∀ w ∈ tp_all, w.before _ s = true := fun w h => hts0 w (List.mem_cons_of_mem _ h)
  have hown : s.vm.findClass RX2 = some m.cls := findClass_of_methodNamed B.named
  have hlocks := B.notSynchronized
  subst hsz
  have hP := hP.self s.heap.size
  generalize hAe : mA (TW cy L tr a κ τ) s.heap.size = A at hP ⊢
  have hA : ∀ q : Nat, s.heap.size ≤ q → A q := fun q h => by rw [← hAe]; exact Or.inr h
  have hS : va_S A s.heap s.heap [] := va_S.rf
  have hl9 := lv_entry ([.ref (L 1 0)]) (n := 1) (Nat.le_of_ble_eq_true rfl)
  rw [lg_entry_eq]
  generalize (lg_sl ([.ref (L 1 0)]) ++ List.replicate (1 - (lg_sl ([.ref (L 1 0)])).length) Slot.unset).toArray = ls at hl9 ⊢
  have hl : lv_has ls 1 [(0, .ref (L 1 0))] := hl9
  refine lv_aload_n hx hb dX2_forgetWays_0 rfl (lv_at hl 0 rfl) ?_
  refine lv_iconst (v := 0) hx hb dX2_forgetWays_1 (by decide) ?_
  obtain ⟨ws9, k9, hPw, hDw, hk9, -, hbk⟩ := hP.cut (e := .inr (2, [.ref (L 24 0), .int ((a 1 0) 0), .ref (L 25 0), .int κ.1])) (tw_mem (f := 1) (i := 0) (by decide) rfl)
  refine va_put (D := (dC, dI)) (ci := 2) (v := .int 0) (ty := .int) (C := RX2) (T := TX2) (N := 4) hx hb hts tl_X2 tyX2 tyX2_ok nmX2 hown hK hPw hDw hS k9 hk9 rfl 3 (by decide) (hts _ tw_701) (fun _ h9 => h9) rfl (by decide +kernel) rfl rfl (Nat.le_of_ble_eq_true rfl) dX2_forgetWays_2 (fun H locs hPw hDw hS => ?_)
  have hP : mw (dC, dI) vwCl A (TW cy L tr a ((0, κ.2)) τ) H := (hbk _ _ hPw hDw).sub (tw_set1 (b := a) (x := a 1 0) (r := 0) hT S2_id.symm rfl)
  clear hbk hPw hDw hk9
  refine W.widen (k := 0) (n := 0) (Nat.le_of_ble_eq_true rfl) (Nat.le_of_ble_eq_true rfl) ?_
  exact W.vret hx hb hr (fun t ht hW => ⟨⟨(), rfl, trivial, (by show mw _ _ _ _ t.heap; rw [ht]; exact hP)⟩, hS.F ht⟩) hS.2.2 dX2_forgetWays_5
set_option maxRecDepth 100000 in
set_option maxHeartbeats 4000000 in
/-- Roads.find: none -/
theorem c_Roads_find_none (l : Launch) (dC : Nat → ClassId) (dI : Nat → Nat → Nat) (cy : Nat → ClassId) (L : Lay) (tr : Option Nat) (a : St) (κ : Kap) (τ : Tau) (n : Int32) (sz : Nat) (hT : TL L tr τ) (hf : G_no a n) : Met l yX2_find (tp_w yX2_find cX2_find 2 (some (.object "Turnpike$Link"))) ({ frames := 0, cells := 0, slots := 0, locals := 0 }) (va_Pc [.ref (L 1 0), .int n] (mPre dC dI cy (TW cy L tr a κ τ) sz)) (va_Qq (fun (r u : Option Nat) => r = u) (fun (u : Option Nat) (t : State) => (u = (none : Option Nat)) ∧ mw (dC, dI) vwCl (mA (TW cy L tr a κ τ) sz) (TW cy L tr a κ τ) t.heap) (mA (TW cy L tr a κ τ) sz)) (0) (0) (mA (TW cy L tr a κ τ) sz) := by
  refine Met.ofW (cc := cX2_find) (maxL := 2) (ret := (some (.object "Turnpike$Link"))) (by decide) rfl ?_
  intro p e s m args below meth c s₁ B hml hv
  obtain ⟨rfl, hsz, hP, hK, hE⟩ := hv
  have hx := B.exec
  have hb := B.bytes
  have hr := B.returns
  have hts0 := atoms_spec (ws := tp_w yX2_find cX2_find 2 (some (.object "Turnpike$Link"))) B.pre
  have hts : ∀ w ∈ tp_all, w.before _ s = true := fun w h => hts0 w (List.mem_cons_of_mem _ h)
  have hown : s.vm.findClass RX2 = some m.cls := findClass_of_methodNamed B.named
  have hlocks := B.notSynchronized
  subst hsz
  have hP := hP.self s.heap.size
  generalize hAe : mA (TW cy L tr a κ τ) s.heap.size = A at hP ⊢
  have hA : ∀ q : Nat, s.heap.size ≤ q → A q := fun q h => by rw [← hAe]; exact Or.inr h
  have hS : va_S A s.heap s.heap [] := va_S.rf
  have hl9 := lv_entry ([.ref (L 1 0), .int n]) (n := 2) (Nat.le_of_ble_eq_true rfl)
  rw [lg_entry_eq]
  generalize (lg_sl ([.ref (L 1 0), .int n]) ++ List.replicate (2 - (lg_sl ([.ref (L 1 0), .int n])).length) Slot.unset).toArray = ls at hl9 ⊢
  have hl : lv_has ls 2 [(0, .ref (L 1 0)), (1, .int n)] := hl9
  refine lv_iload_n hx hb dX2_find_0 rfl (lv_at hl 1 rfl) ?_
  refine lv_if_lt (tgt := 21) hx hb dX2_find_1 (by decide) (fun c_1 => ?_) (fun c_1 => ?_)
  · refine lv_null hx hb dX2_find_21 ?_
    refine W.widen (k := 0) (n := 0) (Nat.le_of_ble_eq_true rfl) (Nat.le_of_ble_eq_true rfl) ?_
    have g_1 : none = (none : Option Nat) := by
      first | rfl | assumption | (simp only [if_pos c_1])
    exact W.aret (v := .null) hx hb hr (Or.inl ⟨_, rfl⟩) (Or.inl rfl) (fun t ht hW => ⟨⟨none, none, rfl, rfl, ⟨g_1, by show mw _ _ _ _ t.heap; rw [ht]; exact hP⟩⟩, hS.F ht⟩) hS.2.2 dX2_find_22
  · refine lv_iload_n hx hb dX2_find_4 rfl (lv_at hl 1 rfl) ?_
    refine lv_aload_n hx hb dX2_find_5 rfl (lv_at hl 0 rfl) ?_
    refine va_get (D := (dC, dI)) (ws := [(L 1 0, .inr (2, [.ref (L 24 0), .int ((a 1 0) 0), .ref (L 25 0), .int κ.1]))]) (ci := 2) (v := .int ((a 1 0) 0)) (C := RX2) (T := TX2) (N := 4) hx hb hts tl_X2 hown hK (hP.one (tw_mem (f := 1) (i := 0) (by decide) rfl)) 0 rfl rfl 1 (by decide) (hts _ tw_697) (fun _ h9 => h9) rfl dX2_find_6 ?_
    refine lv_icmp_ge (tgt := 21) hx hb dX2_find_9 (by decide) (fun c_2 => ?_) (fun c_2 => ?_)
    · refine lv_null hx hb dX2_find_21 ?_
      refine W.widen (k := 0) (n := 0) (Nat.le_of_ble_eq_true rfl) (Nat.le_of_ble_eq_true rfl) ?_
      have g_2 : none = (none : Option Nat) := by
        first | rfl | assumption | (simp only [if_neg c_1, if_pos c_2])
      exact W.aret (v := .null) hx hb hr (Or.inl ⟨_, rfl⟩) (Or.inl rfl) (fun t ht hW => ⟨⟨none, none, rfl, rfl, ⟨g_2, by show mw _ _ _ _ t.heap; rw [ht]; exact hP⟩⟩, hS.F ht⟩) hS.2.2 dX2_find_22
    · exact absurd hf (fun h => h.elim c_1 c_2)
set_option maxRecDepth 100000 in
set_option maxHeartbeats 4000000 in
/-- Roads.find: a link -/
theorem c_Roads_find_some (l : Launch) (dC : Nat → ClassId) (dI : Nat → Nat → Nat) (cy : Nat → ClassId) (L : Lay) (tr : Option Nat) (a : St) (κ : Kap) (τ : Tau) (M : Nat) (n : Int32) (sz : Nat) (hT : TL L tr τ) (hw : Wf M a) (hf : ¬ G_no a n) : Met l yX2_find (tp_w yX2_find cX2_find 2 (some (.object "Turnpike$Link"))) ({ frames := 0, cells := 0, slots := 0, locals := 0 }) (va_Pc [.ref (L 1 0), .int n] (mPre dC dI cy (TW cy L tr a κ τ) sz)) (va_Qr (fun _ : Unit => True) (fun (_ : Unit) (rv : Nat) (t : State) => (rv = L 2 n.toNatClampNeg) ∧ mw (dC, dI) vwCl (mA (TW cy L tr a κ τ) sz) (TW cy L tr a κ τ) t.heap) (mA (TW cy L tr a κ τ) sz)) (0) (0) (mA (TW cy L tr a κ τ) sz) := by
  refine Met.ofW (cc := cX2_find) (maxL := 2) (ret := (some (.object "Turnpike$Link"))) (by decide) rfl ?_
  intro p e s m args below meth c s₁ B hml hv
  obtain ⟨rfl, hsz, hP, hK, hE⟩ := hv
  have hx := B.exec
  have hb := B.bytes
  have hr := B.returns
  have hts0 := atoms_spec (ws := tp_w yX2_find cX2_find 2 (some (.object "Turnpike$Link"))) B.pre
  have hts : ∀ w ∈ tp_all, w.before _ s = true := fun w h => hts0 w (List.mem_cons_of_mem _ h)
  have hown : s.vm.findClass RX2 = some m.cls := findClass_of_methodNamed B.named
  have hlocks := B.notSynchronized
  subst hsz
  have hP := hP.self s.heap.size
  generalize hAe : mA (TW cy L tr a κ τ) s.heap.size = A at hP ⊢
  have hA : ∀ q : Nat, s.heap.size ≤ q → A q := fun q h => by rw [← hAe]; exact Or.inr h
  have hS : va_S A s.heap s.heap [] := va_S.rf
  have hl9 := lv_entry ([.ref (L 1 0), .int n]) (n := 2) (Nat.le_of_ble_eq_true rfl)
  rw [lg_entry_eq]
  generalize (lg_sl ([.ref (L 1 0), .int n]) ++ List.replicate (2 - (lg_sl ([.ref (L 1 0), .int n])).length) Slot.unset).toArray = ls at hl9 ⊢
  have hl : lv_has ls 2 [(0, .ref (L 1 0)), (1, .int n)] := hl9
  refine lv_iload_n hx hb dX2_find_0 rfl (lv_at hl 1 rfl) ?_
  refine lv_if_lt (tgt := 21) hx hb dX2_find_1 (by decide) (fun c_1 => absurd c_1 (fun h => hf (Or.inl h))) (fun _ => ?_)
  refine lv_iload_n hx hb dX2_find_4 rfl (lv_at hl 1 rfl) ?_
  refine lv_aload_n hx hb dX2_find_5 rfl (lv_at hl 0 rfl) ?_
  refine va_get (D := (dC, dI)) (ws := [(L 1 0, .inr (2, [.ref (L 24 0), .int ((a 1 0) 0), .ref (L 25 0), .int κ.1]))]) (ci := 2) (v := .int ((a 1 0) 0)) (C := RX2) (T := TX2) (N := 4) hx hb hts tl_X2 hown hK (hP.one (tw_mem (f := 1) (i := 0) (by decide) rfl)) 0 rfl rfl 1 (by decide) (hts _ tw_697) (fun _ h9 => h9) rfl dX2_find_6 ?_
  refine lv_icmp_ge (tgt := 21) hx hb dX2_find_9 (by decide) (fun c_2 => absurd c_2 (fun h => hf (Or.inr h))) (fun _ => ?_)
  refine lv_aload_n hx hb dX2_find_12 rfl (lv_at hl 0 rfl) ?_
  refine va_get (D := (dC, dI)) (ws := [(L 1 0, .inr (2, [.ref (L 24 0), .int ((a 1 0) 0), .ref (L 25 0), .int κ.1]))]) (ci := 2) (v := .ref (L 24 0)) (C := RX2) (T := TX2) (N := 4) hx hb hts tl_X2 hown hK (hP.one (tw_mem (f := 1) (i := 0) (by decide) rfl)) 0 rfl rfl 0 (by decide) (hts _ tw_695) (fun _ h9 => h9) rfl dX2_find_13 ?_
  refine lv_iload_n hx hb dX2_find_16 rfl (lv_at hl 1 rfl) ?_
  have j_1 : (n : Int32).toNatClampNeg = n.toNatClampNeg := m_cl (m_nI (fun h => hf (Or.inl h))) (m_lt (n := 24) (fun h => hf (Or.inl h)) (fun h => hf (Or.inr h)) hw.1.1.2) (by decide)
  refine va_aldq hx hb hK (ws := [(L 24 0, .inl (cy 3, 24, .inr (.inr (.inr (.inr (fun j => some (L 2 j)))))))]) (hP.one (tw_mem (f := 24) (i := 0) (by decide) rfl)) 0 3 rfl rfl (m_in (m_nI (fun h => hf (Or.inl h))) (m_lt (n := 24) (fun h => hf (Or.inl h)) (fun h => hf (Or.inr h)) hw.1.1.2) (by decide)) dX2_find_17 ?_
  refine W.eq (g2 := F0 m 18 ls [.ref (L 2 n.toNatClampNeg)]) (by first | (rw [j_1]; done) | (rw [j_1]; rfl)) ?_
  refine lv_goto (tgt := 22) hx hb dX2_find_18 (by decide) ?_
  refine W.widen (k := 0) (n := 0) (Nat.le_of_ble_eq_true rfl) (Nat.le_of_ble_eq_true rfl) ?_
  have g_1 : (L 2 n.toNatClampNeg) = L 2 n.toNatClampNeg := by
    first | rfl | assumption | (simp only [])
  exact W.aret (v := .ref (L 2 n.toNatClampNeg)) hx hb hr (Or.inl ⟨_, rfl⟩) (Or.inr ⟨_, rfl⟩) (fun t ht hW => ⟨⟨(), L 2 n.toNatClampNeg, rfl, trivial, ⟨g_1, by show mw _ _ _ _ t.heap; rw [ht]; exact hP⟩⟩, hS.F ht⟩) hS.2.2 dX2_find_22
set_option maxRecDepth 100000 in
set_option maxHeartbeats 4000000 in
/-- Roads.playSlowTick -/
theorem c_Roads_playSlowTick (l : Launch) (dC : Nat → ClassId) (dI : Nat → Nat → Nat) (cy : Nat → ClassId) (L : Lay) (tr : Option Nat) (a : St) (κ : Kap) (τ : Tau) (M : Nat) (sz : Nat) (hT : TL L tr τ) (hw : Wf M a) : Met l yX2_playSlowTick (tp_w yX2_playSlowTick cX2_playSlowTick 2 none) ({ frames := 1, cells := 0, slots := 0, locals := 20 }) (va_Pc [.ref (L 1 0)] (mPre dC dI cy (TW cy L tr a κ τ) sz)) (va_Qv (fun _ : Unit => True) (fun (_ : Unit) (t : State) => mw (dC, dI) vwCl (mA (TW cy L tr a κ τ) sz) (TW cy L tr (G_slow a) κ τ) t.heap) (mA (TW cy L tr a κ τ) sz)) (0) (0) (mA (TW cy L tr a κ τ) sz) := by
  refine Met.ofW (cc := cX2_playSlowTick) (maxL := 2) (ret := none) (by decide) rfl ?_
  intro p e s m args below meth c s₁ B hml hv
  obtain ⟨rfl, hsz, hP, hK, hE⟩ := hv
  have hx := B.exec
  have hb := B.bytes
  have hr := B.returns
  have hts0 := atoms_spec (ws := tp_w yX2_playSlowTick cX2_playSlowTick 2 none) B.pre
  have hts : ∀ w ∈ tp_all, w.before _ s = true := fun w h => hts0 w (List.mem_cons_of_mem _ h)
  have hown : s.vm.findClass RX2 = some m.cls := findClass_of_methodNamed B.named
  have hlocks := B.notSynchronized
  subst hsz
  have hP := hP.self s.heap.size
  generalize hAe : mA (TW cy L tr a κ τ) s.heap.size = A at hP ⊢
  have hA : ∀ q : Nat, s.heap.size ≤ q → A q := fun q h => by rw [← hAe]; exact Or.inr h
  have hS : va_S A s.heap s.heap [] := va_S.rf
  have hl9 := lv_entry ([.ref (L 1 0)]) (n := 2) (Nat.le_of_ble_eq_true rfl)
  rw [lg_entry_eq]
  generalize (lg_sl ([.ref (L 1 0)]) ++ List.replicate (2 - (lg_sl ([.ref (L 1 0)])).length) Slot.unset).toArray = ls at hl9 ⊢
  have hl : lv_has ls 2 [(0, .ref (L 1 0))] := hl9
  refine lv_iconst (v := 0) hx hb dX2_playSlowTick_0 (by decide) ?_
  refine lv_istore_n (lv' := [(1, .int 0), (0, .ref (L 1 0))]) hx hb dX2_playSlowTick_1 rfl hl (by decide) rfl (fun ls hl => ?_)
  have hN : nL a ≤ 24 := in_le hw.1.1
  refine W.widen (k := (fun i => 0 + 0 * i) 0) (n := (fun i => 0 + 0 * i) 0) (Nat.le_refl _) (Nat.le_refl _) ?_
  refine tp_for (σ := Unit) (nL a) (fun i => 0 + 0 * i) (fun i => 0 + 0 * i) (fun (i : Nat) (x : Unit) (H : Heap) (locs : List Loc) (ls : Array Slot) => mw (dC, dI) vwCl A (TW cy L tr (itN (fun i b => L_slow b i) i a) κ τ) H ∧ va_S A s.heap H locs ∧ lv_has ls 2 [(1, .int (nI i)), (0, .ref (L 1 0))]) ?_ ?_ (nL a) 0 (Nat.zero_add _) (()) _ _ ls ⟨hP, hS, lv_sub hl [0, 1] rfl⟩
  · rintro _ H locs ls ⟨hP, hS, hl⟩
    have hl : lv_has ls 2 [(1, .int (nI (nL a))), (0, .ref (L 1 0))] := hl
    obtain ⟨b1, eb1⟩ : ∃ z : St, z = itN (fun i b => L_slow b i) (nL a) a := ⟨_, rfl⟩
    rw [← eb1] at hP
    have h1b1 : b1 1 0 0 = a 1 0 0 := by rw [eb1]; exact itN_keep (P := fun b => b 1 0 0 = a 1 0 0) rfl (fun i b h => by rw [L_slow_off (by decide)]; exact h) _
    refine lv_iload_n hx hb dX2_playSlowTick_2 rfl (lv_at hl 0 rfl) ?_
    refine lv_aload_n hx hb dX2_playSlowTick_3 rfl (lv_at hl 1 rfl) ?_
    refine va_get (D := (dC, dI)) (ws := [(L 1 0, .inr (2, [.ref (L 24 0), .int ((b1 1 0) 0), .ref (L 25 0), .int κ.1]))]) (ci := 2) (v := .int ((b1 1 0) 0)) (C := RX2) (T := TX2) (N := 4) hx hb hts tl_X2 hown hK (hP.one (tw_mem (f := 1) (i := 0) (by decide) rfl)) 0 rfl rfl 1 (by decide) (hts _ tw_697) (fun _ h9 => h9) rfl dX2_playSlowTick_4 ?_
    refine W.eq (g2 := F0 m 7 ls [.int (nI (nL a)), .int (nI (nL a))]) (by rw [h1b1, in_nI hw.1.1]) ?_
    refine lv_icmp_ge (tgt := 25) hx hb dX2_playSlowTick_7 (by decide) (fun _ => ?_) (fun c_1 => absurd (Int32.le_refl _) c_1)
    refine W.widen (k := 0) (n := 0) (by show 0 + 0 * (nL a) + 0 ≤ 0; omega) (by show 0 + 0 * (nL a) + 0 ≤ 0; omega) ?_
    have s_1 : b1 = G_slow a := by
      rw [eb1]
      rfl
    rw [s_1] at hP
    exact W.vret hx hb hr (fun t ht hW => ⟨⟨(), rfl, trivial, (by show mw _ _ _ _ t.heap; rw [ht]; exact hP)⟩, hS.F ht⟩) hS.2.2 dX2_playSlowTick_25
  · rintro i _ H locs ls hi ⟨hP, hS, hl⟩ ih
    have hl : lv_has ls 2 [(1, .int (nI i)), (0, .ref (L 1 0))] := hl
    obtain ⟨b2, eb2⟩ : ∃ z : St, z = itN (fun i b => L_slow b i) i a := ⟨_, rfl⟩
    rw [← eb2] at hP
    have h1b2 : b2 1 0 0 = a 1 0 0 := by rw [eb2]; exact itN_keep (P := fun b => b 1 0 0 = a 1 0 0) rfl (fun i b h => by rw [L_slow_off (by decide)]; exact h) _
    refine lv_iload_n hx hb dX2_playSlowTick_2 rfl (lv_at hl 0 rfl) ?_
    refine lv_aload_n hx hb dX2_playSlowTick_3 rfl (lv_at hl 1 rfl) ?_
    refine va_get (D := (dC, dI)) (ws := [(L 1 0, .inr (2, [.ref (L 24 0), .int ((b2 1 0) 0), .ref (L 25 0), .int κ.1]))]) (ci := 2) (v := .int ((b2 1 0) 0)) (C := RX2) (T := TX2) (N := 4) hx hb hts tl_X2 hown hK (hP.one (tw_mem (f := 1) (i := 0) (by decide) rfl)) 0 rfl rfl 1 (by decide) (hts _ tw_697) (fun _ h9 => h9) rfl dX2_playSlowTick_4 ?_
    refine W.eq (g2 := F0 m 7 ls [.int (nI (nL a)), .int (nI i)]) (by rw [h1b2, in_nI hw.1.1]) ?_
    refine lv_icmp_ge (tgt := 25) hx hb dX2_playSlowTick_7 (by decide) (fun c_2 => absurd c_2 (nI_ge hi (by omega))) (fun _ => ?_)
    refine lv_aload_n hx hb dX2_playSlowTick_10 rfl (lv_at hl 1 rfl) ?_
    refine va_get (D := (dC, dI)) (ws := [(L 1 0, .inr (2, [.ref (L 24 0), .int ((b2 1 0) 0), .ref (L 25 0), .int κ.1]))]) (ci := 2) (v := .ref (L 24 0)) (C := RX2) (T := TX2) (N := 4) hx hb hts tl_X2 hown hK (hP.one (tw_mem (f := 1) (i := 0) (by decide) rfl)) 0 rfl rfl 0 (by decide) (hts _ tw_695) (fun _ h9 => h9) rfl dX2_playSlowTick_11 ?_
    refine lv_iload_n hx hb dX2_playSlowTick_14 rfl (lv_at hl 0 rfl) ?_
    have j_1 : (nI i : Int32).toNatClampNeg = i := m_cl rfl (Nat.lt_of_lt_of_le hi hN) (by decide)
    refine va_aldq hx hb hK (ws := [(L 24 0, .inl (cy 3, 24, .inr (.inr (.inr (.inr (fun j => some (L 2 j)))))))]) (hP.one (tw_mem (f := 24) (i := 0) (by decide) rfl)) 0 3 rfl rfl (m_in rfl (Nat.lt_of_lt_of_le hi hN) (by decide)) dX2_playSlowTick_15 ?_
    refine W.eq (g2 := F0 m 16 ls [.ref (L 2 i)]) (by first | (rw [j_1]; done) | (rw [j_1]; rfl)) ?_
    have hFc := m_free (C := (TW cy L tr b2 κ τ)) hP hS hA (fun _ _ h => h)
    refine va_callv (va_runV (As := []) (rest := []) ⟨hx, hb, hml, hown, hts⟩ (c_Link_playSlowTick l dC dI cy L tr b2 κ τ i H.size hT (Nat.lt_of_lt_of_le hi hN)) (tp_cwV 0 hts tw_170 tw_171 tw_172 tw_23 tw_173 rfl rfl (by decide +kernel) ⟨Nat.le_of_ble_eq_true rfl, Nat.le_of_ble_eq_true rfl⟩) ⟨m_blind, va_recv hK (hP.one (e := .inr (1, [.int ((b2 2 i) 0), .int ((b2 2 i) 1), .int ((b2 2 i) 2), .int ((b2 2 i) 3), .int ((b2 2 i) 4), .int ((b2 2 i) 5), .int ((b2 2 i) 6), .int ((b2 2 i) 7), .int ((b2 2 i) 8), .ref (L 3 i), .ref (L 5 i), .int ((b2 2 i) 9), .int ((b2 2 i) 10), .int ((b2 2 i) 11), .int ((b2 2 i) 12), .ref (L 7 i)])) (tw_mem (f := 2) (i := i) (Nat.lt_of_lt_of_le hi hN) rfl)) (ci := 1) (q0 := 0) rfl rfl, fun U hU hW => ⟨rfl, m_pay hK hP hE (fun _ _ h => h) U hU hW⟩⟩ rfl rfl hl.1 rfl (lv_room (Nat.le_of_ble_eq_true rfl)) dX2_playSlowTick_16 ⟨(by show 0 + 0 * i + 0 ≤ 0; omega), (by show 0 + 0 * i + 0 ≤ 0; omega)⟩) hS (fun q _ h => hFc q h) hFc (fun u t H1 locs ht hvm hw hB hz1 hk1 hS => ?_)
    have hP1 := hB
    rw [ht] at hP1
    have hP : mw (dC, dI) vwCl A (TW cy L tr (L_slow b2 i) κ τ) H1 := hP.join (fun _ _ h => h) hk1 hFc hP1 (fun _ _ h => Or.inl h)
    generalize H1 = H at hP hS ⊢
    clear hP1 hk1 hFc
    obtain ⟨b3, eb3⟩ : ∃ z : St, z = L_slow b2 i := ⟨_, rfl⟩
    rw [← eb3] at hP
    refine lv_iinc (v := nI (i + 1)) (lv' := [(1, .int (nI (i + 1))), (0, .ref (L 1 0))]) hx hb dX2_playSlowTick_19 hl (k := 0) rfl (nI_1 i) (by decide) rfl (fun ls hl => ?_)
    refine lv_goto (tgt := 2) hx hb dX2_playSlowTick_22 (by decide) ?_
    have e9 : b3 = itN (fun i b => L_slow b i) (i + 1) a := by
      rw [eb3, eb2]
      rfl
    rw [e9] at hP
    refine W.widen (k := (fun i => 0 + 0 * i) (i + 1)) (n := (fun i => 0 + 0 * i) (i + 1)) (by show _ ≤ 0 + 0 * (i + 1); omega) (by show _ ≤ 0 + 0 * (i + 1); omega) ?_
    exact ih () _ _ ls ⟨hP, hS, lv_sub hl [0, 1] rfl⟩
set_option maxRecDepth 100000 in
set_option maxHeartbeats 4000000 in
/-- Roads.countQueuesIn -/
theorem c_Roads_countQueuesIn (l : Launch) (dC : Nat → ClassId) (dI : Nat → Nat → Nat) (cy : Nat → ClassId) (L : Lay) (tr : Option Nat) (a : St) (κ : Kap) (τ : Tau) (M : Nat) (tk : Int32) (sz : Nat) (hT : TL L tr τ) (hw : Wf M a) : Met l yX2_countQueuesIn (tp_w yX2_countQueuesIn cX2_countQueuesIn 3 none) ({ frames := 3, cells := 0, slots := 0, locals := 65 }) (va_Pc [.ref (L 1 0), .int tk] (mPre dC dI cy (TW cy L tr a κ τ) sz)) (va_Qv (fun _ : Unit => True) (fun (_ : Unit) (t : State) => mw (dC, dI) vwCl (mA (TW cy L tr a κ τ) sz) (TW cy L tr (G_cq a tk) κ τ) t.heap) (mA (TW cy L tr a κ τ) sz)) (0) (0) (mA (TW cy L tr a κ τ) sz) := by
  refine Met.ofW (cc := cX2_countQueuesIn) (maxL := 3) (ret := none) (by decide) rfl ?_
  intro p e s m args below meth c s₁ B hml hv
  obtain ⟨rfl, hsz, hP, hK, hE⟩ := hv
  have hx := B.exec
  have hb := B.bytes
  have hr := B.returns
  have hts0 := atoms_spec (ws := tp_w yX2_countQueuesIn cX2_countQueuesIn 3 none) B.pre
  have hts : ∀ w ∈ tp_all, w.before _ s = true := fun w h => hts0 w (List.mem_cons_of_mem _ h)
  have hown : s.vm.findClass RX2 = some m.cls := findClass_of_methodNamed B.named
  have hlocks := B.notSynchronized
  subst hsz
  have hP := hP.self s.heap.size
  generalize hAe : mA (TW cy L tr a κ τ) s.heap.size = A at hP ⊢
  have hA : ∀ q : Nat, s.heap.size ≤ q → A q := fun q h => by rw [← hAe]; exact Or.inr h
  have hS : va_S A s.heap s.heap [] := va_S.rf
  have hl9 := lv_entry ([.ref (L 1 0), .int tk]) (n := 3) (Nat.le_of_ble_eq_true rfl)
  rw [lg_entry_eq]
  generalize (lg_sl ([.ref (L 1 0), .int tk]) ++ List.replicate (3 - (lg_sl ([.ref (L 1 0), .int tk])).length) Slot.unset).toArray = ls at hl9 ⊢
  have hl : lv_has ls 3 [(0, .ref (L 1 0)), (1, .int tk)] := hl9
  refine lv_iconst (v := 0) hx hb dX2_countQueuesIn_0 (by decide) ?_
  refine lv_istore_n (lv' := [(2, .int 0), (0, .ref (L 1 0)), (1, .int tk)]) hx hb dX2_countQueuesIn_1 rfl hl (by decide) rfl (fun ls hl => ?_)
  have hN : nL a ≤ 24 := in_le hw.1.1
  refine W.widen (k := (fun i => 0 + 0 * i) 0) (n := (fun i => 0 + 0 * i) 0) (Nat.le_refl _) (Nat.le_refl _) ?_
  refine tp_for (σ := Unit) (nL a) (fun i => 0 + 0 * i) (fun i => 0 + 0 * i) (fun (i : Nat) (x : Unit) (H : Heap) (locs : List Loc) (ls : Array Slot) => mw (dC, dI) vwCl A (TW cy L tr (itN (fun i b => L_cq b i tk) i a) κ τ) H ∧ va_S A s.heap H locs ∧ lv_has ls 3 [(2, .int (nI i)), (0, .ref (L 1 0)), (1, .int tk)]) ?_ ?_ (nL a) 0 (Nat.zero_add _) (()) _ _ ls ⟨hP, hS, lv_sub hl [0, 1, 2] rfl⟩
  · rintro _ H locs ls ⟨hP, hS, hl⟩
    have hl : lv_has ls 3 [(2, .int (nI (nL a))), (0, .ref (L 1 0)), (1, .int tk)] := hl
    obtain ⟨b1, eb1⟩ : ∃ z : St, z = itN (fun i b => L_cq b i tk) (nL a) a := ⟨_, rfl⟩
    rw [← eb1] at hP
    have h1b1 : b1 1 0 0 = a 1 0 0 := by rw [eb1]; exact itN_keep (P := fun b => b 1 0 0 = a 1 0 0) rfl (fun i b h => by rw [L_cq_off (by decide)]; exact h) _
    refine lv_iload_n hx hb dX2_countQueuesIn_2 rfl (lv_at hl 0 rfl) ?_
    refine lv_aload_n hx hb dX2_countQueuesIn_3 rfl (lv_at hl 1 rfl) ?_
    refine va_get (D := (dC, dI)) (ws := [(L 1 0, .inr (2, [.ref (L 24 0), .int ((b1 1 0) 0), .ref (L 25 0), .int κ.1]))]) (ci := 2) (v := .int ((b1 1 0) 0)) (C := RX2) (T := TX2) (N := 4) hx hb hts tl_X2 hown hK (hP.one (tw_mem (f := 1) (i := 0) (by decide) rfl)) 0 rfl rfl 1 (by decide) (hts _ tw_697) (fun _ h9 => h9) rfl dX2_countQueuesIn_4 ?_
    refine W.eq (g2 := F0 m 7 ls [.int (nI (nL a)), .int (nI (nL a))]) (by rw [h1b1, in_nI hw.1.1]) ?_
    refine lv_icmp_ge (tgt := 26) hx hb dX2_countQueuesIn_7 (by decide) (fun _ => ?_) (fun c_1 => absurd (Int32.le_refl _) c_1)
    refine W.widen (k := 0) (n := 0) (by show 0 + 0 * (nL a) + 0 ≤ 0; omega) (by show 0 + 0 * (nL a) + 0 ≤ 0; omega) ?_
    have s_1 : b1 = G_cq a tk := by
      rw [eb1]
      rfl
    rw [s_1] at hP
    exact W.vret hx hb hr (fun t ht hW => ⟨⟨(), rfl, trivial, (by show mw _ _ _ _ t.heap; rw [ht]; exact hP)⟩, hS.F ht⟩) hS.2.2 dX2_countQueuesIn_26
  · rintro i _ H locs ls hi ⟨hP, hS, hl⟩ ih
    have hl : lv_has ls 3 [(2, .int (nI i)), (0, .ref (L 1 0)), (1, .int tk)] := hl
    obtain ⟨b2, eb2⟩ : ∃ z : St, z = itN (fun i b => L_cq b i tk) i a := ⟨_, rfl⟩
    rw [← eb2] at hP
    have h1b2 : b2 1 0 0 = a 1 0 0 := by rw [eb2]; exact itN_keep (P := fun b => b 1 0 0 = a 1 0 0) rfl (fun i b h => by rw [L_cq_off (by decide)]; exact h) _
    have h5b2 : in_ (b2 5 i 0) 30 := by rw [eb2]; exact itN_keep (P := fun b => in_ (b 5 i 0) 30) (hw.2.1 i (Nat.lt_of_lt_of_le hi hN)).2.2.2.2.2 (fun j b h => by rw [L_cq_off (by decide)]; exact h) _
    refine lv_iload_n hx hb dX2_countQueuesIn_2 rfl (lv_at hl 0 rfl) ?_
    refine lv_aload_n hx hb dX2_countQueuesIn_3 rfl (lv_at hl 1 rfl) ?_
    refine va_get (D := (dC, dI)) (ws := [(L 1 0, .inr (2, [.ref (L 24 0), .int ((b2 1 0) 0), .ref (L 25 0), .int κ.1]))]) (ci := 2) (v := .int ((b2 1 0) 0)) (C := RX2) (T := TX2) (N := 4) hx hb hts tl_X2 hown hK (hP.one (tw_mem (f := 1) (i := 0) (by decide) rfl)) 0 rfl rfl 1 (by decide) (hts _ tw_697) (fun _ h9 => h9) rfl dX2_countQueuesIn_4 ?_
    refine W.eq (g2 := F0 m 7 ls [.int (nI (nL a)), .int (nI i)]) (by rw [h1b2, in_nI hw.1.1]) ?_
    refine lv_icmp_ge (tgt := 26) hx hb dX2_countQueuesIn_7 (by decide) (fun c_2 => absurd c_2 (nI_ge hi (by omega))) (fun _ => ?_)
    refine lv_aload_n hx hb dX2_countQueuesIn_10 rfl (lv_at hl 1 rfl) ?_
    refine va_get (D := (dC, dI)) (ws := [(L 1 0, .inr (2, [.ref (L 24 0), .int ((b2 1 0) 0), .ref (L 25 0), .int κ.1]))]) (ci := 2) (v := .ref (L 24 0)) (C := RX2) (T := TX2) (N := 4) hx hb hts tl_X2 hown hK (hP.one (tw_mem (f := 1) (i := 0) (by decide) rfl)) 0 rfl rfl 0 (by decide) (hts _ tw_695) (fun _ h9 => h9) rfl dX2_countQueuesIn_11 ?_
    refine lv_iload_n hx hb dX2_countQueuesIn_14 rfl (lv_at hl 0 rfl) ?_
    have j_1 : (nI i : Int32).toNatClampNeg = i := m_cl rfl (Nat.lt_of_lt_of_le hi hN) (by decide)
    refine va_aldq hx hb hK (ws := [(L 24 0, .inl (cy 3, 24, .inr (.inr (.inr (.inr (fun j => some (L 2 j)))))))]) (hP.one (tw_mem (f := 24) (i := 0) (by decide) rfl)) 0 3 rfl rfl (m_in rfl (Nat.lt_of_lt_of_le hi hN) (by decide)) dX2_countQueuesIn_15 ?_
    refine W.eq (g2 := F0 m 16 ls [.ref (L 2 i)]) (by first | (rw [j_1]; done) | (rw [j_1]; rfl)) ?_
    refine lv_iload_n hx hb dX2_countQueuesIn_16 rfl (lv_at hl 2 rfl) ?_
    have hFc := m_free (C := (TW cy L tr b2 κ τ)) hP hS hA (fun _ _ h => h)
    refine va_callv (va_runV (As := [.int tk]) (rest := []) ⟨hx, hb, hml, hown, hts⟩ (c_Link_countQueueIn l dC dI cy L tr b2 κ τ i tk H.size hT (Nat.lt_of_lt_of_le hi hN) h5b2.1 h5b2.2) (tp_cwV 1 hts tw_365 tw_366 tw_367 tw_23 tw_368 rfl rfl (by decide +kernel) ⟨Nat.le_of_ble_eq_true rfl, Nat.le_of_ble_eq_true rfl⟩) ⟨m_blind, va_recv hK (hP.one (e := .inr (1, [.int ((b2 2 i) 0), .int ((b2 2 i) 1), .int ((b2 2 i) 2), .int ((b2 2 i) 3), .int ((b2 2 i) 4), .int ((b2 2 i) 5), .int ((b2 2 i) 6), .int ((b2 2 i) 7), .int ((b2 2 i) 8), .ref (L 3 i), .ref (L 5 i), .int ((b2 2 i) 9), .int ((b2 2 i) 10), .int ((b2 2 i) 11), .int ((b2 2 i) 12), .ref (L 7 i)])) (tw_mem (f := 2) (i := i) (Nat.lt_of_lt_of_le hi hN) rfl)) (ci := 1) (q0 := 0) rfl rfl, fun U hU hW => ⟨rfl, m_pay hK hP hE (fun _ _ h => h) U hU hW⟩⟩ rfl rfl hl.1 rfl (lv_room (Nat.le_of_ble_eq_true rfl)) dX2_countQueuesIn_17 ⟨(by show 0 + 0 * i + 0 ≤ 0; omega), (by show 0 + 0 * i + 0 ≤ 0; omega)⟩) hS (fun q _ h => hFc q h) hFc (fun u t H1 locs ht hvm hw hB hz1 hk1 hS => ?_)
    have hP1 := hB
    rw [ht] at hP1
    have hP : mw (dC, dI) vwCl A (TW cy L tr (L_cq b2 i tk) κ τ) H1 := hP.join (fun _ _ h => h) hk1 hFc hP1 (fun _ _ h => Or.inl h)
    generalize H1 = H at hP hS ⊢
    clear hP1 hk1 hFc
    obtain ⟨b3, eb3⟩ : ∃ z : St, z = L_cq b2 i tk := ⟨_, rfl⟩
    rw [← eb3] at hP
    refine lv_iinc (v := nI (i + 1)) (lv' := [(2, .int (nI (i + 1))), (0, .ref (L 1 0)), (1, .int tk)]) hx hb dX2_countQueuesIn_20 hl (k := 0) rfl (nI_1 i) (by decide) rfl (fun ls hl => ?_)
    refine lv_goto (tgt := 2) hx hb dX2_countQueuesIn_23 (by decide) ?_
    have e9 : b3 = itN (fun i b => L_cq b i tk) (i + 1) a := by
      rw [eb3, eb2]
      rfl
    rw [e9] at hP
    refine W.widen (k := (fun i => 0 + 0 * i) (i + 1)) (n := (fun i => 0 + 0 * i) (i + 1)) (by show _ ≤ 0 + 0 * (i + 1); omega) (by show _ ≤ 0 + 0 * (i + 1); omega) ?_
    exact ih () _ _ ls ⟨hP, hS, lv_sub hl [0, 1, 2] rfl⟩
set_option maxRecDepth 100000 in
set_option maxHeartbeats 4000000 in
/-- Roads.anyHasQueueIn -/
theorem c_Roads_anyHasQueueIn (l : Launch) (dC : Nat → ClassId) (dI : Nat → Nat → Nat) (cy : Nat → ClassId) (L : Lay) (tr : Option Nat) (a : St) (κ : Kap) (τ : Tau) (M : Nat) (tk : Int32) (x : Int32) (sz : Nat) (hT : TL L tr τ) (hw : Wf M a) : Met l yX2_anyHasQueueIn (tp_w yX2_anyHasQueueIn cX2_anyHasQueueIn 4 (some .boolean)) ({ frames := 2, cells := 0, slots := 0, locals := 42 }) (va_Pc [.ref (L 1 0), .int tk, .int x] (mPre dC dI cy (TW cy L tr a κ τ) sz)) (va_Qi (fun (r u : Int32) => r = u) (fun (u : Int32) (t : State) => (u = G_any a tk x (nL a) 0) ∧ mw (dC, dI) vwCl (mA (TW cy L tr a κ τ) sz) (TW cy L tr a κ τ) t.heap) (mA (TW cy L tr a κ τ) sz)) (0) (0) (mA (TW cy L tr a κ τ) sz) := by
  refine Met.ofW (cc := cX2_anyHasQueueIn) (maxL := 4) (ret := (some .boolean)) (by decide) rfl ?_
  intro p e s m args below meth c s₁ B hml hv
  obtain ⟨rfl, hsz, hP, hK, hE⟩ := hv
  have hx := B.exec
  have hb := B.bytes
  have hr := B.returns
  have hts0 := atoms_spec (ws := tp_w yX2_anyHasQueueIn cX2_anyHasQueueIn 4 (some .boolean)) B.pre
  have hts : ∀ w ∈ tp_all, w.before _ s = true := fun w h => hts0 w (List.mem_cons_of_mem _ h)
  have hown : s.vm.findClass RX2 = some m.cls := findClass_of_methodNamed B.named
  have hlocks := B.notSynchronized
  subst hsz
  have hP := hP.self s.heap.size
  generalize hAe : mA (TW cy L tr a κ τ) s.heap.size = A at hP ⊢
  have hA : ∀ q : Nat, s.heap.size ≤ q → A q := fun q h => by rw [← hAe]; exact Or.inr h
  have hS : va_S A s.heap s.heap [] := va_S.rf
  have hl9 := lv_entry ([.ref (L 1 0), .int tk, .int x]) (n := 4) (Nat.le_of_ble_eq_true rfl)
  rw [lg_entry_eq]
  generalize (lg_sl ([.ref (L 1 0), .int tk, .int x]) ++ List.replicate (4 - (lg_sl ([.ref (L 1 0), .int tk, .int x])).length) Slot.unset).toArray = ls at hl9 ⊢
  have hl : lv_has ls 4 [(0, .ref (L 1 0)), (1, .int tk), (2, .int x)] := hl9
  refine lv_iconst (v := 0) hx hb dX2_anyHasQueueIn_0 (by decide) ?_
  refine lv_istore_n (lv' := [(3, .int 0), (0, .ref (L 1 0)), (1, .int tk), (2, .int x)]) hx hb dX2_anyHasQueueIn_1 rfl hl (by decide) rfl (fun ls hl => ?_)
  have hN : nL a ≤ 24 := in_le hw.1.1
  suffices hloop : ∀ (d k : Nat), k + d = (nL a) → G_any a tk x d k = G_any a tk x (nL a) 0 → ∀ ls : Array Slot, lv_has ls 4 [(3, .int (nI k)), (0, .ref (L 1 0)), (1, .int tk), (2, .int x)] → ∀ (H : Heap) (locs : List Loc), mw (dC, dI) vwCl A (TW cy L tr a κ τ) H → va_S A s.heap H locs → W p l e _ s m _ below meth c H locs (0) (0) _ (F0 m 2 ls []) from hloop (nL a) 0 (by omega)  rfl ls (lv_sub hl [0, 1, 2, 3] rfl) _ _ hP hS
  clear hP hS hl ls hl9
  intro d
  induction d with
  | zero =>
    intro k hk  hq ls hl H locs hP hS
    refine lv_iload_n hx hb dX2_anyHasQueueIn_2 rfl (lv_at hl 0 rfl) ?_
    refine lv_aload_n hx hb dX2_anyHasQueueIn_3 rfl (lv_at hl 1 rfl) ?_
    refine va_get (D := (dC, dI)) (ws := [(L 1 0, .inr (2, [.ref (L 24 0), .int ((a 1 0) 0), .ref (L 25 0), .int κ.1]))]) (ci := 2) (v := .int ((a 1 0) 0)) (C := RX2) (T := TX2) (N := 4) hx hb hts tl_X2 hown hK (hP.one (tw_mem (f := 1) (i := 0) (by decide) rfl)) 0 rfl rfl 1 (by decide) (hts _ tw_697) (fun _ h9 => h9) rfl dX2_anyHasQueueIn_4 ?_
    refine W.eq (g2 := F0 m 7 ls [.int (nI (nL a)), .int (nI k)]) (by rw [in_nI hw.1.1]) ?_
    have e9 : k = nL a := by omega
    refine lv_icmp_ge (tgt := 40) hx hb dX2_anyHasQueueIn_7 (by decide) (fun _ => ?_) (fun c_1 => absurd (by rw [e9]; exact Int32.le_refl _) c_1)
    refine lv_iconst (v := 0) hx hb dX2_anyHasQueueIn_40 (by decide) ?_
    refine W.widen (k := 0) (n := 0) (Nat.le_of_ble_eq_true rfl) (Nat.le_of_ble_eq_true rfl) ?_
    have g_1 : 0 = G_any a tk x (nL a) 0 := by
      rw [← hq]
      rfl
    exact W.zret (v := 0) hx hb hr rfl (fun t ht hW => ⟨⟨0, 0, rfl, rfl, ⟨g_1, by show mw _ _ _ _ t.heap; rw [ht]; exact hP⟩⟩, hS.F ht⟩) hS.2.2 dX2_anyHasQueueIn_41
  | succ d ih =>
    intro k hk  hq ls hl H locs hP hS
    refine lv_iload_n hx hb dX2_anyHasQueueIn_2 rfl (lv_at hl 0 rfl) ?_
    refine lv_aload_n hx hb dX2_anyHasQueueIn_3 rfl (lv_at hl 1 rfl) ?_
    refine va_get (D := (dC, dI)) (ws := [(L 1 0, .inr (2, [.ref (L 24 0), .int ((a 1 0) 0), .ref (L 25 0), .int κ.1]))]) (ci := 2) (v := .int ((a 1 0) 0)) (C := RX2) (T := TX2) (N := 4) hx hb hts tl_X2 hown hK (hP.one (tw_mem (f := 1) (i := 0) (by decide) rfl)) 0 rfl rfl 1 (by decide) (hts _ tw_697) (fun _ h9 => h9) rfl dX2_anyHasQueueIn_4 ?_
    refine W.eq (g2 := F0 m 7 ls [.int (nI (nL a)), .int (nI k)]) (by rw [in_nI hw.1.1]) ?_
    refine lv_icmp_ge (tgt := 40) hx hb dX2_anyHasQueueIn_7 (by decide) (fun c_2 => absurd c_2 (nI_ge (by omega : k < nL a) (by omega))) (fun _ => ?_)
    refine lv_iload_n hx hb dX2_anyHasQueueIn_10 rfl (lv_at hl 3 rfl) ?_
    refine lv_iload_n hx hb dX2_anyHasQueueIn_11 rfl (lv_at hl 0 rfl) ?_
    refine lv_ishr hx hb dX2_anyHasQueueIn_12 ?_
    refine lv_iconst (v := 1) hx hb dX2_anyHasQueueIn_13 (by decide) ?_
    refine lv_iand hx hb dX2_anyHasQueueIn_14 ?_
    refine lv_iconst (v := 1) hx hb dX2_anyHasQueueIn_15 (by decide) ?_
    refine lv_icmp_ne (tgt := 34) hx hb dX2_anyHasQueueIn_16 (by decide) (fun c_3 => ?_) (fun c_3 => ?_)
    · refine lv_iinc (v := nI (k + 1)) (lv' := [(3, .int (nI (k + 1))), (0, .ref (L 1 0)), (1, .int tk), (2, .int x)]) hx hb dX2_anyHasQueueIn_34 hl (k := 0) rfl (nI_1 k) (by decide) rfl (fun ls hl => ?_)
      refine lv_goto (tgt := 2) hx hb dX2_anyHasQueueIn_37 (by decide) ?_
      exact ih (k + 1) (by omega)  (by rw [← hq]; show _ = (if (x >>> (nI k &&& 31)) &&& 1 = 1 then (if L_has a k tk = 0 then _ else _) else _); rw [if_neg c_3]) ls (lv_sub hl [0, 1, 2, 3] rfl) H locs hP hS
    · refine lv_aload_n hx hb dX2_anyHasQueueIn_19 rfl (lv_at hl 1 rfl) ?_
      refine va_get (D := (dC, dI)) (ws := [(L 1 0, .inr (2, [.ref (L 24 0), .int ((a 1 0) 0), .ref (L 25 0), .int κ.1]))]) (ci := 2) (v := .ref (L 24 0)) (C := RX2) (T := TX2) (N := 4) hx hb hts tl_X2 hown hK (hP.one (tw_mem (f := 1) (i := 0) (by decide) rfl)) 0 rfl rfl 0 (by decide) (hts _ tw_695) (fun _ h9 => h9) rfl dX2_anyHasQueueIn_20 ?_
      refine lv_iload_n hx hb dX2_anyHasQueueIn_23 rfl (lv_at hl 0 rfl) ?_
      have j_1 : (nI k : Int32).toNatClampNeg = k := m_cl rfl (by omega : k < 24) (by decide)
      refine va_aldq hx hb hK (ws := [(L 24 0, .inl (cy 3, 24, .inr (.inr (.inr (.inr (fun j => some (L 2 j)))))))]) (hP.one (tw_mem (f := 24) (i := 0) (by decide) rfl)) 0 3 rfl rfl (m_in rfl (by omega : k < 24) (by decide)) dX2_anyHasQueueIn_24 ?_
      refine W.eq (g2 := F0 m 25 ls [.ref (L 2 k)]) (by first | (rw [j_1]; done) | (rw [j_1]; rfl)) ?_
      refine lv_iload_n hx hb dX2_anyHasQueueIn_25 rfl (lv_at hl 2 rfl) ?_
      have hFc := m_free (C := (TW cy L tr a κ τ)) hP hS hA (fun _ _ h => h)
      refine va_calli (va_runV (As := [.int tk]) (rest := []) ⟨hx, hb, hml, hown, hts⟩ (c_Link_hasQueueIn l dC dI cy L tr a κ τ k tk H.size hT (by omega : k < 24) (hw.2.1 k (by omega)).2.2.2.2.2.2) (tp_cwV 1 hts tw_249 tw_250 tw_251 tw_23 tw_252 rfl rfl (by decide +kernel) ⟨Nat.le_of_ble_eq_true rfl, Nat.le_of_ble_eq_true rfl⟩) ⟨m_blind, va_recv hK (hP.one (e := .inr (1, [.int ((a 2 k) 0), .int ((a 2 k) 1), .int ((a 2 k) 2), .int ((a 2 k) 3), .int ((a 2 k) 4), .int ((a 2 k) 5), .int ((a 2 k) 6), .int ((a 2 k) 7), .int ((a 2 k) 8), .ref (L 3 k), .ref (L 5 k), .int ((a 2 k) 9), .int ((a 2 k) 10), .int ((a 2 k) 11), .int ((a 2 k) 12), .ref (L 7 k)])) (tw_mem (f := 2) (i := k) (by omega : k < 24) rfl)) (ci := 1) (q0 := 0) rfl rfl, fun U hU hW => ⟨rfl, m_pay hK hP hE (fun _ _ h => h) U hU hW⟩⟩ rfl rfl hl.1 rfl (lv_room (Nat.le_of_ble_eq_true rfl)) dX2_anyHasQueueIn_26 ⟨(Nat.le_of_ble_eq_true rfl), (Nat.le_of_ble_eq_true rfl)⟩) hS (fun q _ h => hFc q h) hFc (fun r_1 u t H1 locs ht hvm hw hB hz1 hk1 hS => ?_)
      obtain rfl := hw
      obtain ⟨f_1, hP1⟩ := hB
      subst f_1
      rw [ht] at hP1
      have hP : mw (dC, dI) vwCl A (TW cy L tr a κ τ) H1 := hP.join (fun _ _ h => h) hk1 hFc hP1 (fun _ _ h => Or.inl h)
      generalize H1 = H at hP hS ⊢
      clear hP1 hk1 hFc
      refine lv_if_eq (tgt := 34) hx hb dX2_anyHasQueueIn_29 (by decide) (fun c_4 => ?_) (fun c_4 => ?_)
      · refine lv_iinc (v := nI (k + 1)) (lv' := [(3, .int (nI (k + 1))), (0, .ref (L 1 0)), (1, .int tk), (2, .int x)]) hx hb dX2_anyHasQueueIn_34 hl (k := 0) rfl (nI_1 k) (by decide) rfl (fun ls hl => ?_)
        refine lv_goto (tgt := 2) hx hb dX2_anyHasQueueIn_37 (by decide) ?_
        exact ih (k + 1) (by omega)  (by rw [← hq]; show _ = (if (x >>> (nI k &&& 31)) &&& 1 = 1 then (if L_has a k tk = 0 then _ else _) else _); rw [if_pos c_3, if_pos c_4]) ls (lv_sub hl [0, 1, 2, 3] rfl) H locs hP hS
      · refine lv_iconst (v := 1) hx hb dX2_anyHasQueueIn_32 (by decide) ?_
        refine W.widen (k := 0) (n := 0) (Nat.le_of_ble_eq_true rfl) (Nat.le_of_ble_eq_true rfl) ?_
        have g_2 : 1 = G_any a tk x (nL a) 0 := by
          rw [← hq]
          show _ = (if (x >>> (nI k &&& 31)) &&& 1 = 1 then (if L_has a k tk = 0 then _ else _) else _)
          rw [if_pos c_3, if_neg c_4]
        exact W.zret (v := 1) hx hb hr rfl (fun t ht hW => ⟨⟨1, 1, rfl, rfl, ⟨g_2, by show mw _ _ _ _ t.heap; rw [ht]; exact hP⟩⟩, hS.F ht⟩) hS.2.2 dX2_anyHasQueueIn_33
