theorem cell_in {k : Int32} {L : Nat} (hk : ¬ k < 0) (hL : L < 2 ^ 31) (h : ¬ Int32.ofNat L ≤ k) : ¬ L ≤ k.toNatClampNeg := by
  obtain ⟨j, hj, rfl⟩ := nI_of hk
  rw [nI_clamp hj]
  intro h9
  exact h (nI_le h9 hj)
theorem nI_nneg {n : Nat} (h : n < 2 ^ 31) : ¬ nI n < 0 := by
  rw [Int32.lt_iff_toInt_lt, nI_toInt h]
  show ¬ (n : Int) < 0
  omega
theorem tw_1022 : Cond.constant RL 8 (790386105) ∈ tp_all := tp_mem 1022 (by decide +kernel) rfl
theorem tw_1026 : Cond.constant RL 7 (2147483647) ∈ tp_all := tp_mem 1026 (by decide +kernel) rfl
theorem tw_935 : Cond.fieldLink RX9 75 "TurnpikeLaw$Roads" "s" "[I" ∈ tp_all := tp_mem 935 (by decide +kernel) rfl
theorem tw_936 : Cond.fieldLink RX9 78 "TurnpikeLaw$Roads" "draws" "I" ∈ tp_all := tp_mem 936 (by decide +kernel) rfl
theorem tw_1021 : Cond.code yL_cell cL_cell 2 (some .int) ∈ tp_all := tp_mem 1021 (by decide +kernel) rfl
theorem tw_18 : Cond.initialized RL ∈ tp_all := tp_mem 18 (by decide +kernel) rfl
theorem tw_1020 : Cond.static yL_cell ∈ tp_all := tp_mem 1020 (by decide +kernel) rfl
theorem tw_1025 : Cond.code yL_below cL_below 2 (some .int) ∈ tp_all := tp_mem 1025 (by decide +kernel) rfl
theorem tw_1024 : Cond.static yL_below ∈ tp_all := tp_mem 1024 (by decide +kernel) rfl
theorem te_m6 {U : State} (h : tp_E U) : va_Nw (.methodLinkNest "TurnpikeLaw$Roads" 81 yL_cell "TurnpikeLaw") U := h.2.1 _ (List.mem_of_getElem? (i := 6) rfl)
theorem te_m7 {U : State} (h : tp_E U) : va_Nw (.methodLinkNest "TurnpikeLaw$Roads" 87 yL_below "TurnpikeLaw") U := h.2.1 _ (List.mem_of_getElem? (i := 7) rfl)
theorem dL_cell_0 : decode cL_cell 0 = .ok (.iload_n 1, 1) := by decide +kernel
theorem dL_cell_1 : decode cL_cell 1 = .ok (.aload_n 0, 1) := by decide +kernel
theorem dL_cell_2 : decode cL_cell 2 = .ok (.arraylength, 1) := by decide +kernel
theorem dL_cell_3 : decode cL_cell 3 = .ok (.if_icmp .ge 9, 3) := by decide +kernel
theorem dL_cell_12 : decode cL_cell 12 = .ok (.ldc 8, 2) := by decide +kernel
theorem dL_cell_14 : decode cL_cell 14 = .ok (.iload_n 1, 1) := by decide +kernel
theorem dL_cell_15 : decode cL_cell 15 = .ok (.iconst 3, 1) := by decide +kernel
theorem dL_cell_16 : decode cL_cell 16 = .ok (.iadd, 1) := by decide +kernel
theorem dL_cell_17 : decode cL_cell 17 = .ok (.imul, 1) := by decide +kernel
theorem dL_cell_18 : decode cL_cell 18 = .ok (.ireturn, 1) := by decide +kernel
theorem dL_cell_6 : decode cL_cell 6 = .ok (.aload_n 0, 1) := by decide +kernel
theorem dL_cell_7 : decode cL_cell 7 = .ok (.iload_n 1, 1) := by decide +kernel
theorem dL_cell_8 : decode cL_cell 8 = .ok (.iaload, 1) := by decide +kernel
theorem dL_cell_9 : decode cL_cell 9 = .ok (.goto 9, 3) := by decide +kernel
theorem dL_below_0 : decode cL_below 0 = .ok (.iload_n 0, 1) := by decide +kernel
theorem dL_below_1 : decode cL_below 1 = .ok (.ldc 7, 2) := by decide +kernel
theorem dL_below_3 : decode cL_below 3 = .ok (.iand, 1) := by decide +kernel
theorem dL_below_4 : decode cL_below 4 = .ok (.iload_n 1, 1) := by decide +kernel
theorem dL_below_5 : decode cL_below 5 = .ok (.irem, 1) := by decide +kernel
theorem dL_below_6 : decode cL_below 6 = .ok (.ireturn, 1) := by decide +kernel
theorem dX9_draw_0 : decode cX9_draw 0 = .ok (.aload_n 0, 1) := by decide +kernel
theorem dX9_draw_1 : decode cX9_draw 1 = .ok (.getfield 75, 3) := by decide +kernel
theorem dX9_draw_4 : decode cX9_draw 4 = .ok (.aload_n 0, 1) := by decide +kernel
theorem dX9_draw_5 : decode cX9_draw 5 = .ok (.getfield 78, 3) := by decide +kernel
theorem dX9_draw_8 : decode cX9_draw 8 = .ok (.bipush 24, 2) := by decide +kernel
theorem dX9_draw_10 : decode cX9_draw 10 = .ok (.irem, 1) := by decide +kernel
theorem dX9_draw_11 : decode cX9_draw 11 = .ok (.invokestatic 81, 3) := by decide +kernel
theorem dX9_draw_14 : decode cX9_draw 14 = .ok (.aload_n 0, 1) := by decide +kernel
theorem dX9_draw_15 : decode cX9_draw 15 = .ok (.getfield 78, 3) := by decide +kernel
theorem dX9_draw_18 : decode cX9_draw 18 = .ok (.bipush 24, 2) := by decide +kernel
theorem dX9_draw_20 : decode cX9_draw 20 = .ok (.idiv, 1) := by decide +kernel
theorem dX9_draw_21 : decode cX9_draw 21 = .ok (.bipush 8, 2) := by decide +kernel
theorem dX9_draw_23 : decode cX9_draw 23 = .ok (.irem, 1) := by decide +kernel
theorem dX9_draw_24 : decode cX9_draw 24 = .ok (.ishr, 1) := by decide +kernel
theorem dX9_draw_25 : decode cX9_draw 25 = .ok (.bipush 67, 2) := by decide +kernel
theorem dX9_draw_27 : decode cX9_draw 27 = .ok (.aload_n 0, 1) := by decide +kernel
theorem dX9_draw_28 : decode cX9_draw 28 = .ok (.getfield 78, 3) := by decide +kernel
theorem dX9_draw_31 : decode cX9_draw 31 = .ok (.imul, 1) := by decide +kernel
theorem dX9_draw_32 : decode cX9_draw 32 = .ok (.iadd, 1) := by decide +kernel
theorem dX9_draw_33 : decode cX9_draw 33 = .ok (.iload_n 1, 1) := by decide +kernel
theorem dX9_draw_34 : decode cX9_draw 34 = .ok (.invokestatic 87, 3) := by decide +kernel
theorem dX9_draw_37 : decode cX9_draw 37 = .ok (.istore_n 2, 1) := by decide +kernel
theorem dX9_draw_38 : decode cX9_draw 38 = .ok (.aload_n 0, 1) := by decide +kernel
theorem dX9_draw_39 : decode cX9_draw 39 = .ok (.dup, 1) := by decide +kernel
theorem dX9_draw_40 : decode cX9_draw 40 = .ok (.getfield 78, 3) := by decide +kernel
theorem dX9_draw_43 : decode cX9_draw 43 = .ok (.iconst 1, 1) := by decide +kernel
theorem dX9_draw_44 : decode cX9_draw 44 = .ok (.iadd, 1) := by decide +kernel
theorem dX9_draw_45 : decode cX9_draw 45 = .ok (.putfield 78, 3) := by decide +kernel
theorem dX9_draw_48 : decode cX9_draw 48 = .ok (.iload_n 2, 1) := by decide +kernel
theorem dX9_draw_49 : decode cX9_draw 49 = .ok (.ireturn, 1) := by decide +kernel
set_option maxRecDepth 100000 in
set_option maxHeartbeats 4000000 in
/-- TurnpikeLaw.cell -/
theorem c_cell (l : Launch) (dC : Nat → ClassId) (dI : Nat → Nat → Nat) (cy : Nat → ClassId) (bs Ls : Nat) (xs : Nat → Int32) (k : Int32) (sz : Nat) (hk : ¬ k < 0) : Met l yL_cell (tp_w yL_cell cL_cell 2 (some .int)) ({ frames := 0, cells := 0, slots := 0, locals := 0 }) (va_Pc [.ref bs, .int k] (gPre dC dI cy bs Ls xs [] sz)) (va_Qi (fun (r u : Int32) => r = u) (fun (u : Int32) (t : State) => ms (dC, dI) vwCl (mA (anyP []) sz) [] t.heap) (mA (anyP []) sz)) (0) (0) (mA (anyP []) sz) := by
  refine Met.ofW (cc := cL_cell) (maxL := 2) (ret := (some .int)) (by decide) rfl ?_
  intro p e s m args below meth c s₁ B hml hv
  obtain ⟨rfl, hsz, hP, hK, hE, hX, hbl, hbL, hbn⟩ := hv
  have hx := B.exec
  have hb := B.bytes
  have hr := B.returns
  have hts0 := atoms_spec (ws := tp_w yL_cell cL_cell 2 (some .int)) B.pre
  have hts : ∀ w ∈ tp_all, w.before _ s = true := fun w h => hts0 w (List.mem_cons_of_mem _ h)
  have hown : s.vm.findClass RL = some m.cls := findClass_of_methodNamed B.named
  have hlocks := B.notSynchronized
  subst hsz
  have hP := hP.self s.heap.size
  have hbA : ¬ mA (anyP []) s.heap.size bs := by
    rintro (⟨e9, he⟩ | h9)
    · exact hbn e9 he
    · omega
  generalize hAe : mA (anyP []) s.heap.size = A at hP hbA ⊢
  have hA : ∀ q : Nat, s.heap.size ≤ q → A q := fun q h => by rw [← hAe]; exact Or.inr h
  have hS : va_S A s.heap s.heap [] := va_S.rf
  have hl9 := lv_entry ([.ref bs, .int k]) (n := 2) (Nat.le_of_ble_eq_true rfl)
  rw [lg_entry_eq]
  generalize (lg_sl ([.ref bs, .int k]) ++ List.replicate (2 - (lg_sl ([.ref bs, .int k])).length) Slot.unset).toArray = ls at hl9 ⊢
  have hl : lv_has ls 2 [(0, .ref bs), (1, .int k)] := hl9
  refine lv_iload_n hx hb dL_cell_0 rfl (lv_at hl 1 rfl) ?_
  refine lv_aload_n hx hb dL_cell_1 rfl (lv_at hl 0 rfl) ?_
  refine va_slen hx hb hX hbl hbA hS dL_cell_2 ?_
  refine lv_icmp_ge (tgt := 12) hx hb dL_cell_3 (by decide) (fun c_1 => ?_) (fun c_1 => ?_)
  · refine lv_ldc (v := 790386105) hx hb hown (hts _ tw_1022) dL_cell_12 ?_
    refine lv_iload_n hx hb dL_cell_14 rfl (lv_at hl 1 rfl) ?_
    refine lv_iconst (v := 3) hx hb dL_cell_15 (by decide) ?_
    refine lv_iadd hx hb dL_cell_16 ?_
    refine lv_imul hx hb dL_cell_17 ?_
    refine W.widen (k := 0) (n := 0) (by show 0 + 0 ≤ 0; omega) (by show 0 + 0 ≤ 0; omega) ?_
    exact W.iret (v := 790386105 * (k + 3)) hx hb hr (fun t ht hW => ⟨⟨(790386105 * (k + 3)), (790386105 * (k + 3)), rfl, rfl, (by show ms _ _ _ _ t.heap; rw [ht]; exact hP)⟩, hS.F ht⟩) hS.2.2 dL_cell_18
  · refine lv_aload_n hx hb dL_cell_6 rfl (lv_at hl 0 rfl) ?_
    refine lv_iload_n hx hb dL_cell_7 rfl (lv_at hl 1 rfl) ?_
    refine va_sld hx hb hX hbl hbA hS ?_ dL_cell_8 ?_
    · rintro (h9 | h9)
      · exact hk h9
      · exact cell_in hk (by omega) c_1 h9
    refine lv_goto (tgt := 18) hx hb dL_cell_9 (by decide) ?_
    refine W.widen (k := 0) (n := 0) (by show 0 + 0 ≤ 0; omega) (by show 0 + 0 ≤ 0; omega) ?_
    exact W.iret (v := xs (k : Int32).toNatClampNeg) hx hb hr (fun t ht hW => ⟨⟨(xs (k : Int32).toNatClampNeg), (xs (k : Int32).toNatClampNeg), rfl, rfl, (by show ms _ _ _ _ t.heap; rw [ht]; exact hP)⟩, hS.F ht⟩) hS.2.2 dL_cell_18
set_option maxRecDepth 100000 in
set_option maxHeartbeats 4000000 in
/-- TurnpikeLaw.below -/
theorem c_below (l : Launch) (dC : Nat → ClassId) (dI : Nat → Nat → Nat) (cy : Nat → ClassId) (bs Ls : Nat) (xs : Nat → Int32) (v : Int32) (n : Nat) (sz : Nat) (h0 : 0 < n) (hn : n < 2 ^ 31) : Met l yL_below (tp_w yL_below cL_below 2 (some .int)) ({ frames := 0, cells := 0, slots := 0, locals := 0 }) (va_Pc [.int v, .int (nI n)] (gPre dC dI cy bs Ls xs [] sz)) (va_Qi (fun (r u : Int32) => r = u) (fun (u : Int32) (t : State) => ∃ (r : Nat), (r < n) ∧ (u = nI r) ∧ ms (dC, dI) vwCl (mA (anyP []) sz) [] t.heap) (mA (anyP []) sz)) (0) (0) (mA (anyP []) sz) := by
  refine Met.ofW (cc := cL_below) (maxL := 2) (ret := (some .int)) (by decide) rfl ?_
  intro p e s m args below meth c s₁ B hml hv
  obtain ⟨rfl, hsz, hP, hK, hE, hX, hbl, hbL, hbn⟩ := hv
  have hx := B.exec
  have hb := B.bytes
  have hr := B.returns
  have hts0 := atoms_spec (ws := tp_w yL_below cL_below 2 (some .int)) B.pre
  have hts : ∀ w ∈ tp_all, w.before _ s = true := fun w h => hts0 w (List.mem_cons_of_mem _ h)
  have hown : s.vm.findClass RL = some m.cls := findClass_of_methodNamed B.named
  have hlocks := B.notSynchronized
  subst hsz
  have hP := hP.self s.heap.size
  have hbA : ¬ mA (anyP []) s.heap.size bs := by
    rintro (⟨e9, he⟩ | h9)
    · exact hbn e9 he
    · omega
  generalize hAe : mA (anyP []) s.heap.size = A at hP hbA ⊢
  have hA : ∀ q : Nat, s.heap.size ≤ q → A q := fun q h => by rw [← hAe]; exact Or.inr h
  have hS : va_S A s.heap s.heap [] := va_S.rf
  have hl9 := lv_entry ([.int v, .int (nI n)]) (n := 2) (Nat.le_of_ble_eq_true rfl)
  rw [lg_entry_eq]
  generalize (lg_sl ([.int v, .int (nI n)]) ++ List.replicate (2 - (lg_sl ([.int v, .int (nI n)])).length) Slot.unset).toArray = ls at hl9 ⊢
  have hl : lv_has ls 2 [(0, .int v), (1, .int (nI n))] := hl9
  refine lv_iload_n hx hb dL_below_0 rfl (lv_at hl 0 rfl) ?_
  refine lv_ldc (v := 2147483647) hx hb hown (hts _ tw_1026) dL_below_1 ?_
  refine lv_iand hx hb dL_below_3 ?_
  refine W.eq (g2 := F0 m 4 ls [.int (nI (v.toBitVec.toNat % 2 ^ 31))]) (by rw [pk_and v 31 (by decide)]) ?_
  refine lv_iload_n hx hb dL_below_4 rfl (lv_at hl 1 rfl) ?_
  refine lv_irem hx hb dL_below_5 (nI_ne0 h0 hn) ?_
  refine W.eq (g2 := F0 m 6 ls [.int (nI (v.toBitVec.toNat % 2 ^ 31 % n))]) (by rw [pk_rem (Nat.mod_lt _ (by decide)) h0 hn]) ?_
  refine W.widen (k := 0) (n := 0) (by show 0 + 0 ≤ 0; omega) (by show 0 + 0 ≤ 0; omega) ?_
  have g_1 : v.toBitVec.toNat % 2 ^ 31 % n < n := Nat.mod_lt _ h0
  have g_2 : nI (v.toBitVec.toNat % 2 ^ 31 % n) = nI (v.toBitVec.toNat % 2 ^ 31 % n) := rfl
  exact W.iret (v := nI (v.toBitVec.toNat % 2 ^ 31 % n)) hx hb hr (fun t ht hW => ⟨⟨(nI (v.toBitVec.toNat % 2 ^ 31 % n)), (nI (v.toBitVec.toNat % 2 ^ 31 % n)), rfl, rfl, ⟨(v.toBitVec.toNat % 2 ^ 31 % n), g_1, g_2, by show ms _ _ _ _ t.heap; rw [ht]; exact hP⟩⟩, hS.F ht⟩) hS.2.2 dL_below_6
set_option maxRecDepth 100000 in
set_option maxHeartbeats 4000000 in
/-- TurnpikeLaw.Roads.draw -/
theorem c_draw (l : Launch) (dC : Nat → ClassId) (dI : Nat → Nat → Nat) (cy : Nat → ClassId) (bs Ls : Nat) (xs : Nat → Int32) (gp : Nat) (ob : Nat) (qf : Nat → Nat) (d : Nat) (nd : Nat) (nl : Nat) (nf : Nat) (n : Nat) (sz : Nat) (h0 : 0 < n) (hn : n < 2 ^ 31) (hd : d < 1000000) : Met l yX9_draw (tp_w yX9_draw cX9_draw 3 (some .int)) ({ frames := 1, cells := 0, slots := 0, locals := 21 }) (va_Pc [.ref gp, .int (nI n)] (gPre dC dI cy bs Ls xs [cel gp (gO ob bs qf d nd nl nf)] sz)) (va_Qi (fun (r u : Int32) => r = u) (fun (u : Int32) (t : State) => ∃ (r : Nat), (r < n) ∧ (u = nI r) ∧ ms (dC, dI) vwCl (mA (anyP [cel gp (gO ob bs qf d nd nl nf)]) sz) [cel gp (gO ob bs qf (d + 1) nd nl nf)] t.heap) (mA (anyP [cel gp (gO ob bs qf d nd nl nf)]) sz)) (0) (0) (mA (anyP [cel gp (gO ob bs qf d nd nl nf)]) sz) := by
  refine Met.ofW (cc := cX9_draw) (maxL := 3) (ret := (some .int)) (by decide) rfl ?_
  intro p e s m args below meth c s₁ B hml hv
  obtain ⟨rfl, hsz, hP, hK, hE, hX, hbl, hbL, hbn⟩ := hv
  have hx := B.exec
  have hb := B.bytes
  have hr := B.returns
  have hts0 := atoms_spec (ws := tp_w yX9_draw cX9_draw 3 (some .int)) B.pre
  have hts : ∀ w ∈ tp_all, w.before _ s = true := fun w h => hts0 w (List.mem_cons_of_mem _ h)
  have hown : s.vm.findClass RX9 = some m.cls := findClass_of_methodNamed B.named
  have hlocks := B.notSynchronized
  subst hsz
  have hP := hP.self s.heap.size
  have hbA : ¬ mA (anyP [cel gp (gO ob bs qf d nd nl nf)]) s.heap.size bs := by
    rintro (⟨e9, he⟩ | h9)
    · exact hbn e9 he
    · omega
  generalize hAe : mA (anyP [cel gp (gO ob bs qf d nd nl nf)]) s.heap.size = A at hP hbA ⊢
  have hA : ∀ q : Nat, s.heap.size ≤ q → A q := fun q h => by rw [← hAe]; exact Or.inr h
  have hS : va_S A s.heap s.heap [] := va_S.rf
  have hl9 := lv_entry ([.ref gp, .int (nI n)]) (n := 3) (Nat.le_of_ble_eq_true rfl)
  rw [lg_entry_eq]
  generalize (lg_sl ([.ref gp, .int (nI n)]) ++ List.replicate (3 - (lg_sl ([.ref gp, .int (nI n)])).length) Slot.unset).toArray = ls at hl9 ⊢
  have hl : lv_has ls 3 [(0, .ref gp), (1, .int (nI n))] := hl9
  refine lv_aload_n hx hb dX9_draw_0 rfl (lv_at hl 0 rfl) ?_
  refine va_get (D := (dC, dI)) (ws := [(gp, .inr (9, [.ref ob, .ref bs, .int (nI d), .int (nI nd), .int 0, .int 1, .int (nI nl), .ref (qf 0), .ref (qf 1), .ref (qf 2), .ref (qf 3), .ref (qf 4), .ref (qf 5), .ref (qf 6), .ref (qf 7), .ref (qf 8), .int (nI nf), .ref (qf 9), .int 0, .ref (qf 10), .ref (qf 11), .ref (qf 12), .ref (qf 13), .ref (qf 14), .ref (qf 15)]))]) (ci := 9) (v := .ref bs) (C := RX9) (T := TX9) (N := 25) hx hb hts tl_X9 hown hK (hP.one 0 rfl cel_in) 0 rfl rfl 1 (by decide) (hts _ tw_935) (fun _ h9 => h9) rfl dX9_draw_1 ?_
  refine lv_aload_n hx hb dX9_draw_4 rfl (lv_at hl 0 rfl) ?_
  refine va_get (D := (dC, dI)) (ws := [(gp, .inr (9, [.ref ob, .ref bs, .int (nI d), .int (nI nd), .int 0, .int 1, .int (nI nl), .ref (qf 0), .ref (qf 1), .ref (qf 2), .ref (qf 3), .ref (qf 4), .ref (qf 5), .ref (qf 6), .ref (qf 7), .ref (qf 8), .int (nI nf), .ref (qf 9), .int 0, .ref (qf 10), .ref (qf 11), .ref (qf 12), .ref (qf 13), .ref (qf 14), .ref (qf 15)]))]) (ci := 9) (v := .int (nI d)) (C := RX9) (T := TX9) (N := 25) hx hb hts tl_X9 hown hK (hP.one 0 rfl cel_in) 0 rfl rfl 2 (by decide) (hts _ tw_936) (fun _ h9 => h9) rfl dX9_draw_5 ?_
  refine lv_bipush (v := 24) hx hb dX9_draw_8 (by decide) ?_
  refine lv_irem hx hb dX9_draw_10 (by decide) ?_
  refine W.eq (g2 := F0 m 11 ls [.int (nI (d % 24)), .ref bs]) (by rw [show (24 : Int32) = nI 24 from rfl, pk_rem (a := d) (d := 24) (by omega) (by decide) (by decide)]) ?_
  have hPc : ms (dC, dI) vwCl A ([] ++ [cel gp (gO ob bs qf d nd nl nf)]) s.heap := hP.sel [0] rfl (by decide)
  have hFc := g_free hPc hS hA
  refine va_calli (va_runSN (As := [.ref bs, .int (nI (d % 24))]) (rest := []) ⟨hx, hb, hml, hown, hts⟩ (c_cell l dC dI cy bs Ls xs (nI (d % 24)) s.heap.size (nI_nneg (by omega))) ⟨tp_cnB 2 hts (te_m6 hE) tw_18 tw_1021 rfl rfl (by decide +kernel) ⟨Nat.le_of_ble_eq_true rfl, Nat.le_of_ble_eq_true rfl⟩, hts _ tw_1020, trivial⟩ ⟨g_blind, fun U hU hW => ⟨rfl, g_pay hK hPc hE hX hbl hbL hbA hS U hU hW⟩⟩ rfl rfl hl.1 rfl (lv_room (Nat.le_of_ble_eq_true rfl)) dX9_draw_11 ⟨(by show 0 + 0 ≤ 0; omega), (by show 0 + 0 ≤ 0; omega)⟩) hS (fun q _ h => hFc q h) hFc (fun r_1 u t H1 locs ht hvm hpo hB hz1 hk1 hS => ?_)
  obtain rfl := hpo
  have hP1 := hB
  rw [ht] at hP1
  have hPj := hPc.calls hk1 hFc hP1
  have hP : ms (dC, dI) vwCl A [cel gp (gO ob bs qf d nd nl nf)] H1 := hPj.sel [0] rfl (by decide)
  clear hPj hPc hP1 hk1 hFc
  generalize H1 = H at hP hS ⊢
  refine lv_aload_n hx hb dX9_draw_14 rfl (lv_at hl 0 rfl) ?_
  refine va_get (D := (dC, dI)) (ws := [(gp, .inr (9, [.ref ob, .ref bs, .int (nI d), .int (nI nd), .int 0, .int 1, .int (nI nl), .ref (qf 0), .ref (qf 1), .ref (qf 2), .ref (qf 3), .ref (qf 4), .ref (qf 5), .ref (qf 6), .ref (qf 7), .ref (qf 8), .int (nI nf), .ref (qf 9), .int 0, .ref (qf 10), .ref (qf 11), .ref (qf 12), .ref (qf 13), .ref (qf 14), .ref (qf 15)]))]) (ci := 9) (v := .int (nI d)) (C := RX9) (T := TX9) (N := 25) hx hb hts tl_X9 hown hK (hP.one 0 rfl cel_in) 0 rfl rfl 2 (by decide) (hts _ tw_936) (fun _ h9 => h9) rfl dX9_draw_15 ?_
  refine lv_bipush (v := 24) hx hb dX9_draw_18 (by decide) ?_
  refine lv_idiv hx hb dX9_draw_20 (by decide) ?_
  refine lv_bipush (v := 8) hx hb dX9_draw_21 (by decide) ?_
  refine lv_irem hx hb dX9_draw_23 (by decide) ?_
  refine lv_ishr hx hb dX9_draw_24 ?_
  refine lv_bipush (v := 67) hx hb dX9_draw_25 (by decide) ?_
  refine lv_aload_n hx hb dX9_draw_27 rfl (lv_at hl 0 rfl) ?_
  refine va_get (D := (dC, dI)) (ws := [(gp, .inr (9, [.ref ob, .ref bs, .int (nI d), .int (nI nd), .int 0, .int 1, .int (nI nl), .ref (qf 0), .ref (qf 1), .ref (qf 2), .ref (qf 3), .ref (qf 4), .ref (qf 5), .ref (qf 6), .ref (qf 7), .ref (qf 8), .int (nI nf), .ref (qf 9), .int 0, .ref (qf 10), .ref (qf 11), .ref (qf 12), .ref (qf 13), .ref (qf 14), .ref (qf 15)]))]) (ci := 9) (v := .int (nI d)) (C := RX9) (T := TX9) (N := 25) hx hb hts tl_X9 hown hK (hP.one 0 rfl cel_in) 0 rfl rfl 2 (by decide) (hts _ tw_936) (fun _ h9 => h9) rfl dX9_draw_28 ?_
  refine lv_imul hx hb dX9_draw_31 ?_
  refine lv_iadd hx hb dX9_draw_32 ?_
  refine lv_iload_n hx hb dX9_draw_33 rfl (lv_at hl 1 rfl) ?_
  have hPc : ms (dC, dI) vwCl A ([] ++ [cel gp (gO ob bs qf d nd nl nf)]) H := hP.sel [0] rfl (by decide)
  have hFc := g_free hPc hS hA
  refine va_calli (va_runSN (As := [.int ((r_1 >>> ((((nI d) / 24) - ((nI d) / 24) / 8 * 8) &&& 31)) + (67 * (nI d))), .int (nI n)]) (rest := []) ⟨hx, hb, hml, hown, hts⟩ (c_below l dC dI cy bs Ls xs ((r_1 >>> ((((nI d) / 24) - ((nI d) / 24) / 8 * 8) &&& 31)) + (67 * (nI d))) n H.size (by first | assumption | omega) (by first | assumption | omega)) ⟨tp_cnB 2 hts (te_m7 hE) tw_18 tw_1025 rfl rfl (by decide +kernel) ⟨Nat.le_of_ble_eq_true rfl, Nat.le_of_ble_eq_true rfl⟩, hts _ tw_1024, trivial⟩ ⟨g_blind, fun U hU hW => ⟨rfl, g_pay hK hPc hE hX hbl hbL hbA hS U hU hW⟩⟩ rfl rfl hl.1 rfl (lv_room (Nat.le_of_ble_eq_true rfl)) dX9_draw_34 ⟨(by show 0 + 0 + 0 ≤ 0; omega), (by show 0 + 0 + 0 ≤ 0; omega)⟩) hS (fun q _ h => hFc q h) hFc (fun r_2 u t H1 locs ht hvm hpo hB hz1 hk1 hS => ?_)
  obtain rfl := hpo
  obtain ⟨z_3, f_4, f_5, hP1⟩ := hB
  rw [ht] at hP1
  have hPj := hPc.calls hk1 hFc hP1
  have hP : ms (dC, dI) vwCl A [cel gp (gO ob bs qf d nd nl nf)] H1 := hPj.sel [0] rfl (by decide)
  clear hPj hPc hP1 hk1 hFc
  generalize H1 = H at hP hS ⊢
  subst f_5
  refine lv_istore_n (lv' := [(2, .int (nI z_3)), (0, .ref gp), (1, .int (nI n))]) hx hb dX9_draw_37 rfl hl (by decide) rfl (fun ls hl => ?_)
  refine lv_aload_n hx hb dX9_draw_38 rfl (lv_at hl 1 rfl) ?_
  refine lv_dup hx hb dX9_draw_39 rfl ?_
  refine va_get (D := (dC, dI)) (ws := [(gp, .inr (9, [.ref ob, .ref bs, .int (nI d), .int (nI nd), .int 0, .int 1, .int (nI nl), .ref (qf 0), .ref (qf 1), .ref (qf 2), .ref (qf 3), .ref (qf 4), .ref (qf 5), .ref (qf 6), .ref (qf 7), .ref (qf 8), .int (nI nf), .ref (qf 9), .int 0, .ref (qf 10), .ref (qf 11), .ref (qf 12), .ref (qf 13), .ref (qf 14), .ref (qf 15)]))]) (ci := 9) (v := .int (nI d)) (C := RX9) (T := TX9) (N := 25) hx hb hts tl_X9 hown hK (hP.one 0 rfl cel_in) 0 rfl rfl 2 (by decide) (hts _ tw_936) (fun _ h9 => h9) rfl dX9_draw_40 ?_
  refine lv_iconst (v := 1) hx hb dX9_draw_43 (by decide) ?_
  refine lv_iadd hx hb dX9_draw_44 ?_
  refine W.eq (g2 := F0 m 45 ls [.int (nI (d + 1)), .ref gp]) (by rw [nI_1]) ?_
  obtain ⟨ws9, k9, hPw, hDw, hk9, -, hbk⟩ := hP.cutc 0 rfl
  refine va_put (D := (dC, dI)) (ci := 9) (v := .int (nI (d + 1))) (ty := .int) (C := RX9) (T := TX9) (N := 25) hx hb hts tl_X9 tyX9 tyX9_ok nmX9 hown hK hPw hDw hS k9 hk9 rfl 2 (by decide) (hts _ tw_936) (fun _ h9 => h9) rfl (by decide +kernel) rfl rfl (Nat.le_of_ble_eq_true rfl) dX9_draw_45 (fun H locs hPw hDw hS => ?_)
  have hP : ms (dC, dI) vwCl A [cel gp (gO ob bs qf (d + 1) nd nl nf)] H := hbk _ _ hPw hDw
  clear hbk hPw hDw hk9
  refine lv_iload_n hx hb dX9_draw_48 rfl (lv_at hl 0 rfl) ?_
  refine W.widen (k := 0) (n := 0) (by show 0 + 0 + 0 + 0 ≤ 0; omega) (by show 0 + 0 + 0 + 0 ≤ 0; omega) ?_
  have g_6 : z_3 < n := f_4
  have g_7 : nI z_3 = nI z_3 := rfl
  exact W.iret (v := nI z_3) hx hb hr (fun t ht hW => ⟨⟨(nI z_3), (nI z_3), rfl, rfl, ⟨z_3, g_6, g_7, by show ms _ _ _ _ t.heap; rw [ht]; exact hP⟩⟩, hS.F ht⟩) hS.2.2 dX9_draw_49
