theorem tw_615 : Cond.fieldLink RX3 21 "Turnpike$Row" "size" "I" ∈ tp_all := tp_mem 615 (by decide +kernel) rfl
theorem tw_614 : Cond.fieldLink RX3 15 "Turnpike$Row" "number" "[I" ∈ tp_all := tp_mem 614 (by decide +kernel) rfl
theorem tw_355 : Cond.methodLink RX3 25 ⟨"java/lang/System", "arraycopy", "(Ljava/lang/Object;ILjava/lang/Object;II)V"⟩ ∈ tp_all := tp_mem 355 (by decide +kernel) rfl
theorem tw_342 : Cond.native ⟨"java/lang/System", "arraycopy", "(Ljava/lang/Object;ILjava/lang/Object;II)V"⟩ ∈ tp_all := tp_mem 342 (by decide +kernel) rfl
theorem tw_341 : Cond.static ⟨"java/lang/System", "arraycopy", "(Ljava/lang/Object;ILjava/lang/Object;II)V"⟩ ∈ tp_all := tp_mem 341 (by decide +kernel) rfl
theorem tw_36 : Cond.initialized RJ10 ∈ tp_all := tp_mem 36 (by decide +kernel) rfl
theorem dX3_get_0 : decode cX3_get 0 = .ok (.iload_n 1, 1) := by decide +kernel
theorem dX3_get_1 : decode cX3_get 1 = .ok (.ifCond .lt 20, 3) := by decide +kernel
theorem dX3_get_21 : decode cX3_get 21 = .ok (.iconst (-1), 1) := by decide +kernel
theorem dX3_get_22 : decode cX3_get 22 = .ok (.ireturn, 1) := by decide +kernel
theorem dX3_get_4 : decode cX3_get 4 = .ok (.iload_n 1, 1) := by decide +kernel
theorem dX3_get_5 : decode cX3_get 5 = .ok (.aload_n 0, 1) := by decide +kernel
theorem dX3_get_6 : decode cX3_get 6 = .ok (.getfield 21, 3) := by decide +kernel
theorem dX3_get_9 : decode cX3_get 9 = .ok (.if_icmp .ge 12, 3) := by decide +kernel
theorem dX3_get_12 : decode cX3_get 12 = .ok (.aload_n 0, 1) := by decide +kernel
theorem dX3_get_13 : decode cX3_get 13 = .ok (.getfield 15, 3) := by decide +kernel
theorem dX3_get_16 : decode cX3_get 16 = .ok (.iload_n 1, 1) := by decide +kernel
theorem dX3_get_17 : decode cX3_get 17 = .ok (.iaload, 1) := by decide +kernel
theorem dX3_get_18 : decode cX3_get 18 = .ok (.goto 4, 3) := by decide +kernel
theorem dX3_append_0 : decode cX3_append 0 = .ok (.aload_n 0, 1) := by decide +kernel
theorem dX3_append_1 : decode cX3_append 1 = .ok (.getfield 21, 3) := by decide +kernel
theorem dX3_append_4 : decode cX3_append 4 = .ok (.aload_n 0, 1) := by decide +kernel
theorem dX3_append_5 : decode cX3_append 5 = .ok (.getfield 15, 3) := by decide +kernel
theorem dX3_append_8 : decode cX3_append 8 = .ok (.arraylength, 1) := by decide +kernel
theorem dX3_append_9 : decode cX3_append 9 = .ok (.if_icmp .ge 23, 3) := by decide +kernel
theorem dX3_append_32 : decode cX3_append 32 = .ok (.return_, 1) := by decide +kernel
theorem dX3_append_12 : decode cX3_append 12 = .ok (.aload_n 0, 1) := by decide +kernel
theorem dX3_append_13 : decode cX3_append 13 = .ok (.getfield 15, 3) := by decide +kernel
theorem dX3_append_16 : decode cX3_append 16 = .ok (.aload_n 0, 1) := by decide +kernel
theorem dX3_append_17 : decode cX3_append 17 = .ok (.getfield 21, 3) := by decide +kernel
theorem dX3_append_20 : decode cX3_append 20 = .ok (.iload_n 1, 1) := by decide +kernel
theorem dX3_append_21 : decode cX3_append 21 = .ok (.iastore, 1) := by decide +kernel
theorem dX3_append_22 : decode cX3_append 22 = .ok (.aload_n 0, 1) := by decide +kernel
theorem dX3_append_23 : decode cX3_append 23 = .ok (.dup, 1) := by decide +kernel
theorem dX3_append_24 : decode cX3_append 24 = .ok (.getfield 21, 3) := by decide +kernel
theorem dX3_append_27 : decode cX3_append 27 = .ok (.iconst 1, 1) := by decide +kernel
theorem dX3_append_28 : decode cX3_append 28 = .ok (.iadd, 1) := by decide +kernel
theorem dX3_append_29 : decode cX3_append 29 = .ok (.putfield 21, 3) := by decide +kernel
theorem dX3_dropFirst_0 : decode cX3_dropFirst 0 = .ok (.aload_n 0, 1) := by decide +kernel
theorem dX3_dropFirst_1 : decode cX3_dropFirst 1 = .ok (.getfield 21, 3) := by decide +kernel
theorem dX3_dropFirst_4 : decode cX3_dropFirst 4 = .ok (.ifCond .le 30, 3) := by decide +kernel
theorem dX3_dropFirst_34 : decode cX3_dropFirst 34 = .ok (.return_, 1) := by decide +kernel
theorem dX3_dropFirst_7 : decode cX3_dropFirst 7 = .ok (.aload_n 0, 1) := by decide +kernel
theorem dX3_dropFirst_8 : decode cX3_dropFirst 8 = .ok (.dup, 1) := by decide +kernel
theorem dX3_dropFirst_9 : decode cX3_dropFirst 9 = .ok (.getfield 21, 3) := by decide +kernel
theorem dX3_dropFirst_12 : decode cX3_dropFirst 12 = .ok (.iconst 1, 1) := by decide +kernel
theorem dX3_dropFirst_13 : decode cX3_dropFirst 13 = .ok (.isub, 1) := by decide +kernel
theorem dX3_dropFirst_14 : decode cX3_dropFirst 14 = .ok (.putfield 21, 3) := by decide +kernel
theorem dX3_dropFirst_17 : decode cX3_dropFirst 17 = .ok (.aload_n 0, 1) := by decide +kernel
theorem dX3_dropFirst_18 : decode cX3_dropFirst 18 = .ok (.getfield 15, 3) := by decide +kernel
theorem dX3_dropFirst_21 : decode cX3_dropFirst 21 = .ok (.iconst 1, 1) := by decide +kernel
theorem dX3_dropFirst_22 : decode cX3_dropFirst 22 = .ok (.aload_n 0, 1) := by decide +kernel
theorem dX3_dropFirst_23 : decode cX3_dropFirst 23 = .ok (.getfield 15, 3) := by decide +kernel
theorem dX3_dropFirst_26 : decode cX3_dropFirst 26 = .ok (.iconst 0, 1) := by decide +kernel
theorem dX3_dropFirst_27 : decode cX3_dropFirst 27 = .ok (.aload_n 0, 1) := by decide +kernel
theorem dX3_dropFirst_28 : decode cX3_dropFirst 28 = .ok (.getfield 21, 3) := by decide +kernel
theorem dX3_dropFirst_31 : decode cX3_dropFirst 31 = .ok (.invokestatic 25, 3) := by decide +kernel
set_option maxRecDepth 100000 in
set_option maxHeartbeats 4000000 in
/-- Row.get, row -/
theorem c_Row_get_row (l : Launch) (dC : Nat → ClassId) (dI : Nat → Nat → Nat) (cy : Nat → ClassId) (L : Lay) (tr : Option Nat) (a : St) (κ : Kap) (τ : Tau) (i : Nat) (n : Int32) (sz : Nat) (hT : TL L tr τ) (hi : i < 24) (hs : (a 3 i 0).toInt ≤ 30) : Met l yX3_get (tp_w yX3_get cX3_get 2 (some .int)) ({ frames := 0, cells := 0, slots := 0, locals := 0 }) (va_Pc [.ref (L 3 i), .int n] (mPre dC dI cy (TW cy L tr a κ τ) sz)) (va_Qi (fun (r u : Int32) => r = u) (fun (u : Int32) (t : State) => (u = R_get (a 3 i 0) (a 4 i) n) ∧ mw (dC, dI) vwCl (mA (TW cy L tr a κ τ) sz) (TW cy L tr a κ τ) t.heap) (mA (TW cy L tr a κ τ) sz)) (0) (0) (mA (TW cy L tr a κ τ) sz) := by
  refine Met.ofW (cc := cX3_get) (maxL := 2) (ret := (some .int)) (by decide) rfl ?_
  intro p e s m args below meth c s₁ B hml hv
  obtain ⟨rfl, hsz, hP, hK, hE⟩ := hv
  have hx := B.exec
  have hb := B.bytes
  have hr := B.returns
  have hts0 := atoms_spec (ws := tp_w yX3_get cX3_get 2 (some .int)) B.pre
  have hts : ∀ w ∈ tp_all, w.before _ s = true := fun w h => hts0 w (List.mem_cons_of_mem _ h)
  have hown : s.vm.findClass RX3 = some m.cls := findClass_of_methodNamed B.named
  have hlocks := B.notSynchronized
  subst hsz
  have hP := hP.self s.heap.size
  generalize hAe : mA (TW cy L tr a κ τ) s.heap.size = A at hP ⊢
  have hA : ∀ q : Nat, s.heap.size ≤ q → A q := fun q h => by rw [← hAe]; exact Or.inr h
  have hS : va_S A s.heap s.heap [] := va_S.rf
  have hl9 := lv_entry ([.ref (L 3 i), .int n]) (n := 2) (Nat.le_of_ble_eq_true rfl)
  rw [lg_entry_eq]
  generalize (lg_sl ([.ref (L 3 i), .int n]) ++ List.replicate (2 - (lg_sl ([.ref (L 3 i), .int n])).length) Slot.unset).toArray = ls at hl9 ⊢
  have hl : lv_has ls 2 [(0, .ref (L 3 i)), (1, .int n)] := hl9
  refine lv_iload_n hx hb dX3_get_0 rfl (lv_at hl 1 rfl) ?_
  refine lv_if_lt (tgt := 21) hx hb dX3_get_1 (by decide) (fun c_1 => ?_) (fun c_1 => ?_)
  · refine lv_iconst (v := -1) hx hb dX3_get_21 (by decide) ?_
    refine W.widen (k := 0) (n := 0) (Nat.le_of_ble_eq_true rfl) (Nat.le_of_ble_eq_true rfl) ?_
    have g_1 : ((-1)) = R_get (a 3 i 0) (a 4 i) n := by
      first | rfl | assumption | (simp only [R_get, if_pos c_1])
    exact W.iret (v := (-1)) hx hb hr (fun t ht hW => ⟨⟨((-1)), ((-1)), rfl, rfl, ⟨g_1, by show mw _ _ _ _ t.heap; rw [ht]; exact hP⟩⟩, hS.F ht⟩) hS.2.2 dX3_get_22
  · refine lv_iload_n hx hb dX3_get_4 rfl (lv_at hl 1 rfl) ?_
    refine lv_aload_n hx hb dX3_get_5 rfl (lv_at hl 0 rfl) ?_
    refine va_get (D := (dC, dI)) (ws := [(L 3 i, .inr (3, [.ref (L 4 i), .int ((a 3 i) 0)]))]) (ci := 3) (v := .int ((a 3 i) 0)) (C := RX3) (T := TX3) (N := 2) hx hb hts tl_X3 hown hK (hP.one (tw_mem (f := 3) (i := i) hi rfl)) 0 rfl rfl 1 (by decide) (hts _ tw_615) (fun _ h9 => h9) rfl dX3_get_6 ?_
    refine lv_icmp_ge (tgt := 21) hx hb dX3_get_9 (by decide) (fun c_2 => ?_) (fun c_2 => ?_)
    · refine lv_iconst (v := -1) hx hb dX3_get_21 (by decide) ?_
      refine W.widen (k := 0) (n := 0) (Nat.le_of_ble_eq_true rfl) (Nat.le_of_ble_eq_true rfl) ?_
      have g_2 : ((-1)) = R_get (a 3 i 0) (a 4 i) n := by
        first | rfl | assumption | (simp only [R_get, if_neg c_1, if_pos c_2])
      exact W.iret (v := (-1)) hx hb hr (fun t ht hW => ⟨⟨((-1)), ((-1)), rfl, rfl, ⟨g_2, by show mw _ _ _ _ t.heap; rw [ht]; exact hP⟩⟩, hS.F ht⟩) hS.2.2 dX3_get_22
    · refine lv_aload_n hx hb dX3_get_12 rfl (lv_at hl 0 rfl) ?_
      refine va_get (D := (dC, dI)) (ws := [(L 3 i, .inr (3, [.ref (L 4 i), .int ((a 3 i) 0)]))]) (ci := 3) (v := .ref (L 4 i)) (C := RX3) (T := TX3) (N := 2) hx hb hts tl_X3 hown hK (hP.one (tw_mem (f := 3) (i := i) hi rfl)) 0 rfl rfl 0 (by decide) (hts _ tw_614) (fun _ h9 => h9) rfl dX3_get_13 ?_
      refine lv_iload_n hx hb dX3_get_16 rfl (lv_at hl 1 rfl) ?_
      have j_1 : (n : Int32).toNatClampNeg = n.toNatClampNeg := m_cl (m_nI c_1) (m_lt c_1 c_2 hs) (by decide)
      refine va_iald hx hb hK (ws := [(L 4 i, .inl (cy 0, 30, .inl (a 4 i)))]) (hP.one (tw_mem (f := 4) (i := i) hi rfl)) 0 0 rfl rfl (m_in (m_nI c_1) (m_lt c_1 c_2 hs) (by decide)) dX3_get_17 ?_
      refine W.eq (g2 := F0 m 18 ls [.int ((a 4 i) n.toNatClampNeg)]) (by first | (rw [j_1]; done) | (rw [j_1]; rfl)) ?_
      refine lv_goto (tgt := 22) hx hb dX3_get_18 (by decide) ?_
      refine W.widen (k := 0) (n := 0) (Nat.le_of_ble_eq_true rfl) (Nat.le_of_ble_eq_true rfl) ?_
      have g_3 : ((a 4 i) n.toNatClampNeg) = R_get (a 3 i 0) (a 4 i) n := by
        first | rfl | assumption | (simp only [R_get, if_neg c_1, if_neg c_2])
      exact W.iret (v := (a 4 i) n.toNatClampNeg) hx hb hr (fun t ht hW => ⟨⟨((a 4 i) n.toNatClampNeg), ((a 4 i) n.toNatClampNeg), rfl, rfl, ⟨g_3, by show mw _ _ _ _ t.heap; rw [ht]; exact hP⟩⟩, hS.F ht⟩) hS.2.2 dX3_get_22
set_option maxRecDepth 100000 in
set_option maxHeartbeats 4000000 in
/-- Row.append, row -/
theorem c_Row_append_row (l : Launch) (dC : Nat → ClassId) (dI : Nat → Nat → Nat) (cy : Nat → ClassId) (L : Lay) (tr : Option Nat) (a : St) (κ : Kap) (τ : Tau) (i : Nat) (v : Int32) (sz : Nat) (hT : TL L tr τ) (hi : i < 24) (hs : 0 ≤ (a 3 i 0).toInt) : Met l yX3_append (tp_w yX3_append cX3_append 2 none) ({ frames := 0, cells := 0, slots := 0, locals := 0 }) (va_Pc [.ref (L 3 i), .int v] (mPre dC dI cy (TW cy L tr a κ τ) sz)) (va_Qv (fun _ : Unit => True) (fun (_ : Unit) (t : State) => mw (dC, dI) vwCl (mA (TW cy L tr a κ τ) sz) (TW cy L tr (R_app 3 4 30 a i v) κ τ) t.heap) (mA (TW cy L tr a κ τ) sz)) (0) (0) (mA (TW cy L tr a κ τ) sz) := by
  refine Met.ofW (cc := cX3_append) (maxL := 2) (ret := none) (by decide) rfl ?_
  intro p e s m args below meth c s₁ B hml hv
  obtain ⟨rfl, hsz, hP, hK, hE⟩ := hv
  have hx := B.exec
  have hb := B.bytes
  have hr := B.returns
  have hts0 := atoms_spec (ws := tp_w yX3_append cX3_append 2 none) B.pre
  have hts : ∀ w ∈ tp_all, w.before _ s = true := fun w h => hts0 w (List.mem_cons_of_mem _ h)
  have hown : s.vm.findClass RX3 = some m.cls := findClass_of_methodNamed B.named
  have hlocks := B.notSynchronized
  subst hsz
  have hP := hP.self s.heap.size
  generalize hAe : mA (TW cy L tr a κ τ) s.heap.size = A at hP ⊢
  have hA : ∀ q : Nat, s.heap.size ≤ q → A q := fun q h => by rw [← hAe]; exact Or.inr h
  have hS : va_S A s.heap s.heap [] := va_S.rf
  have hl9 := lv_entry ([.ref (L 3 i), .int v]) (n := 2) (Nat.le_of_ble_eq_true rfl)
  rw [lg_entry_eq]
  generalize (lg_sl ([.ref (L 3 i), .int v]) ++ List.replicate (2 - (lg_sl ([.ref (L 3 i), .int v])).length) Slot.unset).toArray = ls at hl9 ⊢
  have hl : lv_has ls 2 [(0, .ref (L 3 i)), (1, .int v)] := hl9
  refine lv_aload_n hx hb dX3_append_0 rfl (lv_at hl 0 rfl) ?_
  refine va_get (D := (dC, dI)) (ws := [(L 3 i, .inr (3, [.ref (L 4 i), .int ((a 3 i) 0)]))]) (ci := 3) (v := .int ((a 3 i) 0)) (C := RX3) (T := TX3) (N := 2) hx hb hts tl_X3 hown hK (hP.one (tw_mem (f := 3) (i := i) hi rfl)) 0 rfl rfl 1 (by decide) (hts _ tw_615) (fun _ h9 => h9) rfl dX3_append_1 ?_
  refine lv_aload_n hx hb dX3_append_4 rfl (lv_at hl 0 rfl) ?_
  refine va_get (D := (dC, dI)) (ws := [(L 3 i, .inr (3, [.ref (L 4 i), .int ((a 3 i) 0)]))]) (ci := 3) (v := .ref (L 4 i)) (C := RX3) (T := TX3) (N := 2) hx hb hts tl_X3 hown hK (hP.one (tw_mem (f := 3) (i := i) hi rfl)) 0 rfl rfl 0 (by decide) (hts _ tw_614) (fun _ h9 => h9) rfl dX3_append_5 ?_
  refine va_alen hx hb hK (ws := [(L 4 i, .inl (cy 0, 30, .inl (a 4 i)))]) (hP.one (tw_mem (f := 4) (i := i) hi rfl)) 0 0 rfl rfl (v := 30) rfl dX3_append_8 ?_
  refine lv_icmp_ge (tgt := 32) hx hb dX3_append_9 (by decide) (fun c_1 => ?_) (fun c_1 => ?_)
  · refine W.widen (k := 0) (n := 0) (Nat.le_of_ble_eq_true rfl) (Nat.le_of_ble_eq_true rfl) ?_
    have s_1 : a = R_app 3 4 30 a i v := by
      first | rfl | (simp only [R_app, if_pos c_1])
    rw [s_1] at hP
    exact W.vret hx hb hr (fun t ht hW => ⟨⟨(), rfl, trivial, (by show mw _ _ _ _ t.heap; rw [ht]; exact hP)⟩, hS.F ht⟩) hS.2.2 dX3_append_32
  · refine lv_aload_n hx hb dX3_append_12 rfl (lv_at hl 0 rfl) ?_
    refine va_get (D := (dC, dI)) (ws := [(L 3 i, .inr (3, [.ref (L 4 i), .int ((a 3 i) 0)]))]) (ci := 3) (v := .ref (L 4 i)) (C := RX3) (T := TX3) (N := 2) hx hb hts tl_X3 hown hK (hP.one (tw_mem (f := 3) (i := i) hi rfl)) 0 rfl rfl 0 (by decide) (hts _ tw_614) (fun _ h9 => h9) rfl dX3_append_13 ?_
    refine lv_aload_n hx hb dX3_append_16 rfl (lv_at hl 0 rfl) ?_
    refine va_get (D := (dC, dI)) (ws := [(L 3 i, .inr (3, [.ref (L 4 i), .int ((a 3 i) 0)]))]) (ci := 3) (v := .int ((a 3 i) 0)) (C := RX3) (T := TX3) (N := 2) hx hb hts tl_X3 hown hK (hP.one (tw_mem (f := 3) (i := i) hi rfl)) 0 rfl rfl 1 (by decide) (hts _ tw_615) (fun _ h9 => h9) rfl dX3_append_17 ?_
    refine lv_iload_n hx hb dX3_append_20 rfl (lv_at hl 1 rfl) ?_
    have j_1 : ((a 3 i) 0 : Int32).toNatClampNeg = (a 3 i 0).toNatClampNeg := m_cl (m_n0 hs) (m_ltI hs (m_ge c_1)) (by decide)
    obtain ⟨ws9, k9, hPw, hDw, hk9, -, hbk⟩ := hP.cut (e := .inl (cy 0, 30, .inl (a 4 i))) (tw_mem (f := 4) (i := i) hi rfl)
    refine va_iast hx hb hK hPw hDw hS k9 0 hk9 rfl (m_in (m_n0 hs) (m_ltI hs (m_ge c_1)) (by decide)) dX3_append_21 (fun H locs hPw hDw hS => ?_)
    rw [j_1] at hPw hDw
    have hP : mw (dC, dI) vwCl A (TW cy L tr (S2 a 4 i (upd (a 4 i) ((a 3 i 0).toNatClampNeg) v)) κ τ) H := (hbk _ _ hPw hDw).sub (tw_set (b := S2 a 4 i (upd (a 4 i) ((a 3 i 0).toNatClampNeg) v)) (f := 4) (i := i) (x := upd (a 4 i) ((a 3 i 0).toNatClampNeg) v) hT hi (by decide) rfl)
    clear hbk hPw hDw hk9
    refine lv_aload_n hx hb dX3_append_22 rfl (lv_at hl 0 rfl) ?_
    refine lv_dup hx hb dX3_append_23 rfl ?_
    refine va_get (D := (dC, dI)) (ws := [(L 3 i, .inr (3, [.ref (L 4 i), .int ((a 3 i) 0)]))]) (ci := 3) (v := .int ((a 3 i) 0)) (C := RX3) (T := TX3) (N := 2) hx hb hts tl_X3 hown hK (hP.one (tw_mem (f := 3) (i := i) hi (S2_nf (by decide)))) 0 rfl rfl 1 (by decide) (hts _ tw_615) (fun _ h9 => h9) rfl dX3_append_24 ?_
    refine lv_iconst (v := 1) hx hb dX3_append_27 (by decide) ?_
    refine lv_iadd hx hb dX3_append_28 ?_
    obtain ⟨ws9, k9, hPw, hDw, hk9, -, hbk⟩ := hP.cut (e := .inr (3, [.ref (L 4 i), .int ((a 3 i) 0)])) (tw_mem (f := 3) (i := i) hi (S2_nf (by decide)))
    refine va_put (D := (dC, dI)) (ci := 3) (v := .int (((a 3 i) 0) + 1)) (ty := .int) (C := RX3) (T := TX3) (N := 2) hx hb hts tl_X3 tyX3 tyX3_ok nmX3 hown hK hPw hDw hS k9 hk9 rfl 1 (by decide) (hts _ tw_615) (fun _ h9 => h9) rfl (by decide +kernel) rfl rfl (Nat.le_of_ble_eq_true rfl) dX3_append_29 (fun H locs hPw hDw hS => ?_)
    have hP : mw (dC, dI) vwCl A (TW cy L tr (S2 (S2 a 4 i (upd (a 4 i) ((a 3 i 0).toNatClampNeg) v)) 3 i (upd (a 3 i) 0 (((a 3 i) 0) + 1))) κ τ) H := (hbk _ _ hPw hDw).sub (tw_set (b := S2 (S2 a 4 i (upd (a 4 i) ((a 3 i 0).toNatClampNeg) v)) 3 i (upd (a 3 i) 0 (((a 3 i) 0) + 1))) (f := 3) (i := i) (x := upd (a 3 i) 0 (((a 3 i) 0) + 1)) hT hi (by decide) rfl)
    clear hbk hPw hDw hk9
    refine W.widen (k := 0) (n := 0) (Nat.le_of_ble_eq_true rfl) (Nat.le_of_ble_eq_true rfl) ?_
    have s_2 : S2 (S2 a 4 i (upd (a 4 i) ((a 3 i 0).toNatClampNeg) v)) 3 i (upd (a 3 i) 0 (((a 3 i) 0) + 1)) = R_app 3 4 30 a i v := by
      first | rfl | (simp only [R_app, if_neg c_1])
    rw [s_2] at hP
    exact W.vret hx hb hr (fun t ht hW => ⟨⟨(), rfl, trivial, (by show mw _ _ _ _ t.heap; rw [ht]; exact hP)⟩, hS.F ht⟩) hS.2.2 dX3_append_32
set_option maxRecDepth 100000 in
set_option maxHeartbeats 4000000 in
/-- Row.dropFirst, row -/
theorem c_Row_dropFirst_row (l : Launch) (dC : Nat → ClassId) (dI : Nat → Nat → Nat) (cy : Nat → ClassId) (L : Lay) (tr : Option Nat) (a : St) (κ : Kap) (τ : Tau) (i : Nat) (sz : Nat) (hT : TL L tr τ) (hi : i < 24) (hs : (a 3 i 0).toInt ≤ 30) : Met l yX3_dropFirst (tp_w yX3_dropFirst cX3_dropFirst 1 none) ({ frames := 1, cells := 0, slots := 0, locals := 18 }) (va_Pc [.ref (L 3 i)] (mPre dC dI cy (TW cy L tr a κ τ) sz)) (va_Qv (fun _ : Unit => True) (fun (_ : Unit) (t : State) => mw (dC, dI) vwCl (mA (TW cy L tr a κ τ) sz) (TW cy L tr (R_drop 3 4 a i) κ τ) t.heap) (mA (TW cy L tr a κ τ) sz)) (0) (0) (mA (TW cy L tr a κ τ) sz) := by
  refine Met.ofW (cc := cX3_dropFirst) (maxL := 1) (ret := none) (by decide) rfl ?_
  intro p e s m args below meth c s₁ B hml hv
  obtain ⟨rfl, hsz, hP, hK, hE⟩ := hv
  have hx := B.exec
  have hb := B.bytes
  have hr := B.returns
  have hts0 := atoms_spec (ws := tp_w yX3_dropFirst cX3_dropFirst 1 none) B.pre
  have hts : ∀ w ∈ tp_all, w.before _ s = true := fun w h => hts0 w (List.mem_cons_of_mem _ h)
  have hown : s.vm.findClass RX3 = some m.cls := findClass_of_methodNamed B.named
  have hlocks := B.notSynchronized
  subst hsz
  have hP := hP.self s.heap.size
  generalize hAe : mA (TW cy L tr a κ τ) s.heap.size = A at hP ⊢
  have hA : ∀ q : Nat, s.heap.size ≤ q → A q := fun q h => by rw [← hAe]; exact Or.inr h
  have hS : va_S A s.heap s.heap [] := va_S.rf
  have hl9 := lv_entry ([.ref (L 3 i)]) (n := 1) (Nat.le_of_ble_eq_true rfl)
  rw [lg_entry_eq]
  generalize (lg_sl ([.ref (L 3 i)]) ++ List.replicate (1 - (lg_sl ([.ref (L 3 i)])).length) Slot.unset).toArray = ls at hl9 ⊢
  have hl : lv_has ls 1 [(0, .ref (L 3 i))] := hl9
  refine lv_aload_n hx hb dX3_dropFirst_0 rfl (lv_at hl 0 rfl) ?_
  refine va_get (D := (dC, dI)) (ws := [(L 3 i, .inr (3, [.ref (L 4 i), .int ((a 3 i) 0)]))]) (ci := 3) (v := .int ((a 3 i) 0)) (C := RX3) (T := TX3) (N := 2) hx hb hts tl_X3 hown hK (hP.one (tw_mem (f := 3) (i := i) hi rfl)) 0 rfl rfl 1 (by decide) (hts _ tw_615) (fun _ h9 => h9) rfl dX3_dropFirst_1 ?_
  refine lv_if_le (tgt := 34) hx hb dX3_dropFirst_4 (by decide) (fun c_1 => ?_) (fun c_1 => ?_)
  · refine W.widen (k := 0) (n := 0) (Nat.le_of_ble_eq_true rfl) (Nat.le_of_ble_eq_true rfl) ?_
    have s_1 : a = R_drop 3 4 a i := by
      first | rfl | (simp only [R_drop, if_pos c_1])
    rw [s_1] at hP
    exact W.vret hx hb hr (fun t ht hW => ⟨⟨(), rfl, trivial, (by show mw _ _ _ _ t.heap; rw [ht]; exact hP)⟩, hS.F ht⟩) hS.2.2 dX3_dropFirst_34
  · refine lv_aload_n hx hb dX3_dropFirst_7 rfl (lv_at hl 0 rfl) ?_
    refine lv_dup hx hb dX3_dropFirst_8 rfl ?_
    refine va_get (D := (dC, dI)) (ws := [(L 3 i, .inr (3, [.ref (L 4 i), .int ((a 3 i) 0)]))]) (ci := 3) (v := .int ((a 3 i) 0)) (C := RX3) (T := TX3) (N := 2) hx hb hts tl_X3 hown hK (hP.one (tw_mem (f := 3) (i := i) hi rfl)) 0 rfl rfl 1 (by decide) (hts _ tw_615) (fun _ h9 => h9) rfl dX3_dropFirst_9 ?_
    refine lv_iconst (v := 1) hx hb dX3_dropFirst_12 (by decide) ?_
    refine lv_isub hx hb dX3_dropFirst_13 ?_
    obtain ⟨ws9, k9, hPw, hDw, hk9, -, hbk⟩ := hP.cut (e := .inr (3, [.ref (L 4 i), .int ((a 3 i) 0)])) (tw_mem (f := 3) (i := i) hi rfl)
    refine va_put (D := (dC, dI)) (ci := 3) (v := .int (((a 3 i) 0) - 1)) (ty := .int) (C := RX3) (T := TX3) (N := 2) hx hb hts tl_X3 tyX3 tyX3_ok nmX3 hown hK hPw hDw hS k9 hk9 rfl 1 (by decide) (hts _ tw_615) (fun _ h9 => h9) rfl (by decide +kernel) rfl rfl (Nat.le_of_ble_eq_true rfl) dX3_dropFirst_14 (fun H locs hPw hDw hS => ?_)
    have hP : mw (dC, dI) vwCl A (TW cy L tr (S2 a 3 i (upd (a 3 i) 0 (((a 3 i) 0) - 1))) κ τ) H := (hbk _ _ hPw hDw).sub (tw_set (b := S2 a 3 i (upd (a 3 i) 0 (((a 3 i) 0) - 1))) (f := 3) (i := i) (x := upd (a 3 i) 0 (((a 3 i) 0) - 1)) hT hi (by decide) rfl)
    clear hbk hPw hDw hk9
    refine lv_aload_n hx hb dX3_dropFirst_17 rfl (lv_at hl 0 rfl) ?_
    refine va_get (D := (dC, dI)) (ws := [(L 3 i, .inr (3, [.ref (L 4 i), .int (((a 3 i) 0) - 1)]))]) (ci := 3) (v := .ref (L 4 i)) (C := RX3) (T := TX3) (N := 2) hx hb hts tl_X3 hown hK (hP.one (tw_mem (f := 3) (i := i) hi S2_eq)) 0 rfl rfl 0 (by decide) (hts _ tw_614) (fun _ h9 => h9) rfl dX3_dropFirst_18 ?_
    refine lv_iconst (v := 1) hx hb dX3_dropFirst_21 (by decide) ?_
    refine lv_aload_n hx hb dX3_dropFirst_22 rfl (lv_at hl 0 rfl) ?_
    refine va_get (D := (dC, dI)) (ws := [(L 3 i, .inr (3, [.ref (L 4 i), .int (((a 3 i) 0) - 1)]))]) (ci := 3) (v := .ref (L 4 i)) (C := RX3) (T := TX3) (N := 2) hx hb hts tl_X3 hown hK (hP.one (tw_mem (f := 3) (i := i) hi S2_eq)) 0 rfl rfl 0 (by decide) (hts _ tw_614) (fun _ h9 => h9) rfl dX3_dropFirst_23 ?_
    refine lv_iconst (v := 0) hx hb dX3_dropFirst_26 (by decide) ?_
    refine lv_aload_n hx hb dX3_dropFirst_27 rfl (lv_at hl 0 rfl) ?_
    refine va_get (D := (dC, dI)) (ws := [(L 3 i, .inr (3, [.ref (L 4 i), .int (((a 3 i) 0) - 1)]))]) (ci := 3) (v := .int (((a 3 i) 0) - 1)) (C := RX3) (T := TX3) (N := 2) hx hb hts tl_X3 hown hK (hP.one (tw_mem (f := 3) (i := i) hi S2_eq)) 0 rfl rfl 1 (by decide) (hts _ tw_615) (fun _ h9 => h9) rfl dX3_dropFirst_28 ?_
    obtain ⟨ws9, k9, hPw, hDw, hk9, hin9, hbk⟩ := hP.cut (e := .inl (cy 0, 30, .inl (a 4 i))) (tw_mem (f := 4) (i := i) hi (S2_nf (by decide)))
    obtain ⟨k8, hk8⟩ := hin9 _ (.inl (cy 0, 30, .inl (a 4 i))) (tw_mem (f := 4) (i := i) hi (S2_nf (by decide)))
    refine va_copyi hx hb (hml.trans hl.1.symm) hown (hts _ tw_355) (hts _ tw_342) (hts _ tw_341) (hts _ tw_36) hK hPw hDw hS k8 k9 0 0 hk8 hk9 rfl rfl rfl (by decide) (by decide) (m_pred0 c_1) (m_d1 c_1 hs) (m_d0 c_1 hs) (fun _ _ => rfl) (Nat.le_of_ble_eq_true rfl) (Nat.le_of_ble_eq_true rfl) dX3_dropFirst_31 (fun H locs hPw hDw hS => ?_)
    rw [show (1 : Int32).toNatClampNeg = 1 from rfl, show (0 : Int32).toNatClampNeg = 0 from rfl] at hPw hDw
    have hP : mw (dC, dI) vwCl A (TW cy L tr (S2 (S2 a 3 i (upd (a 3 i) 0 (((a 3 i) 0) - 1))) 4 i (va_cpy (a 4 i) (a 4 i) 1 0 ((a 3 i 0 - 1).toNatClampNeg))) κ τ) H := (hbk _ _ hPw hDw).sub (tw_set (b := S2 (S2 a 3 i (upd (a 3 i) 0 (((a 3 i) 0) - 1))) 4 i (va_cpy (a 4 i) (a 4 i) 1 0 ((a 3 i 0 - 1).toNatClampNeg))) (f := 4) (i := i) (x := va_cpy (a 4 i) (a 4 i) 1 0 ((a 3 i 0 - 1).toNatClampNeg)) hT hi (by decide) rfl)
    clear hbk hPw hDw hk9
    refine W.widen (k := 0) (n := 0) (Nat.le_of_ble_eq_true rfl) (Nat.le_of_ble_eq_true rfl) ?_
    have s_2 : S2 (S2 a 3 i (upd (a 3 i) 0 (((a 3 i) 0) - 1))) 4 i (va_cpy (a 4 i) (a 4 i) 1 0 ((a 3 i 0 - 1).toNatClampNeg)) = R_drop 3 4 a i := by
      first | rfl | (simp only [R_drop, if_neg c_1])
    rw [s_2] at hP
    exact W.vret hx hb hr (fun t ht hW => ⟨⟨(), rfl, trivial, (by show mw _ _ _ _ t.heap; rw [ht]; exact hP)⟩, hS.F ht⟩) hS.2.2 dX3_dropFirst_34
set_option maxRecDepth 100000 in
set_option maxHeartbeats 4000000 in
/-- Row.get, ends -/
theorem c_Row_get_ends (l : Launch) (dC : Nat → ClassId) (dI : Nat → Nat → Nat) (cy : Nat → ClassId) (L : Lay) (tr : Option Nat) (a : St) (κ : Kap) (τ : Tau) (i : Nat) (n : Int32) (sz : Nat) (hT : TL L tr τ) (hi : i < 24) (hs : (a 5 i 0).toInt ≤ 30) : Met l yX3_get (tp_w yX3_get cX3_get 2 (some .int)) ({ frames := 0, cells := 0, slots := 0, locals := 0 }) (va_Pc [.ref (L 5 i), .int n] (mPre dC dI cy (TW cy L tr a κ τ) sz)) (va_Qi (fun (r u : Int32) => r = u) (fun (u : Int32) (t : State) => (u = R_get (a 5 i 0) (a 6 i) n) ∧ mw (dC, dI) vwCl (mA (TW cy L tr a κ τ) sz) (TW cy L tr a κ τ) t.heap) (mA (TW cy L tr a κ τ) sz)) (0) (0) (mA (TW cy L tr a κ τ) sz) := by
  refine Met.ofW (cc := cX3_get) (maxL := 2) (ret := (some .int)) (by decide) rfl ?_
  intro p e s m args below meth c s₁ B hml hv
  obtain ⟨rfl, hsz, hP, hK, hE⟩ := hv
  have hx := B.exec
  have hb := B.bytes
  have hr := B.returns
  have hts0 := atoms_spec (ws := tp_w yX3_get cX3_get 2 (some .int)) B.pre
  have hts : ∀ w ∈ tp_all, w.before _ s = true := fun w h => hts0 w (List.mem_cons_of_mem _ h)
  have hown : s.vm.findClass RX3 = some m.cls := findClass_of_methodNamed B.named
  have hlocks := B.notSynchronized
  subst hsz
  have hP := hP.self s.heap.size
  generalize hAe : mA (TW cy L tr a κ τ) s.heap.size = A at hP ⊢
  have hA : ∀ q : Nat, s.heap.size ≤ q → A q := fun q h => by rw [← hAe]; exact Or.inr h
  have hS : va_S A s.heap s.heap [] := va_S.rf
  have hl9 := lv_entry ([.ref (L 5 i), .int n]) (n := 2) (Nat.le_of_ble_eq_true rfl)
  rw [lg_entry_eq]
  generalize (lg_sl ([.ref (L 5 i), .int n]) ++ List.replicate (2 - (lg_sl ([.ref (L 5 i), .int n])).length) Slot.unset).toArray = ls at hl9 ⊢
  have hl : lv_has ls 2 [(0, .ref (L 5 i)), (1, .int n)] := hl9
  refine lv_iload_n hx hb dX3_get_0 rfl (lv_at hl 1 rfl) ?_
  refine lv_if_lt (tgt := 21) hx hb dX3_get_1 (by decide) (fun c_1 => ?_) (fun c_1 => ?_)
  · refine lv_iconst (v := -1) hx hb dX3_get_21 (by decide) ?_
    refine W.widen (k := 0) (n := 0) (Nat.le_of_ble_eq_true rfl) (Nat.le_of_ble_eq_true rfl) ?_
    have g_1 : ((-1)) = R_get (a 5 i 0) (a 6 i) n := by
      first | rfl | assumption | (simp only [R_get, if_pos c_1])
    exact W.iret (v := (-1)) hx hb hr (fun t ht hW => ⟨⟨((-1)), ((-1)), rfl, rfl, ⟨g_1, by show mw _ _ _ _ t.heap; rw [ht]; exact hP⟩⟩, hS.F ht⟩) hS.2.2 dX3_get_22
  · refine lv_iload_n hx hb dX3_get_4 rfl (lv_at hl 1 rfl) ?_
    refine lv_aload_n hx hb dX3_get_5 rfl (lv_at hl 0 rfl) ?_
    refine va_get (D := (dC, dI)) (ws := [(L 5 i, .inr (3, [.ref (L 6 i), .int ((a 5 i) 0)]))]) (ci := 3) (v := .int ((a 5 i) 0)) (C := RX3) (T := TX3) (N := 2) hx hb hts tl_X3 hown hK (hP.one (tw_mem (f := 5) (i := i) hi rfl)) 0 rfl rfl 1 (by decide) (hts _ tw_615) (fun _ h9 => h9) rfl dX3_get_6 ?_
    refine lv_icmp_ge (tgt := 21) hx hb dX3_get_9 (by decide) (fun c_2 => ?_) (fun c_2 => ?_)
    · refine lv_iconst (v := -1) hx hb dX3_get_21 (by decide) ?_
      refine W.widen (k := 0) (n := 0) (Nat.le_of_ble_eq_true rfl) (Nat.le_of_ble_eq_true rfl) ?_
      have g_2 : ((-1)) = R_get (a 5 i 0) (a 6 i) n := by
        first | rfl | assumption | (simp only [R_get, if_neg c_1, if_pos c_2])
      exact W.iret (v := (-1)) hx hb hr (fun t ht hW => ⟨⟨((-1)), ((-1)), rfl, rfl, ⟨g_2, by show mw _ _ _ _ t.heap; rw [ht]; exact hP⟩⟩, hS.F ht⟩) hS.2.2 dX3_get_22
    · refine lv_aload_n hx hb dX3_get_12 rfl (lv_at hl 0 rfl) ?_
      refine va_get (D := (dC, dI)) (ws := [(L 5 i, .inr (3, [.ref (L 6 i), .int ((a 5 i) 0)]))]) (ci := 3) (v := .ref (L 6 i)) (C := RX3) (T := TX3) (N := 2) hx hb hts tl_X3 hown hK (hP.one (tw_mem (f := 5) (i := i) hi rfl)) 0 rfl rfl 0 (by decide) (hts _ tw_614) (fun _ h9 => h9) rfl dX3_get_13 ?_
      refine lv_iload_n hx hb dX3_get_16 rfl (lv_at hl 1 rfl) ?_
      have j_1 : (n : Int32).toNatClampNeg = n.toNatClampNeg := m_cl (m_nI c_1) (m_lt c_1 c_2 hs) (by decide)
      refine va_iald hx hb hK (ws := [(L 6 i, .inl (cy 0, 30, .inl (a 6 i)))]) (hP.one (tw_mem (f := 6) (i := i) hi rfl)) 0 0 rfl rfl (m_in (m_nI c_1) (m_lt c_1 c_2 hs) (by decide)) dX3_get_17 ?_
      refine W.eq (g2 := F0 m 18 ls [.int ((a 6 i) n.toNatClampNeg)]) (by first | (rw [j_1]; done) | (rw [j_1]; rfl)) ?_
      refine lv_goto (tgt := 22) hx hb dX3_get_18 (by decide) ?_
      refine W.widen (k := 0) (n := 0) (Nat.le_of_ble_eq_true rfl) (Nat.le_of_ble_eq_true rfl) ?_
      have g_3 : ((a 6 i) n.toNatClampNeg) = R_get (a 5 i 0) (a 6 i) n := by
        first | rfl | assumption | (simp only [R_get, if_neg c_1, if_neg c_2])
      exact W.iret (v := (a 6 i) n.toNatClampNeg) hx hb hr (fun t ht hW => ⟨⟨((a 6 i) n.toNatClampNeg), ((a 6 i) n.toNatClampNeg), rfl, rfl, ⟨g_3, by show mw _ _ _ _ t.heap; rw [ht]; exact hP⟩⟩, hS.F ht⟩) hS.2.2 dX3_get_22
set_option maxRecDepth 100000 in
set_option maxHeartbeats 4000000 in
/-- Row.append, ends -/
theorem c_Row_append_ends (l : Launch) (dC : Nat → ClassId) (dI : Nat → Nat → Nat) (cy : Nat → ClassId) (L : Lay) (tr : Option Nat) (a : St) (κ : Kap) (τ : Tau) (i : Nat) (v : Int32) (sz : Nat) (hT : TL L tr τ) (hi : i < 24) (hs : 0 ≤ (a 5 i 0).toInt) : Met l yX3_append (tp_w yX3_append cX3_append 2 none) ({ frames := 0, cells := 0, slots := 0, locals := 0 }) (va_Pc [.ref (L 5 i), .int v] (mPre dC dI cy (TW cy L tr a κ τ) sz)) (va_Qv (fun _ : Unit => True) (fun (_ : Unit) (t : State) => mw (dC, dI) vwCl (mA (TW cy L tr a κ τ) sz) (TW cy L tr (R_app 5 6 30 a i v) κ τ) t.heap) (mA (TW cy L tr a κ τ) sz)) (0) (0) (mA (TW cy L tr a κ τ) sz) := by
  refine Met.ofW (cc := cX3_append) (maxL := 2) (ret := none) (by decide) rfl ?_
  intro p e s m args below meth c s₁ B hml hv
  obtain ⟨rfl, hsz, hP, hK, hE⟩ := hv
  have hx := B.exec
  have hb := B.bytes
  have hr := B.returns
  have hts0 := atoms_spec (ws := tp_w yX3_append cX3_append 2 none) B.pre
  have hts : ∀ w ∈ tp_all, w.before _ s = true := fun w h => hts0 w (List.mem_cons_of_mem _ h)
  have hown : s.vm.findClass RX3 = some m.cls := findClass_of_methodNamed B.named
  have hlocks := B.notSynchronized
  subst hsz
  have hP := hP.self s.heap.size
  generalize hAe : mA (TW cy L tr a κ τ) s.heap.size = A at hP ⊢
  have hA : ∀ q : Nat, s.heap.size ≤ q → A q := fun q h => by rw [← hAe]; exact Or.inr h
  have hS : va_S A s.heap s.heap [] := va_S.rf
  have hl9 := lv_entry ([.ref (L 5 i), .int v]) (n := 2) (Nat.le_of_ble_eq_true rfl)
  rw [lg_entry_eq]
  generalize (lg_sl ([.ref (L 5 i), .int v]) ++ List.replicate (2 - (lg_sl ([.ref (L 5 i), .int v])).length) Slot.unset).toArray = ls at hl9 ⊢
  have hl : lv_has ls 2 [(0, .ref (L 5 i)), (1, .int v)] := hl9
  refine lv_aload_n hx hb dX3_append_0 rfl (lv_at hl 0 rfl) ?_
  refine va_get (D := (dC, dI)) (ws := [(L 5 i, .inr (3, [.ref (L 6 i), .int ((a 5 i) 0)]))]) (ci := 3) (v := .int ((a 5 i) 0)) (C := RX3) (T := TX3) (N := 2) hx hb hts tl_X3 hown hK (hP.one (tw_mem (f := 5) (i := i) hi rfl)) 0 rfl rfl 1 (by decide) (hts _ tw_615) (fun _ h9 => h9) rfl dX3_append_1 ?_
  refine lv_aload_n hx hb dX3_append_4 rfl (lv_at hl 0 rfl) ?_
  refine va_get (D := (dC, dI)) (ws := [(L 5 i, .inr (3, [.ref (L 6 i), .int ((a 5 i) 0)]))]) (ci := 3) (v := .ref (L 6 i)) (C := RX3) (T := TX3) (N := 2) hx hb hts tl_X3 hown hK (hP.one (tw_mem (f := 5) (i := i) hi rfl)) 0 rfl rfl 0 (by decide) (hts _ tw_614) (fun _ h9 => h9) rfl dX3_append_5 ?_
  refine va_alen hx hb hK (ws := [(L 6 i, .inl (cy 0, 30, .inl (a 6 i)))]) (hP.one (tw_mem (f := 6) (i := i) hi rfl)) 0 0 rfl rfl (v := 30) rfl dX3_append_8 ?_
  refine lv_icmp_ge (tgt := 32) hx hb dX3_append_9 (by decide) (fun c_1 => ?_) (fun c_1 => ?_)
  · refine W.widen (k := 0) (n := 0) (Nat.le_of_ble_eq_true rfl) (Nat.le_of_ble_eq_true rfl) ?_
    have s_1 : a = R_app 5 6 30 a i v := by
      first | rfl | (simp only [R_app, if_pos c_1])
    rw [s_1] at hP
    exact W.vret hx hb hr (fun t ht hW => ⟨⟨(), rfl, trivial, (by show mw _ _ _ _ t.heap; rw [ht]; exact hP)⟩, hS.F ht⟩) hS.2.2 dX3_append_32
  · refine lv_aload_n hx hb dX3_append_12 rfl (lv_at hl 0 rfl) ?_
    refine va_get (D := (dC, dI)) (ws := [(L 5 i, .inr (3, [.ref (L 6 i), .int ((a 5 i) 0)]))]) (ci := 3) (v := .ref (L 6 i)) (C := RX3) (T := TX3) (N := 2) hx hb hts tl_X3 hown hK (hP.one (tw_mem (f := 5) (i := i) hi rfl)) 0 rfl rfl 0 (by decide) (hts _ tw_614) (fun _ h9 => h9) rfl dX3_append_13 ?_
    refine lv_aload_n hx hb dX3_append_16 rfl (lv_at hl 0 rfl) ?_
    refine va_get (D := (dC, dI)) (ws := [(L 5 i, .inr (3, [.ref (L 6 i), .int ((a 5 i) 0)]))]) (ci := 3) (v := .int ((a 5 i) 0)) (C := RX3) (T := TX3) (N := 2) hx hb hts tl_X3 hown hK (hP.one (tw_mem (f := 5) (i := i) hi rfl)) 0 rfl rfl 1 (by decide) (hts _ tw_615) (fun _ h9 => h9) rfl dX3_append_17 ?_
    refine lv_iload_n hx hb dX3_append_20 rfl (lv_at hl 1 rfl) ?_
    have j_1 : ((a 5 i) 0 : Int32).toNatClampNeg = (a 5 i 0).toNatClampNeg := m_cl (m_n0 hs) (m_ltI hs (m_ge c_1)) (by decide)
    obtain ⟨ws9, k9, hPw, hDw, hk9, -, hbk⟩ := hP.cut (e := .inl (cy 0, 30, .inl (a 6 i))) (tw_mem (f := 6) (i := i) hi rfl)
    refine va_iast hx hb hK hPw hDw hS k9 0 hk9 rfl (m_in (m_n0 hs) (m_ltI hs (m_ge c_1)) (by decide)) dX3_append_21 (fun H locs hPw hDw hS => ?_)
    rw [j_1] at hPw hDw
    have hP : mw (dC, dI) vwCl A (TW cy L tr (S2 a 6 i (upd (a 6 i) ((a 5 i 0).toNatClampNeg) v)) κ τ) H := (hbk _ _ hPw hDw).sub (tw_set (b := S2 a 6 i (upd (a 6 i) ((a 5 i 0).toNatClampNeg) v)) (f := 6) (i := i) (x := upd (a 6 i) ((a 5 i 0).toNatClampNeg) v) hT hi (by decide) rfl)
    clear hbk hPw hDw hk9
    refine lv_aload_n hx hb dX3_append_22 rfl (lv_at hl 0 rfl) ?_
    refine lv_dup hx hb dX3_append_23 rfl ?_
    refine va_get (D := (dC, dI)) (ws := [(L 5 i, .inr (3, [.ref (L 6 i), .int ((a 5 i) 0)]))]) (ci := 3) (v := .int ((a 5 i) 0)) (C := RX3) (T := TX3) (N := 2) hx hb hts tl_X3 hown hK (hP.one (tw_mem (f := 5) (i := i) hi (S2_nf (by decide)))) 0 rfl rfl 1 (by decide) (hts _ tw_615) (fun _ h9 => h9) rfl dX3_append_24 ?_
    refine lv_iconst (v := 1) hx hb dX3_append_27 (by decide) ?_
    refine lv_iadd hx hb dX3_append_28 ?_
    obtain ⟨ws9, k9, hPw, hDw, hk9, -, hbk⟩ := hP.cut (e := .inr (3, [.ref (L 6 i), .int ((a 5 i) 0)])) (tw_mem (f := 5) (i := i) hi (S2_nf (by decide)))
    refine va_put (D := (dC, dI)) (ci := 3) (v := .int (((a 5 i) 0) + 1)) (ty := .int) (C := RX3) (T := TX3) (N := 2) hx hb hts tl_X3 tyX3 tyX3_ok nmX3 hown hK hPw hDw hS k9 hk9 rfl 1 (by decide) (hts _ tw_615) (fun _ h9 => h9) rfl (by decide +kernel) rfl rfl (Nat.le_of_ble_eq_true rfl) dX3_append_29 (fun H locs hPw hDw hS => ?_)
    have hP : mw (dC, dI) vwCl A (TW cy L tr (S2 (S2 a 6 i (upd (a 6 i) ((a 5 i 0).toNatClampNeg) v)) 5 i (upd (a 5 i) 0 (((a 5 i) 0) + 1))) κ τ) H := (hbk _ _ hPw hDw).sub (tw_set (b := S2 (S2 a 6 i (upd (a 6 i) ((a 5 i 0).toNatClampNeg) v)) 5 i (upd (a 5 i) 0 (((a 5 i) 0) + 1))) (f := 5) (i := i) (x := upd (a 5 i) 0 (((a 5 i) 0) + 1)) hT hi (by decide) rfl)
    clear hbk hPw hDw hk9
    refine W.widen (k := 0) (n := 0) (Nat.le_of_ble_eq_true rfl) (Nat.le_of_ble_eq_true rfl) ?_
    have s_2 : S2 (S2 a 6 i (upd (a 6 i) ((a 5 i 0).toNatClampNeg) v)) 5 i (upd (a 5 i) 0 (((a 5 i) 0) + 1)) = R_app 5 6 30 a i v := by
      first | rfl | (simp only [R_app, if_neg c_1])
    rw [s_2] at hP
    exact W.vret hx hb hr (fun t ht hW => ⟨⟨(), rfl, trivial, (by show mw _ _ _ _ t.heap; rw [ht]; exact hP)⟩, hS.F ht⟩) hS.2.2 dX3_append_32
set_option maxRecDepth 100000 in
set_option maxHeartbeats 4000000 in
/-- Row.dropFirst, ends -/
theorem c_Row_dropFirst_ends (l : Launch) (dC : Nat → ClassId) (dI : Nat → Nat → Nat) (cy : Nat → ClassId) (L : Lay) (tr : Option Nat) (a : St) (κ : Kap) (τ : Tau) (i : Nat) (sz : Nat) (hT : TL L tr τ) (hi : i < 24) (hs : (a 5 i 0).toInt ≤ 30) : Met l yX3_dropFirst (tp_w yX3_dropFirst cX3_dropFirst 1 none) ({ frames := 1, cells := 0, slots := 0, locals := 18 }) (va_Pc [.ref (L 5 i)] (mPre dC dI cy (TW cy L tr a κ τ) sz)) (va_Qv (fun _ : Unit => True) (fun (_ : Unit) (t : State) => mw (dC, dI) vwCl (mA (TW cy L tr a κ τ) sz) (TW cy L tr (R_drop 5 6 a i) κ τ) t.heap) (mA (TW cy L tr a κ τ) sz)) (0) (0) (mA (TW cy L tr a κ τ) sz) := by
  refine Met.ofW (cc := cX3_dropFirst) (maxL := 1) (ret := none) (by decide) rfl ?_
  intro p e s m args below meth c s₁ B hml hv
  obtain ⟨rfl, hsz, hP, hK, hE⟩ := hv
  have hx := B.exec
  have hb := B.bytes
  have hr := B.returns
  have hts0 := atoms_spec (ws := tp_w yX3_dropFirst cX3_dropFirst 1 none) B.pre
  have hts : ∀ w ∈ tp_all, w.before _ s = true := fun w h => hts0 w (List.mem_cons_of_mem _ h)
  have hown : s.vm.findClass RX3 = some m.cls := findClass_of_methodNamed B.named
  have hlocks := B.notSynchronized
  subst hsz
  have hP := hP.self s.heap.size
  generalize hAe : mA (TW cy L tr a κ τ) s.heap.size = A at hP ⊢
  have hA : ∀ q : Nat, s.heap.size ≤ q → A q := fun q h => by rw [← hAe]; exact Or.inr h
  have hS : va_S A s.heap s.heap [] := va_S.rf
  have hl9 := lv_entry ([.ref (L 5 i)]) (n := 1) (Nat.le_of_ble_eq_true rfl)
  rw [lg_entry_eq]
  generalize (lg_sl ([.ref (L 5 i)]) ++ List.replicate (1 - (lg_sl ([.ref (L 5 i)])).length) Slot.unset).toArray = ls at hl9 ⊢
  have hl : lv_has ls 1 [(0, .ref (L 5 i))] := hl9
  refine lv_aload_n hx hb dX3_dropFirst_0 rfl (lv_at hl 0 rfl) ?_
  refine va_get (D := (dC, dI)) (ws := [(L 5 i, .inr (3, [.ref (L 6 i), .int ((a 5 i) 0)]))]) (ci := 3) (v := .int ((a 5 i) 0)) (C := RX3) (T := TX3) (N := 2) hx hb hts tl_X3 hown hK (hP.one (tw_mem (f := 5) (i := i) hi rfl)) 0 rfl rfl 1 (by decide) (hts _ tw_615) (fun _ h9 => h9) rfl dX3_dropFirst_1 ?_
  refine lv_if_le (tgt := 34) hx hb dX3_dropFirst_4 (by decide) (fun c_1 => ?_) (fun c_1 => ?_)
  · refine W.widen (k := 0) (n := 0) (Nat.le_of_ble_eq_true rfl) (Nat.le_of_ble_eq_true rfl) ?_
    have s_1 : a = R_drop 5 6 a i := by
      first | rfl | (simp only [R_drop, if_pos c_1])
    rw [s_1] at hP
    exact W.vret hx hb hr (fun t ht hW => ⟨⟨(), rfl, trivial, (by show mw _ _ _ _ t.heap; rw [ht]; exact hP)⟩, hS.F ht⟩) hS.2.2 dX3_dropFirst_34
  · refine lv_aload_n hx hb dX3_dropFirst_7 rfl (lv_at hl 0 rfl) ?_
    refine lv_dup hx hb dX3_dropFirst_8 rfl ?_
    refine va_get (D := (dC, dI)) (ws := [(L 5 i, .inr (3, [.ref (L 6 i), .int ((a 5 i) 0)]))]) (ci := 3) (v := .int ((a 5 i) 0)) (C := RX3) (T := TX3) (N := 2) hx hb hts tl_X3 hown hK (hP.one (tw_mem (f := 5) (i := i) hi rfl)) 0 rfl rfl 1 (by decide) (hts _ tw_615) (fun _ h9 => h9) rfl dX3_dropFirst_9 ?_
    refine lv_iconst (v := 1) hx hb dX3_dropFirst_12 (by decide) ?_
    refine lv_isub hx hb dX3_dropFirst_13 ?_
    obtain ⟨ws9, k9, hPw, hDw, hk9, -, hbk⟩ := hP.cut (e := .inr (3, [.ref (L 6 i), .int ((a 5 i) 0)])) (tw_mem (f := 5) (i := i) hi rfl)
    refine va_put (D := (dC, dI)) (ci := 3) (v := .int (((a 5 i) 0) - 1)) (ty := .int) (C := RX3) (T := TX3) (N := 2) hx hb hts tl_X3 tyX3 tyX3_ok nmX3 hown hK hPw hDw hS k9 hk9 rfl 1 (by decide) (hts _ tw_615) (fun _ h9 => h9) rfl (by decide +kernel) rfl rfl (Nat.le_of_ble_eq_true rfl) dX3_dropFirst_14 (fun H locs hPw hDw hS => ?_)
    have hP : mw (dC, dI) vwCl A (TW cy L tr (S2 a 5 i (upd (a 5 i) 0 (((a 5 i) 0) - 1))) κ τ) H := (hbk _ _ hPw hDw).sub (tw_set (b := S2 a 5 i (upd (a 5 i) 0 (((a 5 i) 0) - 1))) (f := 5) (i := i) (x := upd (a 5 i) 0 (((a 5 i) 0) - 1)) hT hi (by decide) rfl)
    clear hbk hPw hDw hk9
    refine lv_aload_n hx hb dX3_dropFirst_17 rfl (lv_at hl 0 rfl) ?_
    refine va_get (D := (dC, dI)) (ws := [(L 5 i, .inr (3, [.ref (L 6 i), .int (((a 5 i) 0) - 1)]))]) (ci := 3) (v := .ref (L 6 i)) (C := RX3) (T := TX3) (N := 2) hx hb hts tl_X3 hown hK (hP.one (tw_mem (f := 5) (i := i) hi S2_eq)) 0 rfl rfl 0 (by decide) (hts _ tw_614) (fun _ h9 => h9) rfl dX3_dropFirst_18 ?_
    refine lv_iconst (v := 1) hx hb dX3_dropFirst_21 (by decide) ?_
    refine lv_aload_n hx hb dX3_dropFirst_22 rfl (lv_at hl 0 rfl) ?_
    refine va_get (D := (dC, dI)) (ws := [(L 5 i, .inr (3, [.ref (L 6 i), .int (((a 5 i) 0) - 1)]))]) (ci := 3) (v := .ref (L 6 i)) (C := RX3) (T := TX3) (N := 2) hx hb hts tl_X3 hown hK (hP.one (tw_mem (f := 5) (i := i) hi S2_eq)) 0 rfl rfl 0 (by decide) (hts _ tw_614) (fun _ h9 => h9) rfl dX3_dropFirst_23 ?_
    refine lv_iconst (v := 0) hx hb dX3_dropFirst_26 (by decide) ?_
    refine lv_aload_n hx hb dX3_dropFirst_27 rfl (lv_at hl 0 rfl) ?_
    refine va_get (D := (dC, dI)) (ws := [(L 5 i, .inr (3, [.ref (L 6 i), .int (((a 5 i) 0) - 1)]))]) (ci := 3) (v := .int (((a 5 i) 0) - 1)) (C := RX3) (T := TX3) (N := 2) hx hb hts tl_X3 hown hK (hP.one (tw_mem (f := 5) (i := i) hi S2_eq)) 0 rfl rfl 1 (by decide) (hts _ tw_615) (fun _ h9 => h9) rfl dX3_dropFirst_28 ?_
    obtain ⟨ws9, k9, hPw, hDw, hk9, hin9, hbk⟩ := hP.cut (e := .inl (cy 0, 30, .inl (a 6 i))) (tw_mem (f := 6) (i := i) hi (S2_nf (by decide)))
    obtain ⟨k8, hk8⟩ := hin9 _ (.inl (cy 0, 30, .inl (a 6 i))) (tw_mem (f := 6) (i := i) hi (S2_nf (by decide)))
    refine va_copyi hx hb (hml.trans hl.1.symm) hown (hts _ tw_355) (hts _ tw_342) (hts _ tw_341) (hts _ tw_36) hK hPw hDw hS k8 k9 0 0 hk8 hk9 rfl rfl rfl (by decide) (by decide) (m_pred0 c_1) (m_d1 c_1 hs) (m_d0 c_1 hs) (fun _ _ => rfl) (Nat.le_of_ble_eq_true rfl) (Nat.le_of_ble_eq_true rfl) dX3_dropFirst_31 (fun H locs hPw hDw hS => ?_)
    rw [show (1 : Int32).toNatClampNeg = 1 from rfl, show (0 : Int32).toNatClampNeg = 0 from rfl] at hPw hDw
    have hP : mw (dC, dI) vwCl A (TW cy L tr (S2 (S2 a 5 i (upd (a 5 i) 0 (((a 5 i) 0) - 1))) 6 i (va_cpy (a 6 i) (a 6 i) 1 0 ((a 5 i 0 - 1).toNatClampNeg))) κ τ) H := (hbk _ _ hPw hDw).sub (tw_set (b := S2 (S2 a 5 i (upd (a 5 i) 0 (((a 5 i) 0) - 1))) 6 i (va_cpy (a 6 i) (a 6 i) 1 0 ((a 5 i 0 - 1).toNatClampNeg))) (f := 6) (i := i) (x := va_cpy (a 6 i) (a 6 i) 1 0 ((a 5 i 0 - 1).toNatClampNeg)) hT hi (by decide) rfl)
    clear hbk hPw hDw hk9
    refine W.widen (k := 0) (n := 0) (Nat.le_of_ble_eq_true rfl) (Nat.le_of_ble_eq_true rfl) ?_
    have s_2 : S2 (S2 a 5 i (upd (a 5 i) 0 (((a 5 i) 0) - 1))) 6 i (va_cpy (a 6 i) (a 6 i) 1 0 ((a 5 i 0 - 1).toNatClampNeg)) = R_drop 5 6 a i := by
      first | rfl | (simp only [R_drop, if_neg c_1])
    rw [s_2] at hP
    exact W.vret hx hb hr (fun t ht hW => ⟨⟨(), rfl, trivial, (by show mw _ _ _ _ t.heap; rw [ht]; exact hP)⟩, hS.F ht⟩) hS.2.2 dX3_dropFirst_34
set_option maxRecDepth 100000 in
set_option maxHeartbeats 4000000 in
/-- Row.get, wait -/
theorem c_Row_get_wait (l : Launch) (dC : Nat → ClassId) (dI : Nat → Nat → Nat) (cy : Nat → ClassId) (L : Lay) (tr : Option Nat) (a : St) (κ : Kap) (τ : Tau) (i : Nat) (n : Int32) (sz : Nat) (hT : TL L tr τ) (hi : i < 12) (hs : (a 12 i 0).toInt ≤ 200) : Met l yX3_get (tp_w yX3_get cX3_get 2 (some .int)) ({ frames := 0, cells := 0, slots := 0, locals := 0 }) (va_Pc [.ref (L 12 i), .int n] (mPre dC dI cy (TW cy L tr a κ τ) sz)) (va_Qi (fun (r u : Int32) => r = u) (fun (u : Int32) (t : State) => (u = R_get (a 12 i 0) (a 13 i) n) ∧ mw (dC, dI) vwCl (mA (TW cy L tr a κ τ) sz) (TW cy L tr a κ τ) t.heap) (mA (TW cy L tr a κ τ) sz)) (0) (0) (mA (TW cy L tr a κ τ) sz) := by
  refine Met.ofW (cc := cX3_get) (maxL := 2) (ret := (some .int)) (by decide) rfl ?_
  intro p e s m args below meth c s₁ B hml hv
  obtain ⟨rfl, hsz, hP, hK, hE⟩ := hv
  have hx := B.exec
  have hb := B.bytes
  have hr := B.returns
  have hts0 := atoms_spec (ws := tp_w yX3_get cX3_get 2 (some .int)) B.pre
  have hts : ∀ w ∈ tp_all, w.before _ s = true := fun w h => hts0 w (List.mem_cons_of_mem _ h)
  have hown : s.vm.findClass RX3 = some m.cls := findClass_of_methodNamed B.named
  have hlocks := B.notSynchronized
  subst hsz
  have hP := hP.self s.heap.size
  generalize hAe : mA (TW cy L tr a κ τ) s.heap.size = A at hP ⊢
  have hA : ∀ q : Nat, s.heap.size ≤ q → A q := fun q h => by rw [← hAe]; exact Or.inr h
  have hS : va_S A s.heap s.heap [] := va_S.rf
  have hl9 := lv_entry ([.ref (L 12 i), .int n]) (n := 2) (Nat.le_of_ble_eq_true rfl)
  rw [lg_entry_eq]
  generalize (lg_sl ([.ref (L 12 i), .int n]) ++ List.replicate (2 - (lg_sl ([.ref (L 12 i), .int n])).length) Slot.unset).toArray = ls at hl9 ⊢
  have hl : lv_has ls 2 [(0, .ref (L 12 i)), (1, .int n)] := hl9
  refine lv_iload_n hx hb dX3_get_0 rfl (lv_at hl 1 rfl) ?_
  refine lv_if_lt (tgt := 21) hx hb dX3_get_1 (by decide) (fun c_1 => ?_) (fun c_1 => ?_)
  · refine lv_iconst (v := -1) hx hb dX3_get_21 (by decide) ?_
    refine W.widen (k := 0) (n := 0) (Nat.le_of_ble_eq_true rfl) (Nat.le_of_ble_eq_true rfl) ?_
    have g_1 : ((-1)) = R_get (a 12 i 0) (a 13 i) n := by
      first | rfl | assumption | (simp only [R_get, if_pos c_1])
    exact W.iret (v := (-1)) hx hb hr (fun t ht hW => ⟨⟨((-1)), ((-1)), rfl, rfl, ⟨g_1, by show mw _ _ _ _ t.heap; rw [ht]; exact hP⟩⟩, hS.F ht⟩) hS.2.2 dX3_get_22
  · refine lv_iload_n hx hb dX3_get_4 rfl (lv_at hl 1 rfl) ?_
    refine lv_aload_n hx hb dX3_get_5 rfl (lv_at hl 0 rfl) ?_
    refine va_get (D := (dC, dI)) (ws := [(L 12 i, .inr (3, [.ref (L 13 i), .int ((a 12 i) 0)]))]) (ci := 3) (v := .int ((a 12 i) 0)) (C := RX3) (T := TX3) (N := 2) hx hb hts tl_X3 hown hK (hP.one (tw_mem (f := 12) (i := i) hi rfl)) 0 rfl rfl 1 (by decide) (hts _ tw_615) (fun _ h9 => h9) rfl dX3_get_6 ?_
    refine lv_icmp_ge (tgt := 21) hx hb dX3_get_9 (by decide) (fun c_2 => ?_) (fun c_2 => ?_)
    · refine lv_iconst (v := -1) hx hb dX3_get_21 (by decide) ?_
      refine W.widen (k := 0) (n := 0) (Nat.le_of_ble_eq_true rfl) (Nat.le_of_ble_eq_true rfl) ?_
      have g_2 : ((-1)) = R_get (a 12 i 0) (a 13 i) n := by
        first | rfl | assumption | (simp only [R_get, if_neg c_1, if_pos c_2])
      exact W.iret (v := (-1)) hx hb hr (fun t ht hW => ⟨⟨((-1)), ((-1)), rfl, rfl, ⟨g_2, by show mw _ _ _ _ t.heap; rw [ht]; exact hP⟩⟩, hS.F ht⟩) hS.2.2 dX3_get_22
    · refine lv_aload_n hx hb dX3_get_12 rfl (lv_at hl 0 rfl) ?_
      refine va_get (D := (dC, dI)) (ws := [(L 12 i, .inr (3, [.ref (L 13 i), .int ((a 12 i) 0)]))]) (ci := 3) (v := .ref (L 13 i)) (C := RX3) (T := TX3) (N := 2) hx hb hts tl_X3 hown hK (hP.one (tw_mem (f := 12) (i := i) hi rfl)) 0 rfl rfl 0 (by decide) (hts _ tw_614) (fun _ h9 => h9) rfl dX3_get_13 ?_
      refine lv_iload_n hx hb dX3_get_16 rfl (lv_at hl 1 rfl) ?_
      have j_1 : (n : Int32).toNatClampNeg = n.toNatClampNeg := m_cl (m_nI c_1) (m_lt c_1 c_2 hs) (by decide)
      refine va_iald hx hb hK (ws := [(L 13 i, .inl (cy 0, 200, .inl (a 13 i)))]) (hP.one (tw_mem (f := 13) (i := i) hi rfl)) 0 0 rfl rfl (m_in (m_nI c_1) (m_lt c_1 c_2 hs) (by decide)) dX3_get_17 ?_
      refine W.eq (g2 := F0 m 18 ls [.int ((a 13 i) n.toNatClampNeg)]) (by first | (rw [j_1]; done) | (rw [j_1]; rfl)) ?_
      refine lv_goto (tgt := 22) hx hb dX3_get_18 (by decide) ?_
      refine W.widen (k := 0) (n := 0) (Nat.le_of_ble_eq_true rfl) (Nat.le_of_ble_eq_true rfl) ?_
      have g_3 : ((a 13 i) n.toNatClampNeg) = R_get (a 12 i 0) (a 13 i) n := by
        first | rfl | assumption | (simp only [R_get, if_neg c_1, if_neg c_2])
      exact W.iret (v := (a 13 i) n.toNatClampNeg) hx hb hr (fun t ht hW => ⟨⟨((a 13 i) n.toNatClampNeg), ((a 13 i) n.toNatClampNeg), rfl, rfl, ⟨g_3, by show mw _ _ _ _ t.heap; rw [ht]; exact hP⟩⟩, hS.F ht⟩) hS.2.2 dX3_get_22
set_option maxRecDepth 100000 in
set_option maxHeartbeats 4000000 in
/-- Row.append, wait -/
theorem c_Row_append_wait (l : Launch) (dC : Nat → ClassId) (dI : Nat → Nat → Nat) (cy : Nat → ClassId) (L : Lay) (tr : Option Nat) (a : St) (κ : Kap) (τ : Tau) (i : Nat) (v : Int32) (sz : Nat) (hT : TL L tr τ) (hi : i < 12) (hs : 0 ≤ (a 12 i 0).toInt) : Met l yX3_append (tp_w yX3_append cX3_append 2 none) ({ frames := 0, cells := 0, slots := 0, locals := 0 }) (va_Pc [.ref (L 12 i), .int v] (mPre dC dI cy (TW cy L tr a κ τ) sz)) (va_Qv (fun _ : Unit => True) (fun (_ : Unit) (t : State) => mw (dC, dI) vwCl (mA (TW cy L tr a κ τ) sz) (TW cy L tr (R_app 12 13 200 a i v) κ τ) t.heap) (mA (TW cy L tr a κ τ) sz)) (0) (0) (mA (TW cy L tr a κ τ) sz) := by
  refine Met.ofW (cc := cX3_append) (maxL := 2) (ret := none) (by decide) rfl ?_
  intro p e s m args below meth c s₁ B hml hv
  obtain ⟨rfl, hsz, hP, hK, hE⟩ := hv
  have hx := B.exec
  have hb := B.bytes
  have hr := B.returns
  have hts0 := atoms_spec (ws := tp_w yX3_append cX3_append 2 none) B.pre
  have hts : ∀ w ∈ tp_all, w.before _ s = true := fun w h => hts0 w (List.mem_cons_of_mem _ h)
  have hown : s.vm.findClass RX3 = some m.cls := findClass_of_methodNamed B.named
  have hlocks := B.notSynchronized
  subst hsz
  have hP := hP.self s.heap.size
  generalize hAe : mA (TW cy L tr a κ τ) s.heap.size = A at hP ⊢
  have hA : ∀ q : Nat, s.heap.size ≤ q → A q := fun q h => by rw [← hAe]; exact Or.inr h
  have hS : va_S A s.heap s.heap [] := va_S.rf
  have hl9 := lv_entry ([.ref (L 12 i), .int v]) (n := 2) (Nat.le_of_ble_eq_true rfl)
  rw [lg_entry_eq]
  generalize (lg_sl ([.ref (L 12 i), .int v]) ++ List.replicate (2 - (lg_sl ([.ref (L 12 i), .int v])).length) Slot.unset).toArray = ls at hl9 ⊢
  have hl : lv_has ls 2 [(0, .ref (L 12 i)), (1, .int v)] := hl9
  refine lv_aload_n hx hb dX3_append_0 rfl (lv_at hl 0 rfl) ?_
  refine va_get (D := (dC, dI)) (ws := [(L 12 i, .inr (3, [.ref (L 13 i), .int ((a 12 i) 0)]))]) (ci := 3) (v := .int ((a 12 i) 0)) (C := RX3) (T := TX3) (N := 2) hx hb hts tl_X3 hown hK (hP.one (tw_mem (f := 12) (i := i) hi rfl)) 0 rfl rfl 1 (by decide) (hts _ tw_615) (fun _ h9 => h9) rfl dX3_append_1 ?_
  refine lv_aload_n hx hb dX3_append_4 rfl (lv_at hl 0 rfl) ?_
  refine va_get (D := (dC, dI)) (ws := [(L 12 i, .inr (3, [.ref (L 13 i), .int ((a 12 i) 0)]))]) (ci := 3) (v := .ref (L 13 i)) (C := RX3) (T := TX3) (N := 2) hx hb hts tl_X3 hown hK (hP.one (tw_mem (f := 12) (i := i) hi rfl)) 0 rfl rfl 0 (by decide) (hts _ tw_614) (fun _ h9 => h9) rfl dX3_append_5 ?_
  refine va_alen hx hb hK (ws := [(L 13 i, .inl (cy 0, 200, .inl (a 13 i)))]) (hP.one (tw_mem (f := 13) (i := i) hi rfl)) 0 0 rfl rfl (v := 200) rfl dX3_append_8 ?_
  refine lv_icmp_ge (tgt := 32) hx hb dX3_append_9 (by decide) (fun c_1 => ?_) (fun c_1 => ?_)
  · refine W.widen (k := 0) (n := 0) (Nat.le_of_ble_eq_true rfl) (Nat.le_of_ble_eq_true rfl) ?_
    have s_1 : a = R_app 12 13 200 a i v := by
      first | rfl | (simp only [R_app, if_pos c_1])
    rw [s_1] at hP
    exact W.vret hx hb hr (fun t ht hW => ⟨⟨(), rfl, trivial, (by show mw _ _ _ _ t.heap; rw [ht]; exact hP)⟩, hS.F ht⟩) hS.2.2 dX3_append_32
  · refine lv_aload_n hx hb dX3_append_12 rfl (lv_at hl 0 rfl) ?_
    refine va_get (D := (dC, dI)) (ws := [(L 12 i, .inr (3, [.ref (L 13 i), .int ((a 12 i) 0)]))]) (ci := 3) (v := .ref (L 13 i)) (C := RX3) (T := TX3) (N := 2) hx hb hts tl_X3 hown hK (hP.one (tw_mem (f := 12) (i := i) hi rfl)) 0 rfl rfl 0 (by decide) (hts _ tw_614) (fun _ h9 => h9) rfl dX3_append_13 ?_
    refine lv_aload_n hx hb dX3_append_16 rfl (lv_at hl 0 rfl) ?_
    refine va_get (D := (dC, dI)) (ws := [(L 12 i, .inr (3, [.ref (L 13 i), .int ((a 12 i) 0)]))]) (ci := 3) (v := .int ((a 12 i) 0)) (C := RX3) (T := TX3) (N := 2) hx hb hts tl_X3 hown hK (hP.one (tw_mem (f := 12) (i := i) hi rfl)) 0 rfl rfl 1 (by decide) (hts _ tw_615) (fun _ h9 => h9) rfl dX3_append_17 ?_
    refine lv_iload_n hx hb dX3_append_20 rfl (lv_at hl 1 rfl) ?_
    have j_1 : ((a 12 i) 0 : Int32).toNatClampNeg = (a 12 i 0).toNatClampNeg := m_cl (m_n0 hs) (m_ltI hs (m_ge c_1)) (by decide)
    obtain ⟨ws9, k9, hPw, hDw, hk9, -, hbk⟩ := hP.cut (e := .inl (cy 0, 200, .inl (a 13 i))) (tw_mem (f := 13) (i := i) hi rfl)
    refine va_iast hx hb hK hPw hDw hS k9 0 hk9 rfl (m_in (m_n0 hs) (m_ltI hs (m_ge c_1)) (by decide)) dX3_append_21 (fun H locs hPw hDw hS => ?_)
    rw [j_1] at hPw hDw
    have hP : mw (dC, dI) vwCl A (TW cy L tr (S2 a 13 i (upd (a 13 i) ((a 12 i 0).toNatClampNeg) v)) κ τ) H := (hbk _ _ hPw hDw).sub (tw_set (b := S2 a 13 i (upd (a 13 i) ((a 12 i 0).toNatClampNeg) v)) (f := 13) (i := i) (x := upd (a 13 i) ((a 12 i 0).toNatClampNeg) v) hT hi (by decide) rfl)
    clear hbk hPw hDw hk9
    refine lv_aload_n hx hb dX3_append_22 rfl (lv_at hl 0 rfl) ?_
    refine lv_dup hx hb dX3_append_23 rfl ?_
    refine va_get (D := (dC, dI)) (ws := [(L 12 i, .inr (3, [.ref (L 13 i), .int ((a 12 i) 0)]))]) (ci := 3) (v := .int ((a 12 i) 0)) (C := RX3) (T := TX3) (N := 2) hx hb hts tl_X3 hown hK (hP.one (tw_mem (f := 12) (i := i) hi (S2_nf (by decide)))) 0 rfl rfl 1 (by decide) (hts _ tw_615) (fun _ h9 => h9) rfl dX3_append_24 ?_
    refine lv_iconst (v := 1) hx hb dX3_append_27 (by decide) ?_
    refine lv_iadd hx hb dX3_append_28 ?_
    obtain ⟨ws9, k9, hPw, hDw, hk9, -, hbk⟩ := hP.cut (e := .inr (3, [.ref (L 13 i), .int ((a 12 i) 0)])) (tw_mem (f := 12) (i := i) hi (S2_nf (by decide)))
    refine va_put (D := (dC, dI)) (ci := 3) (v := .int (((a 12 i) 0) + 1)) (ty := .int) (C := RX3) (T := TX3) (N := 2) hx hb hts tl_X3 tyX3 tyX3_ok nmX3 hown hK hPw hDw hS k9 hk9 rfl 1 (by decide) (hts _ tw_615) (fun _ h9 => h9) rfl (by decide +kernel) rfl rfl (Nat.le_of_ble_eq_true rfl) dX3_append_29 (fun H locs hPw hDw hS => ?_)
    have hP : mw (dC, dI) vwCl A (TW cy L tr (S2 (S2 a 13 i (upd (a 13 i) ((a 12 i 0).toNatClampNeg) v)) 12 i (upd (a 12 i) 0 (((a 12 i) 0) + 1))) κ τ) H := (hbk _ _ hPw hDw).sub (tw_set (b := S2 (S2 a 13 i (upd (a 13 i) ((a 12 i 0).toNatClampNeg) v)) 12 i (upd (a 12 i) 0 (((a 12 i) 0) + 1))) (f := 12) (i := i) (x := upd (a 12 i) 0 (((a 12 i) 0) + 1)) hT hi (by decide) rfl)
    clear hbk hPw hDw hk9
    refine W.widen (k := 0) (n := 0) (Nat.le_of_ble_eq_true rfl) (Nat.le_of_ble_eq_true rfl) ?_
    have s_2 : S2 (S2 a 13 i (upd (a 13 i) ((a 12 i 0).toNatClampNeg) v)) 12 i (upd (a 12 i) 0 (((a 12 i) 0) + 1)) = R_app 12 13 200 a i v := by
      first | rfl | (simp only [R_app, if_neg c_1])
    rw [s_2] at hP
    exact W.vret hx hb hr (fun t ht hW => ⟨⟨(), rfl, trivial, (by show mw _ _ _ _ t.heap; rw [ht]; exact hP)⟩, hS.F ht⟩) hS.2.2 dX3_append_32
set_option maxRecDepth 100000 in
set_option maxHeartbeats 4000000 in
/-- Row.dropFirst, wait -/
theorem c_Row_dropFirst_wait (l : Launch) (dC : Nat → ClassId) (dI : Nat → Nat → Nat) (cy : Nat → ClassId) (L : Lay) (tr : Option Nat) (a : St) (κ : Kap) (τ : Tau) (i : Nat) (sz : Nat) (hT : TL L tr τ) (hi : i < 12) (hs : (a 12 i 0).toInt ≤ 200) : Met l yX3_dropFirst (tp_w yX3_dropFirst cX3_dropFirst 1 none) ({ frames := 1, cells := 0, slots := 0, locals := 18 }) (va_Pc [.ref (L 12 i)] (mPre dC dI cy (TW cy L tr a κ τ) sz)) (va_Qv (fun _ : Unit => True) (fun (_ : Unit) (t : State) => mw (dC, dI) vwCl (mA (TW cy L tr a κ τ) sz) (TW cy L tr (R_drop 12 13 a i) κ τ) t.heap) (mA (TW cy L tr a κ τ) sz)) (0) (0) (mA (TW cy L tr a κ τ) sz) := by
  refine Met.ofW (cc := cX3_dropFirst) (maxL := 1) (ret := none) (by decide) rfl ?_
  intro p e s m args below meth c s₁ B hml hv
  obtain ⟨rfl, hsz, hP, hK, hE⟩ := hv
  have hx := B.exec
  have hb := B.bytes
  have hr := B.returns
  have hts0 := atoms_spec (ws := tp_w yX3_dropFirst cX3_dropFirst 1 none) B.pre
  have hts : ∀ w ∈ tp_all, w.before _ s = true := fun w h => hts0 w (List.mem_cons_of_mem _ h)
  have hown : s.vm.findClass RX3 = some m.cls := findClass_of_methodNamed B.named
  have hlocks := B.notSynchronized
  subst hsz
  have hP := hP.self s.heap.size
  generalize hAe : mA (TW cy L tr a κ τ) s.heap.size = A at hP ⊢
  have hA : ∀ q : Nat, s.heap.size ≤ q → A q := fun q h => by rw [← hAe]; exact Or.inr h
  have hS : va_S A s.heap s.heap [] := va_S.rf
  have hl9 := lv_entry ([.ref (L 12 i)]) (n := 1) (Nat.le_of_ble_eq_true rfl)
  rw [lg_entry_eq]
  generalize (lg_sl ([.ref (L 12 i)]) ++ List.replicate (1 - (lg_sl ([.ref (L 12 i)])).length) Slot.unset).toArray = ls at hl9 ⊢
  have hl : lv_has ls 1 [(0, .ref (L 12 i))] := hl9
  refine lv_aload_n hx hb dX3_dropFirst_0 rfl (lv_at hl 0 rfl) ?_
  refine va_get (D := (dC, dI)) (ws := [(L 12 i, .inr (3, [.ref (L 13 i), .int ((a 12 i) 0)]))]) (ci := 3) (v := .int ((a 12 i) 0)) (C := RX3) (T := TX3) (N := 2) hx hb hts tl_X3 hown hK (hP.one (tw_mem (f := 12) (i := i) hi rfl)) 0 rfl rfl 1 (by decide) (hts _ tw_615) (fun _ h9 => h9) rfl dX3_dropFirst_1 ?_
  refine lv_if_le (tgt := 34) hx hb dX3_dropFirst_4 (by decide) (fun c_1 => ?_) (fun c_1 => ?_)
  · refine W.widen (k := 0) (n := 0) (Nat.le_of_ble_eq_true rfl) (Nat.le_of_ble_eq_true rfl) ?_
    have s_1 : a = R_drop 12 13 a i := by
      first | rfl | (simp only [R_drop, if_pos c_1])
    rw [s_1] at hP
    exact W.vret hx hb hr (fun t ht hW => ⟨⟨(), rfl, trivial, (by show mw _ _ _ _ t.heap; rw [ht]; exact hP)⟩, hS.F ht⟩) hS.2.2 dX3_dropFirst_34
  · refine lv_aload_n hx hb dX3_dropFirst_7 rfl (lv_at hl 0 rfl) ?_
    refine lv_dup hx hb dX3_dropFirst_8 rfl ?_
    refine va_get (D := (dC, dI)) (ws := [(L 12 i, .inr (3, [.ref (L 13 i), .int ((a 12 i) 0)]))]) (ci := 3) (v := .int ((a 12 i) 0)) (C := RX3) (T := TX3) (N := 2) hx hb hts tl_X3 hown hK (hP.one (tw_mem (f := 12) (i := i) hi rfl)) 0 rfl rfl 1 (by decide) (hts _ tw_615) (fun _ h9 => h9) rfl dX3_dropFirst_9 ?_
    refine lv_iconst (v := 1) hx hb dX3_dropFirst_12 (by decide) ?_
    refine lv_isub hx hb dX3_dropFirst_13 ?_
    obtain ⟨ws9, k9, hPw, hDw, hk9, -, hbk⟩ := hP.cut (e := .inr (3, [.ref (L 13 i), .int ((a 12 i) 0)])) (tw_mem (f := 12) (i := i) hi rfl)
    refine va_put (D := (dC, dI)) (ci := 3) (v := .int (((a 12 i) 0) - 1)) (ty := .int) (C := RX3) (T := TX3) (N := 2) hx hb hts tl_X3 tyX3 tyX3_ok nmX3 hown hK hPw hDw hS k9 hk9 rfl 1 (by decide) (hts _ tw_615) (fun _ h9 => h9) rfl (by decide +kernel) rfl rfl (Nat.le_of_ble_eq_true rfl) dX3_dropFirst_14 (fun H locs hPw hDw hS => ?_)
    have hP : mw (dC, dI) vwCl A (TW cy L tr (S2 a 12 i (upd (a 12 i) 0 (((a 12 i) 0) - 1))) κ τ) H := (hbk _ _ hPw hDw).sub (tw_set (b := S2 a 12 i (upd (a 12 i) 0 (((a 12 i) 0) - 1))) (f := 12) (i := i) (x := upd (a 12 i) 0 (((a 12 i) 0) - 1)) hT hi (by decide) rfl)
    clear hbk hPw hDw hk9
    refine lv_aload_n hx hb dX3_dropFirst_17 rfl (lv_at hl 0 rfl) ?_
    refine va_get (D := (dC, dI)) (ws := [(L 12 i, .inr (3, [.ref (L 13 i), .int (((a 12 i) 0) - 1)]))]) (ci := 3) (v := .ref (L 13 i)) (C := RX3) (T := TX3) (N := 2) hx hb hts tl_X3 hown hK (hP.one (tw_mem (f := 12) (i := i) hi S2_eq)) 0 rfl rfl 0 (by decide) (hts _ tw_614) (fun _ h9 => h9) rfl dX3_dropFirst_18 ?_
    refine lv_iconst (v := 1) hx hb dX3_dropFirst_21 (by decide) ?_
    refine lv_aload_n hx hb dX3_dropFirst_22 rfl (lv_at hl 0 rfl) ?_
    refine va_get (D := (dC, dI)) (ws := [(L 12 i, .inr (3, [.ref (L 13 i), .int (((a 12 i) 0) - 1)]))]) (ci := 3) (v := .ref (L 13 i)) (C := RX3) (T := TX3) (N := 2) hx hb hts tl_X3 hown hK (hP.one (tw_mem (f := 12) (i := i) hi S2_eq)) 0 rfl rfl 0 (by decide) (hts _ tw_614) (fun _ h9 => h9) rfl dX3_dropFirst_23 ?_
    refine lv_iconst (v := 0) hx hb dX3_dropFirst_26 (by decide) ?_
    refine lv_aload_n hx hb dX3_dropFirst_27 rfl (lv_at hl 0 rfl) ?_
    refine va_get (D := (dC, dI)) (ws := [(L 12 i, .inr (3, [.ref (L 13 i), .int (((a 12 i) 0) - 1)]))]) (ci := 3) (v := .int (((a 12 i) 0) - 1)) (C := RX3) (T := TX3) (N := 2) hx hb hts tl_X3 hown hK (hP.one (tw_mem (f := 12) (i := i) hi S2_eq)) 0 rfl rfl 1 (by decide) (hts _ tw_615) (fun _ h9 => h9) rfl dX3_dropFirst_28 ?_
    obtain ⟨ws9, k9, hPw, hDw, hk9, hin9, hbk⟩ := hP.cut (e := .inl (cy 0, 200, .inl (a 13 i))) (tw_mem (f := 13) (i := i) hi (S2_nf (by decide)))
    obtain ⟨k8, hk8⟩ := hin9 _ (.inl (cy 0, 200, .inl (a 13 i))) (tw_mem (f := 13) (i := i) hi (S2_nf (by decide)))
    refine va_copyi hx hb (hml.trans hl.1.symm) hown (hts _ tw_355) (hts _ tw_342) (hts _ tw_341) (hts _ tw_36) hK hPw hDw hS k8 k9 0 0 hk8 hk9 rfl rfl rfl (by decide) (by decide) (m_pred0 c_1) (m_d1 c_1 hs) (m_d0 c_1 hs) (fun _ _ => rfl) (Nat.le_of_ble_eq_true rfl) (Nat.le_of_ble_eq_true rfl) dX3_dropFirst_31 (fun H locs hPw hDw hS => ?_)
    rw [show (1 : Int32).toNatClampNeg = 1 from rfl, show (0 : Int32).toNatClampNeg = 0 from rfl] at hPw hDw
    have hP : mw (dC, dI) vwCl A (TW cy L tr (S2 (S2 a 12 i (upd (a 12 i) 0 (((a 12 i) 0) - 1))) 13 i (va_cpy (a 13 i) (a 13 i) 1 0 ((a 12 i 0 - 1).toNatClampNeg))) κ τ) H := (hbk _ _ hPw hDw).sub (tw_set (b := S2 (S2 a 12 i (upd (a 12 i) 0 (((a 12 i) 0) - 1))) 13 i (va_cpy (a 13 i) (a 13 i) 1 0 ((a 12 i 0 - 1).toNatClampNeg))) (f := 13) (i := i) (x := va_cpy (a 13 i) (a 13 i) 1 0 ((a 12 i 0 - 1).toNatClampNeg)) hT hi (by decide) rfl)
    clear hbk hPw hDw hk9
    refine W.widen (k := 0) (n := 0) (Nat.le_of_ble_eq_true rfl) (Nat.le_of_ble_eq_true rfl) ?_
    have s_2 : S2 (S2 a 12 i (upd (a 12 i) 0 (((a 12 i) 0) - 1))) 13 i (va_cpy (a 13 i) (a 13 i) 1 0 ((a 12 i 0 - 1).toNatClampNeg)) = R_drop 12 13 a i := by
      first | rfl | (simp only [R_drop, if_neg c_1])
    rw [s_2] at hP
    exact W.vret hx hb hr (fun t ht hW => ⟨⟨(), rfl, trivial, (by show mw _ _ _ _ t.heap; rw [ht]; exact hP)⟩, hS.F ht⟩) hS.2.2 dX3_dropFirst_34
