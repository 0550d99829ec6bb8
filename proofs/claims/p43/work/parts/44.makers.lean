theorem tw_612 : Cond.methodLink RX3 3 ⟨"java/lang/Object", "<init>", "()V"⟩ ∈ tp_all := tp_mem 612 (by decide +kernel) rfl
theorem tw_74 : Cond.instanceMethod ⟨"java/lang/Object", "<init>", "()V"⟩ ∈ tp_all := tp_mem 74 (by decide +kernel) rfl
theorem tw_75 : Cond.code ⟨"java/lang/Object", "<init>", "()V"⟩ object_method_1_code 1 none ∈ tp_all := tp_mem 75 (by decide +kernel) rfl
theorem tw_613 : Cond.methodLink RX3 9 yJ9_max_7cf53 ∈ tp_all := tp_mem 613 (by decide +kernel) rfl
theorem tw_623 : Cond.arrayClass .int ∈ tp_all := tp_mem 623 (by decide +kernel) rfl
theorem tw_763 : Cond.methodLink RX0 1 ⟨"java/lang/Object", "<init>", "()V"⟩ ∈ tp_all := tp_mem 763 (by decide +kernel) rfl
theorem tw_817 : Cond.methodLink RX7 3 ⟨"java/lang/Object", "<init>", "()V"⟩ ∈ tp_all := tp_mem 817 (by decide +kernel) rfl
theorem tw_734 : Cond.methodLink RX4 3 ⟨"java/lang/Object", "<init>", "()V"⟩ ∈ tp_all := tp_mem 734 (by decide +kernel) rfl
theorem tw_606 : Cond.methodLink RX1 3 ⟨"java/lang/Object", "<init>", "()V"⟩ ∈ tp_all := tp_mem 606 (by decide +kernel) rfl
theorem tw_607 : Cond.classLink RX1 15 RX3 ∈ tp_all := tp_mem 607 (by decide +kernel) rfl
theorem tw_608 : Cond.instantiable RX3 2 ∈ tp_all := tp_mem 608 (by decide +kernel) rfl
theorem tw_611 : Cond.code yX3_init cX3_init 2 none ∈ tp_all := tp_mem 611 (by decide +kernel) rfl
theorem tw_609 : Cond.methodLink RX1 17 yX3_init ∈ tp_all := tp_mem 609 (by decide +kernel) rfl
theorem tw_610 : Cond.instanceMethod yX3_init ∈ tp_all := tp_mem 610 (by decide +kernel) rfl
theorem dX3_init_0 : decode cX3_init 0 = .ok (.aload_n 0, 1) := by decide +kernel
theorem dX3_init_1 : decode cX3_init 1 = .ok (.invokespecial 3, 3) := by decide +kernel
theorem dX3_init_4 : decode cX3_init 4 = .ok (.aload_n 0, 1) := by decide +kernel
theorem dX3_init_5 : decode cX3_init 5 = .ok (.iload_n 1, 1) := by decide +kernel
theorem dX3_init_6 : decode cX3_init 6 = .ok (.iconst 0, 1) := by decide +kernel
theorem dX3_init_7 : decode cX3_init 7 = .ok (.invokestatic 9, 3) := by decide +kernel
theorem dX3_init_10 : decode cX3_init 10 = .ok (.newarray .int, 2) := by decide +kernel
theorem dX3_init_12 : decode cX3_init 12 = .ok (.putfield 15, 3) := by decide +kernel
theorem dX3_init_15 : decode cX3_init 15 = .ok (.return_, 1) := by decide +kernel
theorem dX0_init_0 : decode cX0_init 0 = .ok (.aload_n 0, 1) := by decide +kernel
theorem dX0_init_1 : decode cX0_init 1 = .ok (.invokespecial 1, 3) := by decide +kernel
theorem dX0_init_4 : decode cX0_init 4 = .ok (.aload_n 0, 1) := by decide +kernel
theorem dX0_init_5 : decode cX0_init 5 = .ok (.iconst 1, 1) := by decide +kernel
theorem dX0_init_6 : decode cX0_init 6 = .ok (.putfield 7, 3) := by decide +kernel
theorem dX0_init_9 : decode cX0_init 9 = .ok (.return_, 1) := by decide +kernel
theorem dX7_init_0 : decode cX7_init 0 = .ok (.aload_n 0, 1) := by decide +kernel
theorem dX7_init_1 : decode cX7_init 1 = .ok (.invokespecial 3, 3) := by decide +kernel
theorem dX7_init_4 : decode cX7_init 4 = .ok (.aload_n 0, 1) := by decide +kernel
theorem dX7_init_5 : decode cX7_init 5 = .ok (.bipush 11, 2) := by decide +kernel
theorem dX7_init_7 : decode cX7_init 7 = .ok (.newarray .int, 2) := by decide +kernel
theorem dX7_init_9 : decode cX7_init 9 = .ok (.putfield 9, 3) := by decide +kernel
theorem dX7_init_12 : decode cX7_init 12 = .ok (.return_, 1) := by decide +kernel
theorem dX4_init_0 : decode cX4_init 0 = .ok (.aload_n 0, 1) := by decide +kernel
theorem dX4_init_1 : decode cX4_init 1 = .ok (.invokespecial 3, 3) := by decide +kernel
theorem dX4_init_4 : decode cX4_init 4 = .ok (.aload_n 0, 1) := by decide +kernel
theorem dX4_init_5 : decode cX4_init 5 = .ok (.iconst 4, 1) := by decide +kernel
theorem dX4_init_6 : decode cX4_init 6 = .ok (.newarray .int, 2) := by decide +kernel
theorem dX4_init_8 : decode cX4_init 8 = .ok (.putfield 9, 3) := by decide +kernel
theorem dX4_init_11 : decode cX4_init 11 = .ok (.aload_n 0, 1) := by decide +kernel
theorem dX4_init_12 : decode cX4_init 12 = .ok (.iconst 4, 1) := by decide +kernel
theorem dX4_init_13 : decode cX4_init 13 = .ok (.newarray .int, 2) := by decide +kernel
theorem dX4_init_15 : decode cX4_init 15 = .ok (.putfield 15, 3) := by decide +kernel
theorem dX4_init_18 : decode cX4_init 18 = .ok (.aload_n 0, 1) := by decide +kernel
theorem dX4_init_19 : decode cX4_init 19 = .ok (.iconst 4, 1) := by decide +kernel
theorem dX4_init_20 : decode cX4_init 20 = .ok (.newarray .int, 2) := by decide +kernel
theorem dX4_init_22 : decode cX4_init 22 = .ok (.putfield 18, 3) := by decide +kernel
theorem dX4_init_25 : decode cX4_init 25 = .ok (.aload_n 0, 1) := by decide +kernel
theorem dX4_init_26 : decode cX4_init 26 = .ok (.iconst (-1), 1) := by decide +kernel
theorem dX4_init_27 : decode cX4_init 27 = .ok (.putfield 21, 3) := by decide +kernel
theorem dX4_init_30 : decode cX4_init 30 = .ok (.return_, 1) := by decide +kernel
theorem dX1_init_0 : decode cX1_init 0 = .ok (.aload_n 0, 1) := by decide +kernel
theorem dX1_init_1 : decode cX1_init 1 = .ok (.invokespecial 3, 3) := by decide +kernel
theorem dX1_init_4 : decode cX1_init 4 = .ok (.aload_n 0, 1) := by decide +kernel
theorem dX1_init_5 : decode cX1_init 5 = .ok (.iconst (-1), 1) := by decide +kernel
theorem dX1_init_6 : decode cX1_init 6 = .ok (.putfield 9, 3) := by decide +kernel
theorem dX1_init_9 : decode cX1_init 9 = .ok (.aload_n 0, 1) := by decide +kernel
theorem dX1_init_10 : decode cX1_init 10 = .ok (.new 15, 3) := by decide +kernel
theorem dX1_init_13 : decode cX1_init 13 = .ok (.dup, 1) := by decide +kernel
theorem dX1_init_14 : decode cX1_init 14 = .ok (.bipush 30, 2) := by decide +kernel
theorem dX1_init_16 : decode cX1_init 16 = .ok (.invokespecial 17, 3) := by decide +kernel
theorem dX1_init_19 : decode cX1_init 19 = .ok (.putfield 20, 3) := by decide +kernel
theorem dX1_init_22 : decode cX1_init 22 = .ok (.aload_n 0, 1) := by decide +kernel
theorem dX1_init_23 : decode cX1_init 23 = .ok (.new 15, 3) := by decide +kernel
theorem dX1_init_26 : decode cX1_init 26 = .ok (.dup, 1) := by decide +kernel
theorem dX1_init_27 : decode cX1_init 27 = .ok (.bipush 30, 2) := by decide +kernel
theorem dX1_init_29 : decode cX1_init 29 = .ok (.invokespecial 17, 3) := by decide +kernel
theorem dX1_init_32 : decode cX1_init 32 = .ok (.putfield 24, 3) := by decide +kernel
theorem dX1_init_35 : decode cX1_init 35 = .ok (.aload_n 0, 1) := by decide +kernel
theorem dX1_init_36 : decode cX1_init 36 = .ok (.bipush 24, 2) := by decide +kernel
theorem dX1_init_38 : decode cX1_init 38 = .ok (.newarray .int, 2) := by decide +kernel
theorem dX1_init_40 : decode cX1_init 40 = .ok (.putfield 27, 3) := by decide +kernel
theorem dX1_init_43 : decode cX1_init 43 = .ok (.return_, 1) := by decide +kernel
set_option maxRecDepth 100000 in
set_option maxHeartbeats 4000000 in
/-- k_Row_30 -/
theorem k_Row_30 (l : Launch) (dC : Nat → ClassId) (dI : Nat → Nat → Nat) (cy : Nat → ClassId) (a0 : Nat) (sz : Nat) : Met l yX3_init (tp_w yX3_init cX3_init 2 none) ({ frames := 1, cells := 1, slots := 30, locals := 14 }) (va_Pc [.ref a0, .int 30] (mPre dC dI cy (cw [(a0, .inr (3, [.null, .int 0]))]) sz)) (va_Qv (fun _ : Unit => True) (fun (_ : Unit) (t : State) => ∃ (q1 : Nat), kPost dC dI (va_A [(a0, .inr (3, [.null, .int 0]))] sz) [(a0, .inr (3, [.ref q1, .int 0])), (q1, .inl (cy 0, 30, .inl ((fun _ => 0))))] t) (va_A [(a0, .inr (3, [.null, .int 0]))] sz)) 1 30 (va_A [(a0, .inr (3, [.null, .int 0]))] sz) := by
  refine Met.ofW (cc := cX3_init) (maxL := 2) (ret := none) (by decide) rfl ?_
  intro p e s m args below meth c s₁ B hml hv
  obtain ⟨rfl, hsz, hM, hK, hE⟩ := hv
  have hx := B.exec
  have hb := B.bytes
  have hr := B.returns
  have hts0 := atoms_spec (ws := tp_w yX3_init cX3_init 2 none) B.pre
  have hts : ∀ w ∈ tp_all, w.before _ s = true := fun w h => hts0 w (List.mem_cons_of_mem _ h)
  have hown : s.vm.findClass RX3 = some m.cls := findClass_of_methodNamed B.named
  have hlocks := B.notSynchronized
  have hin : meth.name = "<init>" := (name_of_methodNamed B.named B.method).1
  subst hsz
  have hP : va_P (dC, dI) vwCl [(a0, .inr (3, [.null, .int 0]))] s.heap := cw_P hM
  have hD : va_D (va_A [(a0, .inr (3, [.null, .int 0]))] s.heap.size) [(a0, .inr (3, [.null, .int 0]))] := cw_D1
  generalize hAe : va_A [(a0, .inr (3, [.null, .int 0]))] s.heap.size = A at hD ⊢
  have hA : ∀ q : Nat, s.heap.size ≤ q → A q := fun q h => by rw [← hAe]; exact Or.inr h
  have hS : va_S A s.heap s.heap [] := va_S.rf
  have hl9 := lv_entry ([.ref a0, .int 30]) (n := 2) (Nat.le_of_ble_eq_true rfl)
  rw [lg_entry_eq]
  generalize (lg_sl ([.ref a0, .int 30]) ++ List.replicate (2 - (lg_sl ([.ref a0, .int 30])).length) Slot.unset).toArray = ls at hl9 ⊢
  have hl : lv_has ls 2 [(0, .ref a0), (1, .int 30)] := hl9
  refine lv_aload_n hx hb dX3_init_0 rfl (lv_at hl 0 rfl) ?_
  refine W.objInit hx hb hown (hts _ tw_612) (hts _ tw_74) (hts _ tw_75) rfl (by rw [hml]; exact hl.1) rfl dX3_init_1 (Nat.le_of_ble_eq_true rfl) (Nat.le_of_ble_eq_true rfl) ?_
  refine W.eq (g2 := F0 m 4 ls []) rfl ?_
  refine lv_aload_n hx hb dX3_init_4 rfl (lv_at hl 0 rfl) ?_
  refine lv_iload_n hx hb dX3_init_5 rfl (lv_at hl 1 rfl) ?_
  refine lv_iconst (v := 0) hx hb dX3_init_6 (by decide) ?_
  refine va_mmax hx hb (hml.trans hl.1.symm) hown (hts _ tw_613) (hts _ tw_292) (hts _ tw_25) (hts _ tw_293) (Nat.le_of_ble_eq_true rfl) (Nat.le_of_ble_eq_true rfl) (Nat.le_of_ble_eq_true rfl) (Nat.le_of_ble_eq_true rfl) dX3_init_7 ?_
  refine va_newa hx hb (atype := .int) (hts _ tw_623) (ty := .int) rfl hK hP hD hS hA (a0 := (30, .inl (fun _ => 0))) (N' := 30) (fun _ => rfl) (by decide) (by decide) (Nat.le_of_ble_eq_true rfl) (Nat.le_of_ble_eq_true rfl) (Nat.le_of_ble_eq_true rfl) dX3_init_10 (fun a_1 k_2 H hK9 hP hD hS => ?_)
  obtain rfl : k_2 = cy 0 := tp_one hK9 11 0 rfl rfl
  have hP : va_P (dC, dI) vwCl [(a0, .inr (3, [.null, .int 0])), (a_1, .inl (cy 0, 30, .inl ((fun _ => 0))))] _ := hP
  have hD : va_D A [(a0, .inr (3, [.null, .int 0])), (a_1, .inl (cy 0, 30, .inl ((fun _ => 0))))] := hD
  refine va_putF (D := (dC, dI)) (ci := 3) (v := .ref a_1) (ty := (.array .int)) (C := RX3) (T := TX3) (N := 2) hx hb hts tl_X3 tyX3 tyX3_ok nmX3 hown hK hP hD hS 0 rfl rfl 0 (by decide) (hts _ tw_614) (fun _ h9 => h9) rfl hin rfl (by decide +kernel) rfl rfl (Nat.le_of_ble_eq_true rfl) dX3_init_12 (fun H locs hP hD hS => ?_)
  have hP : va_P (dC, dI) vwCl [(a0, .inr (3, [.ref a_1, .int 0])), (a_1, .inl (cy 0, 30, .inl ((fun _ => 0))))] _ := hP
  have hD : va_D A [(a0, .inr (3, [.ref a_1, .int 0])), (a_1, .inl (cy 0, 30, .inl ((fun _ => 0))))] := hD
  refine W.widen (k := 1) (n := 30) (Nat.le_of_ble_eq_true rfl) (Nat.le_of_ble_eq_true rfl) ?_
  have hP9 := hP.sub (ws' := [(a0, .inr (3, [.ref a_1, .int 0])), (a_1, .inl (cy 0, 30, .inl ((fun _ => 0))))]) [0, 1] rfl
  have hD9 := hD.sub (ws' := [(a0, .inr (3, [.ref a_1, .int 0])), (a_1, .inl (cy 0, 30, .inl ((fun _ => 0))))]) [0, 1] (by decide) rfl
  exact W.vret hx hb hr (fun t ht hW => ⟨⟨(), rfl, trivial, ⟨a_1, by rw [ht]; exact hP9, hD9⟩⟩, hS.F ht⟩) hS.2.2 dX3_init_15
set_option maxRecDepth 100000 in
set_option maxHeartbeats 4000000 in
/-- k_Row_200 -/
theorem k_Row_200 (l : Launch) (dC : Nat → ClassId) (dI : Nat → Nat → Nat) (cy : Nat → ClassId) (a0 : Nat) (sz : Nat) : Met l yX3_init (tp_w yX3_init cX3_init 2 none) ({ frames := 1, cells := 1, slots := 200, locals := 14 }) (va_Pc [.ref a0, .int 200] (mPre dC dI cy (cw [(a0, .inr (3, [.null, .int 0]))]) sz)) (va_Qv (fun _ : Unit => True) (fun (_ : Unit) (t : State) => ∃ (q1 : Nat), kPost dC dI (va_A [(a0, .inr (3, [.null, .int 0]))] sz) [(a0, .inr (3, [.ref q1, .int 0])), (q1, .inl (cy 0, 200, .inl ((fun _ => 0))))] t) (va_A [(a0, .inr (3, [.null, .int 0]))] sz)) 1 200 (va_A [(a0, .inr (3, [.null, .int 0]))] sz) := by
  refine Met.ofW (cc := cX3_init) (maxL := 2) (ret := none) (by decide) rfl ?_
  intro p e s m args below meth c s₁ B hml hv
  obtain ⟨rfl, hsz, hM, hK, hE⟩ := hv
  have hx := B.exec
  have hb := B.bytes
  have hr := B.returns
  have hts0 := atoms_spec (ws := tp_w yX3_init cX3_init 2 none) B.pre
  have hts : ∀ w ∈ tp_all, w.before _ s = true := fun w h => hts0 w (List.mem_cons_of_mem _ h)
  have hown : s.vm.findClass RX3 = some m.cls := findClass_of_methodNamed B.named
  have hlocks := B.notSynchronized
  have hin : meth.name = "<init>" := (name_of_methodNamed B.named B.method).1
  subst hsz
  have hP : va_P (dC, dI) vwCl [(a0, .inr (3, [.null, .int 0]))] s.heap := cw_P hM
  have hD : va_D (va_A [(a0, .inr (3, [.null, .int 0]))] s.heap.size) [(a0, .inr (3, [.null, .int 0]))] := cw_D1
  generalize hAe : va_A [(a0, .inr (3, [.null, .int 0]))] s.heap.size = A at hD ⊢
  have hA : ∀ q : Nat, s.heap.size ≤ q → A q := fun q h => by rw [← hAe]; exact Or.inr h
  have hS : va_S A s.heap s.heap [] := va_S.rf
  have hl9 := lv_entry ([.ref a0, .int 200]) (n := 2) (Nat.le_of_ble_eq_true rfl)
  rw [lg_entry_eq]
  generalize (lg_sl ([.ref a0, .int 200]) ++ List.replicate (2 - (lg_sl ([.ref a0, .int 200])).length) Slot.unset).toArray = ls at hl9 ⊢
  have hl : lv_has ls 2 [(0, .ref a0), (1, .int 200)] := hl9
  refine lv_aload_n hx hb dX3_init_0 rfl (lv_at hl 0 rfl) ?_
  refine W.objInit hx hb hown (hts _ tw_612) (hts _ tw_74) (hts _ tw_75) rfl (by rw [hml]; exact hl.1) rfl dX3_init_1 (Nat.le_of_ble_eq_true rfl) (Nat.le_of_ble_eq_true rfl) ?_
  refine W.eq (g2 := F0 m 4 ls []) rfl ?_
  refine lv_aload_n hx hb dX3_init_4 rfl (lv_at hl 0 rfl) ?_
  refine lv_iload_n hx hb dX3_init_5 rfl (lv_at hl 1 rfl) ?_
  refine lv_iconst (v := 0) hx hb dX3_init_6 (by decide) ?_
  refine va_mmax hx hb (hml.trans hl.1.symm) hown (hts _ tw_613) (hts _ tw_292) (hts _ tw_25) (hts _ tw_293) (Nat.le_of_ble_eq_true rfl) (Nat.le_of_ble_eq_true rfl) (Nat.le_of_ble_eq_true rfl) (Nat.le_of_ble_eq_true rfl) dX3_init_7 ?_
  refine va_newa hx hb (atype := .int) (hts _ tw_623) (ty := .int) rfl hK hP hD hS hA (a0 := (200, .inl (fun _ => 0))) (N' := 200) (fun _ => rfl) (by decide) (by decide) (Nat.le_of_ble_eq_true rfl) (Nat.le_of_ble_eq_true rfl) (Nat.le_of_ble_eq_true rfl) dX3_init_10 (fun a_1 k_2 H hK9 hP hD hS => ?_)
  obtain rfl : k_2 = cy 0 := tp_one hK9 11 0 rfl rfl
  have hP : va_P (dC, dI) vwCl [(a0, .inr (3, [.null, .int 0])), (a_1, .inl (cy 0, 200, .inl ((fun _ => 0))))] _ := hP
  have hD : va_D A [(a0, .inr (3, [.null, .int 0])), (a_1, .inl (cy 0, 200, .inl ((fun _ => 0))))] := hD
  refine va_putF (D := (dC, dI)) (ci := 3) (v := .ref a_1) (ty := (.array .int)) (C := RX3) (T := TX3) (N := 2) hx hb hts tl_X3 tyX3 tyX3_ok nmX3 hown hK hP hD hS 0 rfl rfl 0 (by decide) (hts _ tw_614) (fun _ h9 => h9) rfl hin rfl (by decide +kernel) rfl rfl (Nat.le_of_ble_eq_true rfl) dX3_init_12 (fun H locs hP hD hS => ?_)
  have hP : va_P (dC, dI) vwCl [(a0, .inr (3, [.ref a_1, .int 0])), (a_1, .inl (cy 0, 200, .inl ((fun _ => 0))))] _ := hP
  have hD : va_D A [(a0, .inr (3, [.ref a_1, .int 0])), (a_1, .inl (cy 0, 200, .inl ((fun _ => 0))))] := hD
  refine W.widen (k := 1) (n := 200) (Nat.le_of_ble_eq_true rfl) (Nat.le_of_ble_eq_true rfl) ?_
  have hP9 := hP.sub (ws' := [(a0, .inr (3, [.ref a_1, .int 0])), (a_1, .inl (cy 0, 200, .inl ((fun _ => 0))))]) [0, 1] rfl
  have hD9 := hD.sub (ws' := [(a0, .inr (3, [.ref a_1, .int 0])), (a_1, .inl (cy 0, 200, .inl ((fun _ => 0))))]) [0, 1] (by decide) rfl
  exact W.vret hx hb hr (fun t ht hW => ⟨⟨(), rfl, trivial, ⟨a_1, by rw [ht]; exact hP9, hD9⟩⟩, hS.F ht⟩) hS.2.2 dX3_init_15
set_option maxRecDepth 100000 in
set_option maxHeartbeats 4000000 in
/-- k_Flow -/
theorem k_Flow (l : Launch) (dC : Nat → ClassId) (dI : Nat → Nat → Nat) (cy : Nat → ClassId) (a0 : Nat) (sz : Nat) : Met l yX0_init (tp_w yX0_init cX0_init 1 none) ({ frames := 1, cells := 0, slots := 0, locals := 12 }) (va_Pc [.ref a0] (mPre dC dI cy (cw [(a0, .inr (0, [.int 0, .int 0, .int 0, .int 0, .int 0, .int 0, .int 0, .int 0, .int 0, .int 0, .int 0, .int 0]))]) sz)) (va_Qv (fun _ : Unit => True) (fun (_ : Unit) (t : State) => kPost dC dI (va_A [(a0, .inr (0, [.int 0, .int 0, .int 0, .int 0, .int 0, .int 0, .int 0, .int 0, .int 0, .int 0, .int 0, .int 0]))] sz) [(a0, .inr (0, [.int 0, .int 0, .int 0, .int 0, .int 1, .int 0, .int 0, .int 0, .int 0, .int 0, .int 0, .int 0]))] t) (va_A [(a0, .inr (0, [.int 0, .int 0, .int 0, .int 0, .int 0, .int 0, .int 0, .int 0, .int 0, .int 0, .int 0, .int 0]))] sz)) 0 0 (va_A [(a0, .inr (0, [.int 0, .int 0, .int 0, .int 0, .int 0, .int 0, .int 0, .int 0, .int 0, .int 0, .int 0, .int 0]))] sz) := by
  refine Met.ofW (cc := cX0_init) (maxL := 1) (ret := none) (by decide) rfl ?_
  intro p e s m args below meth c s₁ B hml hv
  obtain ⟨rfl, hsz, hM, hK, hE⟩ := hv
  have hx := B.exec
  have hb := B.bytes
  have hr := B.returns
  have hts0 := atoms_spec (ws := tp_w yX0_init cX0_init 1 none) B.pre
  have hts : ∀ w ∈ tp_all, w.before _ s = true := fun w h => hts0 w (List.mem_cons_of_mem _ h)
  have hown : s.vm.findClass RX0 = some m.cls := findClass_of_methodNamed B.named
  have hlocks := B.notSynchronized
  have hin : meth.name = "<init>" := (name_of_methodNamed B.named B.method).1
  subst hsz
  have hP : va_P (dC, dI) vwCl [(a0, .inr (0, [.int 0, .int 0, .int 0, .int 0, .int 0, .int 0, .int 0, .int 0, .int 0, .int 0, .int 0, .int 0]))] s.heap := cw_P hM
  have hD : va_D (va_A [(a0, .inr (0, [.int 0, .int 0, .int 0, .int 0, .int 0, .int 0, .int 0, .int 0, .int 0, .int 0, .int 0, .int 0]))] s.heap.size) [(a0, .inr (0, [.int 0, .int 0, .int 0, .int 0, .int 0, .int 0, .int 0, .int 0, .int 0, .int 0, .int 0, .int 0]))] := cw_D1
  generalize hAe : va_A [(a0, .inr (0, [.int 0, .int 0, .int 0, .int 0, .int 0, .int 0, .int 0, .int 0, .int 0, .int 0, .int 0, .int 0]))] s.heap.size = A at hD ⊢
  have hA : ∀ q : Nat, s.heap.size ≤ q → A q := fun q h => by rw [← hAe]; exact Or.inr h
  have hS : va_S A s.heap s.heap [] := va_S.rf
  have hl9 := lv_entry ([.ref a0]) (n := 1) (Nat.le_of_ble_eq_true rfl)
  rw [lg_entry_eq]
  generalize (lg_sl ([.ref a0]) ++ List.replicate (1 - (lg_sl ([.ref a0])).length) Slot.unset).toArray = ls at hl9 ⊢
  have hl : lv_has ls 1 [(0, .ref a0)] := hl9
  refine lv_aload_n hx hb dX0_init_0 rfl (lv_at hl 0 rfl) ?_
  refine W.objInit hx hb hown (hts _ tw_763) (hts _ tw_74) (hts _ tw_75) rfl (by rw [hml]; exact hl.1) rfl dX0_init_1 (Nat.le_of_ble_eq_true rfl) (Nat.le_of_ble_eq_true rfl) ?_
  refine W.eq (g2 := F0 m 4 ls []) rfl ?_
  refine lv_aload_n hx hb dX0_init_4 rfl (lv_at hl 0 rfl) ?_
  refine lv_iconst (v := 1) hx hb dX0_init_5 (by decide) ?_
  refine va_put (D := (dC, dI)) (ci := 0) (v := .int 1) (ty := .int) (C := RX0) (T := TX0) (N := 12) hx hb hts tl_X0 tyX0 tyX0_ok nmX0 hown hK hP hD hS 0 rfl rfl 4 (by decide) (hts _ tw_772) (fun _ h9 => h9) rfl (by decide +kernel) rfl rfl (Nat.le_of_ble_eq_true rfl) dX0_init_6 (fun H locs hP hD hS => ?_)
  have hP : va_P (dC, dI) vwCl [(a0, .inr (0, [.int 0, .int 0, .int 0, .int 0, .int 1, .int 0, .int 0, .int 0, .int 0, .int 0, .int 0, .int 0]))] _ := hP
  have hD : va_D A [(a0, .inr (0, [.int 0, .int 0, .int 0, .int 0, .int 1, .int 0, .int 0, .int 0, .int 0, .int 0, .int 0, .int 0]))] := hD
  refine W.widen (k := 0) (n := 0) (Nat.le_of_ble_eq_true rfl) (Nat.le_of_ble_eq_true rfl) ?_
  have hP9 := hP.sub (ws' := [(a0, .inr (0, [.int 0, .int 0, .int 0, .int 0, .int 1, .int 0, .int 0, .int 0, .int 0, .int 0, .int 0, .int 0]))]) [0] rfl
  have hD9 := hD.sub (ws' := [(a0, .inr (0, [.int 0, .int 0, .int 0, .int 0, .int 1, .int 0, .int 0, .int 0, .int 0, .int 0, .int 0, .int 0]))]) [0] (by decide) rfl
  exact W.vret hx hb hr (fun t ht hW => ⟨⟨(), rfl, trivial, ⟨by rw [ht]; exact hP9, hD9⟩⟩, hS.F ht⟩) hS.2.2 dX0_init_9
set_option maxRecDepth 100000 in
set_option maxHeartbeats 4000000 in
/-- k_Vehicle -/
theorem k_Vehicle (l : Launch) (dC : Nat → ClassId) (dI : Nat → Nat → Nat) (cy : Nat → ClassId) (a0 : Nat) (sz : Nat) : Met l yX7_init (tp_w yX7_init cX7_init 1 none) ({ frames := 1, cells := 1, slots := 11, locals := 12 }) (va_Pc [.ref a0] (mPre dC dI cy (cw [(a0, .inr (7, [.int 0, .int 0, .int 0, .int 0, .int 0, .int 0, .int 0, .int 0, .int 0, .int 0, .int 0, .int 0, .null]))]) sz)) (va_Qv (fun _ : Unit => True) (fun (_ : Unit) (t : State) => ∃ (q1 : Nat), kPost dC dI (va_A [(a0, .inr (7, [.int 0, .int 0, .int 0, .int 0, .int 0, .int 0, .int 0, .int 0, .int 0, .int 0, .int 0, .int 0, .null]))] sz) [(a0, .inr (7, [.int 0, .int 0, .int 0, .int 0, .int 0, .int 0, .int 0, .int 0, .int 0, .int 0, .int 0, .int 0, .ref q1])), (q1, .inl (cy 0, 11, .inl ((fun _ => 0))))] t) (va_A [(a0, .inr (7, [.int 0, .int 0, .int 0, .int 0, .int 0, .int 0, .int 0, .int 0, .int 0, .int 0, .int 0, .int 0, .null]))] sz)) 1 11 (va_A [(a0, .inr (7, [.int 0, .int 0, .int 0, .int 0, .int 0, .int 0, .int 0, .int 0, .int 0, .int 0, .int 0, .int 0, .null]))] sz) := by
  refine Met.ofW (cc := cX7_init) (maxL := 1) (ret := none) (by decide) rfl ?_
  intro p e s m args below meth c s₁ B hml hv
  obtain ⟨rfl, hsz, hM, hK, hE⟩ := hv
  have hx := B.exec
  have hb := B.bytes
  have hr := B.returns
  have hts0 := atoms_spec (ws := tp_w yX7_init cX7_init 1 none) B.pre
  have hts : ∀ w ∈ tp_all, w.before _ s = true := fun w h => hts0 w (List.mem_cons_of_mem _ h)
  have hown : s.vm.findClass RX7 = some m.cls := findClass_of_methodNamed B.named
  have hlocks := B.notSynchronized
  have hin : meth.name = "<init>" := (name_of_methodNamed B.named B.method).1
  subst hsz
  have hP : va_P (dC, dI) vwCl [(a0, .inr (7, [.int 0, .int 0, .int 0, .int 0, .int 0, .int 0, .int 0, .int 0, .int 0, .int 0, .int 0, .int 0, .null]))] s.heap := cw_P hM
  have hD : va_D (va_A [(a0, .inr (7, [.int 0, .int 0, .int 0, .int 0, .int 0, .int 0, .int 0, .int 0, .int 0, .int 0, .int 0, .int 0, .null]))] s.heap.size) [(a0, .inr (7, [.int 0, .int 0, .int 0, .int 0, .int 0, .int 0, .int 0, .int 0, .int 0, .int 0, .int 0, .int 0, .null]))] := cw_D1
  generalize hAe : va_A [(a0, .inr (7, [.int 0, .int 0, .int 0, .int 0, .int 0, .int 0, .int 0, .int 0, .int 0, .int 0, .int 0, .int 0, .null]))] s.heap.size = A at hD ⊢
  have hA : ∀ q : Nat, s.heap.size ≤ q → A q := fun q h => by rw [← hAe]; exact Or.inr h
  have hS : va_S A s.heap s.heap [] := va_S.rf
  have hl9 := lv_entry ([.ref a0]) (n := 1) (Nat.le_of_ble_eq_true rfl)
  rw [lg_entry_eq]
  generalize (lg_sl ([.ref a0]) ++ List.replicate (1 - (lg_sl ([.ref a0])).length) Slot.unset).toArray = ls at hl9 ⊢
  have hl : lv_has ls 1 [(0, .ref a0)] := hl9
  refine lv_aload_n hx hb dX7_init_0 rfl (lv_at hl 0 rfl) ?_
  refine W.objInit hx hb hown (hts _ tw_817) (hts _ tw_74) (hts _ tw_75) rfl (by rw [hml]; exact hl.1) rfl dX7_init_1 (Nat.le_of_ble_eq_true rfl) (Nat.le_of_ble_eq_true rfl) ?_
  refine W.eq (g2 := F0 m 4 ls []) rfl ?_
  refine lv_aload_n hx hb dX7_init_4 rfl (lv_at hl 0 rfl) ?_
  refine lv_bipush (v := 11) hx hb dX7_init_5 (by decide) ?_
  refine va_newa hx hb (atype := .int) (hts _ tw_623) (ty := .int) rfl hK hP hD hS hA (a0 := (11, .inl (fun _ => 0))) (N' := 11) (fun _ => rfl) (by decide) (by decide) (Nat.le_of_ble_eq_true rfl) (Nat.le_of_ble_eq_true rfl) (Nat.le_of_ble_eq_true rfl) dX7_init_7 (fun a_1 k_2 H hK9 hP hD hS => ?_)
  obtain rfl : k_2 = cy 0 := tp_one hK9 11 0 rfl rfl
  have hP : va_P (dC, dI) vwCl [(a0, .inr (7, [.int 0, .int 0, .int 0, .int 0, .int 0, .int 0, .int 0, .int 0, .int 0, .int 0, .int 0, .int 0, .null])), (a_1, .inl (cy 0, 11, .inl ((fun _ => 0))))] _ := hP
  have hD : va_D A [(a0, .inr (7, [.int 0, .int 0, .int 0, .int 0, .int 0, .int 0, .int 0, .int 0, .int 0, .int 0, .int 0, .int 0, .null])), (a_1, .inl (cy 0, 11, .inl ((fun _ => 0))))] := hD
  refine va_putF (D := (dC, dI)) (ci := 7) (v := .ref a_1) (ty := (.array .int)) (C := RX7) (T := TX7) (N := 13) hx hb hts tl_X7 tyX7 tyX7_ok nmX7 hown hK hP hD hS 0 rfl rfl 12 (by decide) (hts _ tw_845) (fun _ h9 => h9) rfl hin rfl (by decide +kernel) rfl rfl (Nat.le_of_ble_eq_true rfl) dX7_init_9 (fun H locs hP hD hS => ?_)
  have hP : va_P (dC, dI) vwCl [(a0, .inr (7, [.int 0, .int 0, .int 0, .int 0, .int 0, .int 0, .int 0, .int 0, .int 0, .int 0, .int 0, .int 0, .ref a_1])), (a_1, .inl (cy 0, 11, .inl ((fun _ => 0))))] _ := hP
  have hD : va_D A [(a0, .inr (7, [.int 0, .int 0, .int 0, .int 0, .int 0, .int 0, .int 0, .int 0, .int 0, .int 0, .int 0, .int 0, .ref a_1])), (a_1, .inl (cy 0, 11, .inl ((fun _ => 0))))] := hD
  refine W.widen (k := 1) (n := 11) (Nat.le_of_ble_eq_true rfl) (Nat.le_of_ble_eq_true rfl) ?_
  have hP9 := hP.sub (ws' := [(a0, .inr (7, [.int 0, .int 0, .int 0, .int 0, .int 0, .int 0, .int 0, .int 0, .int 0, .int 0, .int 0, .int 0, .ref a_1])), (a_1, .inl (cy 0, 11, .inl ((fun _ => 0))))]) [0, 1] rfl
  have hD9 := hD.sub (ws' := [(a0, .inr (7, [.int 0, .int 0, .int 0, .int 0, .int 0, .int 0, .int 0, .int 0, .int 0, .int 0, .int 0, .int 0, .ref a_1])), (a_1, .inl (cy 0, 11, .inl ((fun _ => 0))))]) [0, 1] (by decide) rfl
  exact W.vret hx hb hr (fun t ht hW => ⟨⟨(), rfl, trivial, ⟨a_1, by rw [ht]; exact hP9, hD9⟩⟩, hS.F ht⟩) hS.2.2 dX7_init_12
set_option maxRecDepth 100000 in
set_option maxHeartbeats 4000000 in
/-- k_Signal -/
theorem k_Signal (l : Launch) (dC : Nat → ClassId) (dI : Nat → Nat → Nat) (cy : Nat → ClassId) (a0 : Nat) (sz : Nat) : Met l yX4_init (tp_w yX4_init cX4_init 1 none) ({ frames := 1, cells := 3, slots := 12, locals := 12 }) (va_Pc [.ref a0] (mPre dC dI cy (cw [(a0, .inr (4, [.null, .null, .null, .int 0, .int 0, .int 0]))]) sz)) (va_Qv (fun _ : Unit => True) (fun (_ : Unit) (t : State) => ∃ (q1 : Nat), ∃ (q2 : Nat), ∃ (q3 : Nat), kPost dC dI (va_A [(a0, .inr (4, [.null, .null, .null, .int 0, .int 0, .int 0]))] sz) [(a0, .inr (4, [.ref q1, .ref q2, .ref q3, .int 0, .int ((-1)), .int 0])), (q1, .inl (cy 0, 4, .inl ((fun _ => 0)))), (q2, .inl (cy 0, 4, .inl ((fun _ => 0)))), (q3, .inl (cy 0, 4, .inl ((fun _ => 0))))] t) (va_A [(a0, .inr (4, [.null, .null, .null, .int 0, .int 0, .int 0]))] sz)) 3 12 (va_A [(a0, .inr (4, [.null, .null, .null, .int 0, .int 0, .int 0]))] sz) := by
  refine Met.ofW (cc := cX4_init) (maxL := 1) (ret := none) (by decide) rfl ?_
  intro p e s m args below meth c s₁ B hml hv
  obtain ⟨rfl, hsz, hM, hK, hE⟩ := hv
  have hx := B.exec
  have hb := B.bytes
  have hr := B.returns
  have hts0 := atoms_spec (ws := tp_w yX4_init cX4_init 1 none) B.pre
  have hts : ∀ w ∈ tp_all, w.before _ s = true := fun w h => hts0 w (List.mem_cons_of_mem _ h)
  have hown : s.vm.findClass RX4 = some m.cls := findClass_of_methodNamed B.named
  have hlocks := B.notSynchronized
  have hin : meth.name = "<init>" := (name_of_methodNamed B.named B.method).1
  subst hsz
  have hP : va_P (dC, dI) vwCl [(a0, .inr (4, [.null, .null, .null, .int 0, .int 0, .int 0]))] s.heap := cw_P hM
  have hD : va_D (va_A [(a0, .inr (4, [.null, .null, .null, .int 0, .int 0, .int 0]))] s.heap.size) [(a0, .inr (4, [.null, .null, .null, .int 0, .int 0, .int 0]))] := cw_D1
  generalize hAe : va_A [(a0, .inr (4, [.null, .null, .null, .int 0, .int 0, .int 0]))] s.heap.size = A at hD ⊢
  have hA : ∀ q : Nat, s.heap.size ≤ q → A q := fun q h => by rw [← hAe]; exact Or.inr h
  have hS : va_S A s.heap s.heap [] := va_S.rf
  have hl9 := lv_entry ([.ref a0]) (n := 1) (Nat.le_of_ble_eq_true rfl)
  rw [lg_entry_eq]
  generalize (lg_sl ([.ref a0]) ++ List.replicate (1 - (lg_sl ([.ref a0])).length) Slot.unset).toArray = ls at hl9 ⊢
  have hl : lv_has ls 1 [(0, .ref a0)] := hl9
  refine lv_aload_n hx hb dX4_init_0 rfl (lv_at hl 0 rfl) ?_
  refine W.objInit hx hb hown (hts _ tw_734) (hts _ tw_74) (hts _ tw_75) rfl (by rw [hml]; exact hl.1) rfl dX4_init_1 (Nat.le_of_ble_eq_true rfl) (Nat.le_of_ble_eq_true rfl) ?_
  refine W.eq (g2 := F0 m 4 ls []) rfl ?_
  refine lv_aload_n hx hb dX4_init_4 rfl (lv_at hl 0 rfl) ?_
  refine lv_iconst (v := 4) hx hb dX4_init_5 (by decide) ?_
  refine va_newa hx hb (atype := .int) (hts _ tw_623) (ty := .int) rfl hK hP hD hS hA (a0 := (4, .inl (fun _ => 0))) (N' := 4) (fun _ => rfl) (by decide) (by decide) (Nat.le_of_ble_eq_true rfl) (Nat.le_of_ble_eq_true rfl) (Nat.le_of_ble_eq_true rfl) dX4_init_6 (fun a_1 k_2 H hK9 hP hD hS => ?_)
  obtain rfl : k_2 = cy 0 := tp_one hK9 11 0 rfl rfl
  have hP : va_P (dC, dI) vwCl [(a0, .inr (4, [.null, .null, .null, .int 0, .int 0, .int 0])), (a_1, .inl (cy 0, 4, .inl ((fun _ => 0))))] _ := hP
  have hD : va_D A [(a0, .inr (4, [.null, .null, .null, .int 0, .int 0, .int 0])), (a_1, .inl (cy 0, 4, .inl ((fun _ => 0))))] := hD
  refine va_putF (D := (dC, dI)) (ci := 4) (v := .ref a_1) (ty := (.array .int)) (C := RX4) (T := TX4) (N := 6) hx hb hts tl_X4 tyX4 tyX4_ok nmX4 hown hK hP hD hS 0 rfl rfl 0 (by decide) (hts _ tw_735) (fun _ h9 => h9) rfl hin rfl (by decide +kernel) rfl rfl (Nat.le_of_ble_eq_true rfl) dX4_init_8 (fun H locs hP hD hS => ?_)
  have hP : va_P (dC, dI) vwCl [(a0, .inr (4, [.ref a_1, .null, .null, .int 0, .int 0, .int 0])), (a_1, .inl (cy 0, 4, .inl ((fun _ => 0))))] _ := hP
  have hD : va_D A [(a0, .inr (4, [.ref a_1, .null, .null, .int 0, .int 0, .int 0])), (a_1, .inl (cy 0, 4, .inl ((fun _ => 0))))] := hD
  refine lv_aload_n hx hb dX4_init_11 rfl (lv_at hl 0 rfl) ?_
  refine lv_iconst (v := 4) hx hb dX4_init_12 (by decide) ?_
  refine va_newa hx hb (atype := .int) (hts _ tw_623) (ty := .int) rfl hK hP hD hS hA (a0 := (4, .inl (fun _ => 0))) (N' := 4) (fun _ => rfl) (by decide) (by decide) (Nat.le_of_ble_eq_true rfl) (Nat.le_of_ble_eq_true rfl) (Nat.le_of_ble_eq_true rfl) dX4_init_13 (fun a_3 k_4 H hK9 hP hD hS => ?_)
  obtain rfl : k_4 = cy 0 := tp_one hK9 11 0 rfl rfl
  have hP : va_P (dC, dI) vwCl [(a0, .inr (4, [.ref a_1, .null, .null, .int 0, .int 0, .int 0])), (a_1, .inl (cy 0, 4, .inl ((fun _ => 0)))), (a_3, .inl (cy 0, 4, .inl ((fun _ => 0))))] _ := hP
  have hD : va_D A [(a0, .inr (4, [.ref a_1, .null, .null, .int 0, .int 0, .int 0])), (a_1, .inl (cy 0, 4, .inl ((fun _ => 0)))), (a_3, .inl (cy 0, 4, .inl ((fun _ => 0))))] := hD
  refine va_putF (D := (dC, dI)) (ci := 4) (v := .ref a_3) (ty := (.array .int)) (C := RX4) (T := TX4) (N := 6) hx hb hts tl_X4 tyX4 tyX4_ok nmX4 hown hK hP hD hS 0 rfl rfl 1 (by decide) (hts _ tw_736) (fun _ h9 => h9) rfl hin rfl (by decide +kernel) rfl rfl (Nat.le_of_ble_eq_true rfl) dX4_init_15 (fun H locs hP hD hS => ?_)
  have hP : va_P (dC, dI) vwCl [(a0, .inr (4, [.ref a_1, .ref a_3, .null, .int 0, .int 0, .int 0])), (a_1, .inl (cy 0, 4, .inl ((fun _ => 0)))), (a_3, .inl (cy 0, 4, .inl ((fun _ => 0))))] _ := hP
  have hD : va_D A [(a0, .inr (4, [.ref a_1, .ref a_3, .null, .int 0, .int 0, .int 0])), (a_1, .inl (cy 0, 4, .inl ((fun _ => 0)))), (a_3, .inl (cy 0, 4, .inl ((fun _ => 0))))] := hD
  refine lv_aload_n hx hb dX4_init_18 rfl (lv_at hl 0 rfl) ?_
  refine lv_iconst (v := 4) hx hb dX4_init_19 (by decide) ?_
  refine va_newa hx hb (atype := .int) (hts _ tw_623) (ty := .int) rfl hK hP hD hS hA (a0 := (4, .inl (fun _ => 0))) (N' := 4) (fun _ => rfl) (by decide) (by decide) (Nat.le_of_ble_eq_true rfl) (Nat.le_of_ble_eq_true rfl) (Nat.le_of_ble_eq_true rfl) dX4_init_20 (fun a_5 k_6 H hK9 hP hD hS => ?_)
  obtain rfl : k_6 = cy 0 := tp_one hK9 11 0 rfl rfl
  have hP : va_P (dC, dI) vwCl [(a0, .inr (4, [.ref a_1, .ref a_3, .null, .int 0, .int 0, .int 0])), (a_1, .inl (cy 0, 4, .inl ((fun _ => 0)))), (a_3, .inl (cy 0, 4, .inl ((fun _ => 0)))), (a_5, .inl (cy 0, 4, .inl ((fun _ => 0))))] _ := hP
  have hD : va_D A [(a0, .inr (4, [.ref a_1, .ref a_3, .null, .int 0, .int 0, .int 0])), (a_1, .inl (cy 0, 4, .inl ((fun _ => 0)))), (a_3, .inl (cy 0, 4, .inl ((fun _ => 0)))), (a_5, .inl (cy 0, 4, .inl ((fun _ => 0))))] := hD
  refine va_putF (D := (dC, dI)) (ci := 4) (v := .ref a_5) (ty := (.array .int)) (C := RX4) (T := TX4) (N := 6) hx hb hts tl_X4 tyX4 tyX4_ok nmX4 hown hK hP hD hS 0 rfl rfl 2 (by decide) (hts _ tw_737) (fun _ h9 => h9) rfl hin rfl (by decide +kernel) rfl rfl (Nat.le_of_ble_eq_true rfl) dX4_init_22 (fun H locs hP hD hS => ?_)
  have hP : va_P (dC, dI) vwCl [(a0, .inr (4, [.ref a_1, .ref a_3, .ref a_5, .int 0, .int 0, .int 0])), (a_1, .inl (cy 0, 4, .inl ((fun _ => 0)))), (a_3, .inl (cy 0, 4, .inl ((fun _ => 0)))), (a_5, .inl (cy 0, 4, .inl ((fun _ => 0))))] _ := hP
  have hD : va_D A [(a0, .inr (4, [.ref a_1, .ref a_3, .ref a_5, .int 0, .int 0, .int 0])), (a_1, .inl (cy 0, 4, .inl ((fun _ => 0)))), (a_3, .inl (cy 0, 4, .inl ((fun _ => 0)))), (a_5, .inl (cy 0, 4, .inl ((fun _ => 0))))] := hD
  refine lv_aload_n hx hb dX4_init_25 rfl (lv_at hl 0 rfl) ?_
  refine lv_iconst (v := -1) hx hb dX4_init_26 (by decide) ?_
  refine va_put (D := (dC, dI)) (ci := 4) (v := .int ((-1))) (ty := .int) (C := RX4) (T := TX4) (N := 6) hx hb hts tl_X4 tyX4 tyX4_ok nmX4 hown hK hP hD hS 0 rfl rfl 4 (by decide) (hts _ tw_741) (fun _ h9 => h9) rfl (by decide +kernel) rfl rfl (Nat.le_of_ble_eq_true rfl) dX4_init_27 (fun H locs hP hD hS => ?_)
  have hP : va_P (dC, dI) vwCl [(a0, .inr (4, [.ref a_1, .ref a_3, .ref a_5, .int 0, .int ((-1)), .int 0])), (a_1, .inl (cy 0, 4, .inl ((fun _ => 0)))), (a_3, .inl (cy 0, 4, .inl ((fun _ => 0)))), (a_5, .inl (cy 0, 4, .inl ((fun _ => 0))))] _ := hP
  have hD : va_D A [(a0, .inr (4, [.ref a_1, .ref a_3, .ref a_5, .int 0, .int ((-1)), .int 0])), (a_1, .inl (cy 0, 4, .inl ((fun _ => 0)))), (a_3, .inl (cy 0, 4, .inl ((fun _ => 0)))), (a_5, .inl (cy 0, 4, .inl ((fun _ => 0))))] := hD
  refine W.widen (k := 3) (n := 12) (Nat.le_of_ble_eq_true rfl) (Nat.le_of_ble_eq_true rfl) ?_
  have hP9 := hP.sub (ws' := [(a0, .inr (4, [.ref a_1, .ref a_3, .ref a_5, .int 0, .int ((-1)), .int 0])), (a_1, .inl (cy 0, 4, .inl ((fun _ => 0)))), (a_3, .inl (cy 0, 4, .inl ((fun _ => 0)))), (a_5, .inl (cy 0, 4, .inl ((fun _ => 0))))]) [0, 1, 2, 3] rfl
  have hD9 := hD.sub (ws' := [(a0, .inr (4, [.ref a_1, .ref a_3, .ref a_5, .int 0, .int ((-1)), .int 0])), (a_1, .inl (cy 0, 4, .inl ((fun _ => 0)))), (a_3, .inl (cy 0, 4, .inl ((fun _ => 0)))), (a_5, .inl (cy 0, 4, .inl ((fun _ => 0))))]) [0, 1, 2, 3] (by decide) rfl
  exact W.vret hx hb hr (fun t ht hW => ⟨⟨(), rfl, trivial, ⟨a_1, a_3, a_5, by rw [ht]; exact hP9, hD9⟩⟩, hS.F ht⟩) hS.2.2 dX4_init_30
set_option maxRecDepth 100000 in
set_option maxHeartbeats 4000000 in
/-- k_Link -/
theorem k_Link (l : Launch) (dC : Nat → ClassId) (dI : Nat → Nat → Nat) (cy : Nat → ClassId) (a0 : Nat) (sz : Nat) : Met l yX1_init (tp_w yX1_init cX1_init 1 none) ({ frames := 2, cells := 5, slots := 88, locals := 35 }) (va_Pc [.ref a0] (mPre dC dI cy (cw [(a0, .inr (1, [.int 0, .int 0, .int 0, .int 0, .int 0, .int 0, .int 0, .int 0, .int 0, .null, .null, .int 0, .int 0, .int 0, .int 0, .null]))]) sz)) (va_Qv (fun _ : Unit => True) (fun (_ : Unit) (t : State) => ∃ (q1 : Nat), ∃ (q2 : Nat), ∃ (q3 : Nat), ∃ (q4 : Nat), ∃ (q5 : Nat), kPost dC dI (va_A [(a0, .inr (1, [.int 0, .int 0, .int 0, .int 0, .int 0, .int 0, .int 0, .int 0, .int 0, .null, .null, .int 0, .int 0, .int 0, .int 0, .null]))] sz) [(a0, .inr (1, [.int 0, .int 0, .int 0, .int 0, .int 0, .int 0, .int ((-1)), .int 0, .int 0, .ref q1, .ref q2, .int 0, .int 0, .int 0, .int 0, .ref q3])), (q1, .inr (3, [.ref q4, .int 0])), (q4, .inl (cy 0, 30, .inl ((fun _ => 0)))), (q2, .inr (3, [.ref q5, .int 0])), (q5, .inl (cy 0, 30, .inl ((fun _ => 0)))), (q3, .inl (cy 0, 24, .inl ((fun _ => 0))))] t) (va_A [(a0, .inr (1, [.int 0, .int 0, .int 0, .int 0, .int 0, .int 0, .int 0, .int 0, .int 0, .null, .null, .int 0, .int 0, .int 0, .int 0, .null]))] sz)) 5 88 (va_A [(a0, .inr (1, [.int 0, .int 0, .int 0, .int 0, .int 0, .int 0, .int 0, .int 0, .int 0, .null, .null, .int 0, .int 0, .int 0, .int 0, .null]))] sz) := by
  refine Met.ofW (cc := cX1_init) (maxL := 1) (ret := none) (by decide) rfl ?_
  intro p e s m args below meth c s₁ B hml hv
  obtain ⟨rfl, hsz, hM, hK, hE⟩ := hv
  have hx := B.exec
  have hb := B.bytes
  have hr := B.returns
  have hts0 := atoms_spec (ws := tp_w yX1_init cX1_init 1 none) B.pre
  have hts : ∀ w ∈ tp_all, w.before _ s = true := fun w h => hts0 w (List.mem_cons_of_mem _ h)
  have hown : s.vm.findClass RX1 = some m.cls := findClass_of_methodNamed B.named
  have hlocks := B.notSynchronized
  have hin : meth.name = "<init>" := (name_of_methodNamed B.named B.method).1
  subst hsz
  have hP : va_P (dC, dI) vwCl [(a0, .inr (1, [.int 0, .int 0, .int 0, .int 0, .int 0, .int 0, .int 0, .int 0, .int 0, .null, .null, .int 0, .int 0, .int 0, .int 0, .null]))] s.heap := cw_P hM
  have hD : va_D (va_A [(a0, .inr (1, [.int 0, .int 0, .int 0, .int 0, .int 0, .int 0, .int 0, .int 0, .int 0, .null, .null, .int 0, .int 0, .int 0, .int 0, .null]))] s.heap.size) [(a0, .inr (1, [.int 0, .int 0, .int 0, .int 0, .int 0, .int 0, .int 0, .int 0, .int 0, .null, .null, .int 0, .int 0, .int 0, .int 0, .null]))] := cw_D1
  generalize hAe : va_A [(a0, .inr (1, [.int 0, .int 0, .int 0, .int 0, .int 0, .int 0, .int 0, .int 0, .int 0, .null, .null, .int 0, .int 0, .int 0, .int 0, .null]))] s.heap.size = A at hD ⊢
  have hA : ∀ q : Nat, s.heap.size ≤ q → A q := fun q h => by rw [← hAe]; exact Or.inr h
  have hS : va_S A s.heap s.heap [] := va_S.rf
  have hl9 := lv_entry ([.ref a0]) (n := 1) (Nat.le_of_ble_eq_true rfl)
  rw [lg_entry_eq]
  generalize (lg_sl ([.ref a0]) ++ List.replicate (1 - (lg_sl ([.ref a0])).length) Slot.unset).toArray = ls at hl9 ⊢
  have hl : lv_has ls 1 [(0, .ref a0)] := hl9
  refine lv_aload_n hx hb dX1_init_0 rfl (lv_at hl 0 rfl) ?_
  refine W.objInit hx hb hown (hts _ tw_606) (hts _ tw_74) (hts _ tw_75) rfl (by rw [hml]; exact hl.1) rfl dX1_init_1 (Nat.le_of_ble_eq_true rfl) (Nat.le_of_ble_eq_true rfl) ?_
  refine W.eq (g2 := F0 m 4 ls []) rfl ?_
  refine lv_aload_n hx hb dX1_init_4 rfl (lv_at hl 0 rfl) ?_
  refine lv_iconst (v := -1) hx hb dX1_init_5 (by decide) ?_
  refine va_put (D := (dC, dI)) (ci := 1) (v := .int ((-1))) (ty := .int) (C := RX1) (T := TX1) (N := 16) hx hb hts tl_X1 tyX1 tyX1_ok nmX1 hown hK hP hD hS 0 rfl rfl 6 (by decide) (hts _ tw_640) (fun _ h9 => h9) rfl (by decide +kernel) rfl rfl (Nat.le_of_ble_eq_true rfl) dX1_init_6 (fun H locs hP hD hS => ?_)
  have hP : va_P (dC, dI) vwCl [(a0, .inr (1, [.int 0, .int 0, .int 0, .int 0, .int 0, .int 0, .int ((-1)), .int 0, .int 0, .null, .null, .int 0, .int 0, .int 0, .int 0, .null]))] _ := hP
  have hD : va_D A [(a0, .inr (1, [.int 0, .int 0, .int 0, .int 0, .int 0, .int 0, .int ((-1)), .int 0, .int 0, .null, .null, .int 0, .int 0, .int 0, .int 0, .null]))] := hD
  refine lv_aload_n hx hb dX1_init_9 rfl (lv_at hl 0 rfl) ?_
  have h8_a_1 : tp_dv 2 tyX3 [.null, .int 0] = true := by decide +kernel
  refine va_new (ci := 3) (fs := [.null, .int 0]) (C := RX3) (T := TX3) (N := 2) hx hb hts tl_X3 tyX3 tyX3_ok hown (hts _ tw_607) (hts _ tw_608) (hts _ tw_24) hK hP hD hS hA rfl (fun j hj => by exact tp_dv_ok h8_a_1 j hj) (Nat.le_of_ble_eq_true rfl) (Nat.le_of_ble_eq_true rfl) dX1_init_10 (fun a_1 H hP hD hS => ?_)
  have hP : va_P (dC, dI) vwCl [(a0, .inr (1, [.int 0, .int 0, .int 0, .int 0, .int 0, .int 0, .int ((-1)), .int 0, .int 0, .null, .null, .int 0, .int 0, .int 0, .int 0, .null])), (a_1, .inr (3, [.null, .int 0]))] _ := hP
  have hD : va_D A [(a0, .inr (1, [.int 0, .int 0, .int 0, .int 0, .int 0, .int 0, .int ((-1)), .int 0, .int 0, .null, .null, .int 0, .int 0, .int 0, .int 0, .null])), (a_1, .inr (3, [.null, .int 0]))] := hD
  refine lv_dup hx hb dX1_init_13 rfl ?_
  refine lv_bipush (v := 30) hx hb dX1_init_14 (by decide) ?_
  have hFc := va_free (wc := [(a_1, .inr (3, [.null, .int 0]))]) hD hS hA [1] rfl
  refine va_callv (va_runI (As := [.int 30]) (rest := [.ref a_1, .ref a0]) ⟨hx, hb, hml, hown, hts⟩ (k_Row_30 l dC dI cy a_1 H.size) (tp_cwI 1 hts tw_609 tw_610 tw_24 tw_611 rfl rfl rfl (by decide +kernel) ⟨Nat.le_of_ble_eq_true rfl, Nat.le_of_ble_eq_true rfl⟩) ⟨m_blind, fun U hU hW => ⟨rfl, k_pay (wc := [(a_1, .inr (3, [.null, .int 0]))]) hK hP hD hE (fun q hq => by rw [List.mem_singleton.mp hq]; exact List.mem_of_getElem? (i := 1) rfl) U hU hW⟩⟩ rfl rfl hl.1 rfl (lv_room (Nat.le_of_ble_eq_true rfl)) dX1_init_16 ⟨(Nat.le_of_ble_eq_true rfl), (Nat.le_of_ble_eq_true rfl)⟩) hS (fun q _ h => hFc q h) hFc (fun u t H1 locs ht hvm hw hB hz1 hk1 hS => ?_)
  obtain ⟨z_3, hP1, hD1⟩ := hB
  rw [ht] at hP1
  obtain ⟨hP, hD⟩ := va_join (wr := [(a0, .inr (1, [.int 0, .int 0, .int 0, .int 0, .int 0, .int 0, .int ((-1)), .int 0, .int 0, .null, .null, .int 0, .int 0, .int 0, .int 0, .null]))]) (w1 := [(a_1, .inr (3, [.ref z_3, .int 0])), (z_3, .inl (cy 0, 30, .inl ((fun _ => 0))))]) hP hD [1] [0] rfl rfl (by decide) (by decide) hk1 hFc hP1 hD1
  generalize H1 = H at hP hS ⊢
  have hP : va_P (dC, dI) vwCl [(a0, .inr (1, [.int 0, .int 0, .int 0, .int 0, .int 0, .int 0, .int ((-1)), .int 0, .int 0, .null, .null, .int 0, .int 0, .int 0, .int 0, .null])), (a_1, .inr (3, [.ref z_3, .int 0])), (z_3, .inl (cy 0, 30, .inl ((fun _ => 0))))] _ := hP
  have hD : va_D A [(a0, .inr (1, [.int 0, .int 0, .int 0, .int 0, .int 0, .int 0, .int ((-1)), .int 0, .int 0, .null, .null, .int 0, .int 0, .int 0, .int 0, .null])), (a_1, .inr (3, [.ref z_3, .int 0])), (z_3, .inl (cy 0, 30, .inl ((fun _ => 0))))] := hD
  refine va_putF (D := (dC, dI)) (ci := 1) (v := .ref a_1) (ty := (.object "Turnpike$Row")) (C := RX1) (T := TX1) (N := 16) hx hb hts tl_X1 tyX1 tyX1_ok nmX1 hown hK hP hD hS 0 rfl rfl 9 (by decide) (hts _ tw_648) (fun _ h9 => h9) rfl hin rfl (by decide +kernel) rfl rfl (Nat.le_of_ble_eq_true rfl) dX1_init_19 (fun H locs hP hD hS => ?_)
  have hP : va_P (dC, dI) vwCl [(a0, .inr (1, [.int 0, .int 0, .int 0, .int 0, .int 0, .int 0, .int ((-1)), .int 0, .int 0, .ref a_1, .null, .int 0, .int 0, .int 0, .int 0, .null])), (a_1, .inr (3, [.ref z_3, .int 0])), (z_3, .inl (cy 0, 30, .inl ((fun _ => 0))))] _ := hP
  have hD : va_D A [(a0, .inr (1, [.int 0, .int 0, .int 0, .int 0, .int 0, .int 0, .int ((-1)), .int 0, .int 0, .ref a_1, .null, .int 0, .int 0, .int 0, .int 0, .null])), (a_1, .inr (3, [.ref z_3, .int 0])), (z_3, .inl (cy 0, 30, .inl ((fun _ => 0))))] := hD
  refine lv_aload_n hx hb dX1_init_22 rfl (lv_at hl 0 rfl) ?_
  have h8_a_4 : tp_dv 2 tyX3 [.null, .int 0] = true := by decide +kernel
  refine va_new (ci := 3) (fs := [.null, .int 0]) (C := RX3) (T := TX3) (N := 2) hx hb hts tl_X3 tyX3 tyX3_ok hown (hts _ tw_607) (hts _ tw_608) (hts _ tw_24) hK hP hD hS hA rfl (fun j hj => by exact tp_dv_ok h8_a_4 j hj) (Nat.le_of_ble_eq_true rfl) (Nat.le_of_ble_eq_true rfl) dX1_init_23 (fun a_4 H hP hD hS => ?_)
  have hP : va_P (dC, dI) vwCl [(a0, .inr (1, [.int 0, .int 0, .int 0, .int 0, .int 0, .int 0, .int ((-1)), .int 0, .int 0, .ref a_1, .null, .int 0, .int 0, .int 0, .int 0, .null])), (a_1, .inr (3, [.ref z_3, .int 0])), (z_3, .inl (cy 0, 30, .inl ((fun _ => 0)))), (a_4, .inr (3, [.null, .int 0]))] _ := hP
  have hD : va_D A [(a0, .inr (1, [.int 0, .int 0, .int 0, .int 0, .int 0, .int 0, .int ((-1)), .int 0, .int 0, .ref a_1, .null, .int 0, .int 0, .int 0, .int 0, .null])), (a_1, .inr (3, [.ref z_3, .int 0])), (z_3, .inl (cy 0, 30, .inl ((fun _ => 0)))), (a_4, .inr (3, [.null, .int 0]))] := hD
  refine lv_dup hx hb dX1_init_26 rfl ?_
  refine lv_bipush (v := 30) hx hb dX1_init_27 (by decide) ?_
  have hFc := va_free (wc := [(a_4, .inr (3, [.null, .int 0]))]) hD hS hA [3] rfl
  refine va_callv (va_runI (As := [.int 30]) (rest := [.ref a_4, .ref a0]) ⟨hx, hb, hml, hown, hts⟩ (k_Row_30 l dC dI cy a_4 H.size) (tp_cwI 1 hts tw_609 tw_610 tw_24 tw_611 rfl rfl rfl (by decide +kernel) ⟨Nat.le_of_ble_eq_true rfl, Nat.le_of_ble_eq_true rfl⟩) ⟨m_blind, fun U hU hW => ⟨rfl, k_pay (wc := [(a_4, .inr (3, [.null, .int 0]))]) hK hP hD hE (fun q hq => by rw [List.mem_singleton.mp hq]; exact List.mem_of_getElem? (i := 3) rfl) U hU hW⟩⟩ rfl rfl hl.1 rfl (lv_room (Nat.le_of_ble_eq_true rfl)) dX1_init_29 ⟨(Nat.le_of_ble_eq_true rfl), (Nat.le_of_ble_eq_true rfl)⟩) hS (fun q _ h => hFc q h) hFc (fun u t H1 locs ht hvm hw hB hz1 hk1 hS => ?_)
  obtain ⟨z_6, hP1, hD1⟩ := hB
  rw [ht] at hP1
  obtain ⟨hP, hD⟩ := va_join (wr := [(a0, .inr (1, [.int 0, .int 0, .int 0, .int 0, .int 0, .int 0, .int ((-1)), .int 0, .int 0, .ref a_1, .null, .int 0, .int 0, .int 0, .int 0, .null])), (a_1, .inr (3, [.ref z_3, .int 0])), (z_3, .inl (cy 0, 30, .inl ((fun _ => 0))))]) (w1 := [(a_4, .inr (3, [.ref z_6, .int 0])), (z_6, .inl (cy 0, 30, .inl ((fun _ => 0))))]) hP hD [3] [0, 1, 2] rfl rfl (by decide) (by decide) hk1 hFc hP1 hD1
  generalize H1 = H at hP hS ⊢
  have hP : va_P (dC, dI) vwCl [(a0, .inr (1, [.int 0, .int 0, .int 0, .int 0, .int 0, .int 0, .int ((-1)), .int 0, .int 0, .ref a_1, .null, .int 0, .int 0, .int 0, .int 0, .null])), (a_1, .inr (3, [.ref z_3, .int 0])), (z_3, .inl (cy 0, 30, .inl ((fun _ => 0)))), (a_4, .inr (3, [.ref z_6, .int 0])), (z_6, .inl (cy 0, 30, .inl ((fun _ => 0))))] _ := hP
  have hD : va_D A [(a0, .inr (1, [.int 0, .int 0, .int 0, .int 0, .int 0, .int 0, .int ((-1)), .int 0, .int 0, .ref a_1, .null, .int 0, .int 0, .int 0, .int 0, .null])), (a_1, .inr (3, [.ref z_3, .int 0])), (z_3, .inl (cy 0, 30, .inl ((fun _ => 0)))), (a_4, .inr (3, [.ref z_6, .int 0])), (z_6, .inl (cy 0, 30, .inl ((fun _ => 0))))] := hD
  refine va_putF (D := (dC, dI)) (ci := 1) (v := .ref a_4) (ty := (.object "Turnpike$Row")) (C := RX1) (T := TX1) (N := 16) hx hb hts tl_X1 tyX1 tyX1_ok nmX1 hown hK hP hD hS 0 rfl rfl 10 (by decide) (hts _ tw_651) (fun _ h9 => h9) rfl hin rfl (by decide +kernel) rfl rfl (Nat.le_of_ble_eq_true rfl) dX1_init_32 (fun H locs hP hD hS => ?_)
  have hP : va_P (dC, dI) vwCl [(a0, .inr (1, [.int 0, .int 0, .int 0, .int 0, .int 0, .int 0, .int ((-1)), .int 0, .int 0, .ref a_1, .ref a_4, .int 0, .int 0, .int 0, .int 0, .null])), (a_1, .inr (3, [.ref z_3, .int 0])), (z_3, .inl (cy 0, 30, .inl ((fun _ => 0)))), (a_4, .inr (3, [.ref z_6, .int 0])), (z_6, .inl (cy 0, 30, .inl ((fun _ => 0))))] _ := hP
  have hD : va_D A [(a0, .inr (1, [.int 0, .int 0, .int 0, .int 0, .int 0, .int 0, .int ((-1)), .int 0, .int 0, .ref a_1, .ref a_4, .int 0, .int 0, .int 0, .int 0, .null])), (a_1, .inr (3, [.ref z_3, .int 0])), (z_3, .inl (cy 0, 30, .inl ((fun _ => 0)))), (a_4, .inr (3, [.ref z_6, .int 0])), (z_6, .inl (cy 0, 30, .inl ((fun _ => 0))))] := hD
  refine lv_aload_n hx hb dX1_init_35 rfl (lv_at hl 0 rfl) ?_
  refine lv_bipush (v := 24) hx hb dX1_init_36 (by decide) ?_
  refine va_newa hx hb (atype := .int) (hts _ tw_623) (ty := .int) rfl hK hP hD hS hA (a0 := (24, .inl (fun _ => 0))) (N' := 24) (fun _ => rfl) (by decide) (by decide) (Nat.le_of_ble_eq_true rfl) (Nat.le_of_ble_eq_true rfl) (Nat.le_of_ble_eq_true rfl) dX1_init_38 (fun a_7 k_8 H hK9 hP hD hS => ?_)
  obtain rfl : k_8 = cy 0 := tp_one hK9 11 0 rfl rfl
  have hP : va_P (dC, dI) vwCl [(a0, .inr (1, [.int 0, .int 0, .int 0, .int 0, .int 0, .int 0, .int ((-1)), .int 0, .int 0, .ref a_1, .ref a_4, .int 0, .int 0, .int 0, .int 0, .null])), (a_1, .inr (3, [.ref z_3, .int 0])), (z_3, .inl (cy 0, 30, .inl ((fun _ => 0)))), (a_4, .inr (3, [.ref z_6, .int 0])), (z_6, .inl (cy 0, 30, .inl ((fun _ => 0)))), (a_7, .inl (cy 0, 24, .inl ((fun _ => 0))))] _ := hP
  have hD : va_D A [(a0, .inr (1, [.int 0, .int 0, .int 0, .int 0, .int 0, .int 0, .int ((-1)), .int 0, .int 0, .ref a_1, .ref a_4, .int 0, .int 0, .int 0, .int 0, .null])), (a_1, .inr (3, [.ref z_3, .int 0])), (z_3, .inl (cy 0, 30, .inl ((fun _ => 0)))), (a_4, .inr (3, [.ref z_6, .int 0])), (z_6, .inl (cy 0, 30, .inl ((fun _ => 0)))), (a_7, .inl (cy 0, 24, .inl ((fun _ => 0))))] := hD
  refine va_putF (D := (dC, dI)) (ci := 1) (v := .ref a_7) (ty := (.array .int)) (C := RX1) (T := TX1) (N := 16) hx hb hts tl_X1 tyX1 tyX1_ok nmX1 hown hK hP hD hS 0 rfl rfl 15 (by decide) (hts _ tw_660) (fun _ h9 => h9) rfl hin rfl (by decide +kernel) rfl rfl (Nat.le_of_ble_eq_true rfl) dX1_init_40 (fun H locs hP hD hS => ?_)
  have hP : va_P (dC, dI) vwCl [(a0, .inr (1, [.int 0, .int 0, .int 0, .int 0, .int 0, .int 0, .int ((-1)), .int 0, .int 0, .ref a_1, .ref a_4, .int 0, .int 0, .int 0, .int 0, .ref a_7])), (a_1, .inr (3, [.ref z_3, .int 0])), (z_3, .inl (cy 0, 30, .inl ((fun _ => 0)))), (a_4, .inr (3, [.ref z_6, .int 0])), (z_6, .inl (cy 0, 30, .inl ((fun _ => 0)))), (a_7, .inl (cy 0, 24, .inl ((fun _ => 0))))] _ := hP
  have hD : va_D A [(a0, .inr (1, [.int 0, .int 0, .int 0, .int 0, .int 0, .int 0, .int ((-1)), .int 0, .int 0, .ref a_1, .ref a_4, .int 0, .int 0, .int 0, .int 0, .ref a_7])), (a_1, .inr (3, [.ref z_3, .int 0])), (z_3, .inl (cy 0, 30, .inl ((fun _ => 0)))), (a_4, .inr (3, [.ref z_6, .int 0])), (z_6, .inl (cy 0, 30, .inl ((fun _ => 0)))), (a_7, .inl (cy 0, 24, .inl ((fun _ => 0))))] := hD
  refine W.widen (k := 5) (n := 88) (Nat.le_of_ble_eq_true rfl) (Nat.le_of_ble_eq_true rfl) ?_
  have hP9 := hP.sub (ws' := [(a0, .inr (1, [.int 0, .int 0, .int 0, .int 0, .int 0, .int 0, .int ((-1)), .int 0, .int 0, .ref a_1, .ref a_4, .int 0, .int 0, .int 0, .int 0, .ref a_7])), (a_1, .inr (3, [.ref z_3, .int 0])), (z_3, .inl (cy 0, 30, .inl ((fun _ => 0)))), (a_4, .inr (3, [.ref z_6, .int 0])), (z_6, .inl (cy 0, 30, .inl ((fun _ => 0)))), (a_7, .inl (cy 0, 24, .inl ((fun _ => 0))))]) [0, 1, 2, 3, 4, 5] rfl
  have hD9 := hD.sub (ws' := [(a0, .inr (1, [.int 0, .int 0, .int 0, .int 0, .int 0, .int 0, .int ((-1)), .int 0, .int 0, .ref a_1, .ref a_4, .int 0, .int 0, .int 0, .int 0, .ref a_7])), (a_1, .inr (3, [.ref z_3, .int 0])), (z_3, .inl (cy 0, 30, .inl ((fun _ => 0)))), (a_4, .inr (3, [.ref z_6, .int 0])), (z_6, .inl (cy 0, 30, .inl ((fun _ => 0)))), (a_7, .inl (cy 0, 24, .inl ((fun _ => 0))))]) [0, 1, 2, 3, 4, 5] (by decide) rfl
  exact W.vret hx hb hr (fun t ht hW => ⟨⟨(), rfl, trivial, ⟨a_1, a_4, a_7, z_3, z_6, by rw [ht]; exact hP9, hD9⟩⟩, hS.F ht⟩) hS.2.2 dX1_init_43
