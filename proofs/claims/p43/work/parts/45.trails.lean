theorem k_s2J : "[" ++ (FieldType.array FieldType.long).toString = "[[J" := by decide +kernel
theorem k_fcJ {dC : Nat → ClassId} {dI : Nat → Nat → Nat} {cy : Nat → ClassId} {s : State} (h : va_K (dC, dI) vwCl (tp_ty cy) s) : s.vm.findClass (FieldType.array FieldType.long).toString = some (cy 1) := (h.2 1 _ rfl).2
theorem k_rows {l : List Nat} {f : Nat → va_E} {v : va_E} : va_pl ([] ++ l) (vr_up f l v) = va_pl l (fun _ => v) := by
  rw [List.nil_append]
  unfold va_pl
  exact List.map_congr_left fun a ha => by rw [vr_up_in ha]
theorem tw_724 : Cond.methodLink RX6 3 ⟨"java/lang/Object", "<init>", "()V"⟩ ∈ tp_all := tp_mem 724 (by decide +kernel) rfl
theorem tw_725 : Cond.classLink RX6 9 "[[J" ∈ tp_all := tp_mem 725 (by decide +kernel) rfl
theorem dX6_init_0 : decode cX6_init 0 = .ok (.aload_n 0, 1) := by decide +kernel
theorem dX6_init_1 : decode cX6_init 1 = .ok (.invokespecial 3, 3) := by decide +kernel
theorem dX6_init_4 : decode cX6_init 4 = .ok (.aload_n 0, 1) := by decide +kernel
theorem dX6_init_5 : decode cX6_init 5 = .ok (.sipush 200, 3) := by decide +kernel
theorem dX6_init_8 : decode cX6_init 8 = .ok (.iconst 1, 1) := by decide +kernel
theorem dX6_init_9 : decode cX6_init 9 = .ok (.multianewarray 9 2, 4) := by decide +kernel
theorem dX6_init_13 : decode cX6_init 13 = .ok (.putfield 11, 3) := by decide +kernel
theorem dX6_init_16 : decode cX6_init 16 = .ok (.return_, 1) := by decide +kernel
set_option maxRecDepth 100000 in
set_option maxHeartbeats 4000000 in
/-- k_Trails -/
theorem k_Trails (l : Launch) (dC : Nat → ClassId) (dI : Nat → Nat → Nat) (cy : Nat → ClassId) (a0 : Nat) (sz : Nat) : Met l yX6_init (tp_w yX6_init cX6_init 1 none) ({ frames := 1, cells := 201, slots := 400, locals := 12 }) (va_Pc [.ref a0] (mPre dC dI cy (cw [(a0, .inr (6, [.null]))]) sz)) (va_Qv (fun _ : Unit => True) (fun (_ : Unit) (t : State) => ∃ (q1 : Nat) (r9 : Nat → Nat), (∀ i j : Nat, i < 200 → j < 200 → r9 i = r9 j → i = j) ∧ kPost dC dI (va_A [(a0, .inr (6, [.null]))] sz) ([(a0, .inr (6, [.ref q1])), (q1, .inl (cy 9, 200, .inr (.inr (.inr (.inr (fun i => if i < 200 then some (r9 i) else none))))))] ++ va_pl ((List.range 200).map r9) (fun _ => .inl (cy 1, 1, .inr (.inl (fun _ => 0))))) t) (va_A [(a0, .inr (6, [.null]))] sz)) 201 400 (va_A [(a0, .inr (6, [.null]))] sz) := by
  refine Met.ofW (cc := cX6_init) (maxL := 1) (ret := none) (by decide) rfl ?_
  intro p e s m args below meth c s₁ B hml hv
  obtain ⟨rfl, hsz, hM, hK, hE⟩ := hv
  have hx := B.exec
  have hb := B.bytes
  have hr := B.returns
  have hts0 := atoms_spec (ws := tp_w yX6_init cX6_init 1 none) B.pre
  have hts : ∀ w ∈ tp_all, w.before _ s = true := fun w h => hts0 w (List.mem_cons_of_mem _ h)
  have hown : s.vm.findClass RX6 = some m.cls := findClass_of_methodNamed B.named
  have hlocks := B.notSynchronized
  have hin : meth.name = "<init>" := (name_of_methodNamed B.named B.method).1
  subst hsz
  have hP : va_P (dC, dI) vwCl [(a0, .inr (6, [.null]))] s.heap := cw_P hM
  have hD : va_D (va_A [(a0, .inr (6, [.null]))] s.heap.size) [(a0, .inr (6, [.null]))] := cw_D1
  generalize hAe : va_A [(a0, .inr (6, [.null]))] s.heap.size = A at hD ⊢
  have hA : ∀ q : Nat, s.heap.size ≤ q → A q := fun q h => by rw [← hAe]; exact Or.inr h
  have hS : va_S A s.heap s.heap [] := va_S.rf
  have hl9 := lv_entry ([.ref a0]) (n := 1) (Nat.le_of_ble_eq_true rfl)
  rw [lg_entry_eq]
  generalize (lg_sl ([.ref a0]) ++ List.replicate (1 - (lg_sl ([.ref a0])).length) Slot.unset).toArray = ls at hl9 ⊢
  have hl : lv_has ls 1 [(0, .ref a0)] := hl9
  refine lv_aload_n hx hb dX6_init_0 rfl (lv_at hl 0 rfl) ?_
  refine W.objInit hx hb hown (hts _ tw_724) (hts _ tw_74) (hts _ tw_75) rfl (by rw [hml]; exact hl.1) rfl dX6_init_1 (Nat.le_of_ble_eq_true rfl) (Nat.le_of_ble_eq_true rfl) ?_
  refine W.eq (g2 := F0 m 4 ls []) rfl ?_
  refine lv_aload_n hx hb dX6_init_4 rfl (lv_at hl 0 rfl) ?_
  refine lv_sipush (v := 200) hx hb dX6_init_5 (by decide) ?_
  refine lv_iconst (v := 1) hx hb dX6_init_8 (by decide) ?_
  have hP9 : va_P (dC, dI) vwCl ([(a0, .inr (6, [.null]))] ++ va_pl [] (fun _ => .inr (0, []))) s.heap := by simpa [va_pl] using hP
  have hD9 : va_D A ([(a0, .inr (6, [.null]))] ++ va_pl [] (fun _ => .inr (0, []))) := by simpa [va_pl] using hD
  refine va_mna hx hb (own := RX6) (ty := .long) (cy := cy 1) (N' := 200) (K' := 1) (z := (1, .inr (.inl (fun _ => 0)))) hown (by rw [k_s2J]; exact hts _ tw_725) (hE.2.2.2 _ (List.mem_of_getElem? (i := 1) rfl)) (hts _ tw_370) (k_fcJ hK) hK hP9 hD9 hS hA (by decide) (by decide) (by decide) (by decide) (Nat.le_of_ble_eq_true rfl) (Nat.le_of_ble_eq_true rfl) (Nat.le_of_ble_eq_true rfl) rfl rfl (Nat.le_of_ble_eq_true rfl) (Nat.le_of_ble_eq_true rfl) (fun _ => rfl) dX6_init_9 (fun q1 r9 k9 H hri _ hK9 hP hD hS => ?_)
  obtain rfl : k9 = cy 9 := tp_one hK9 11 9 rfl rfl
  rw [k_rows] at hP hD
  refine va_putF (D := (dC, dI)) (ws := [(a0, .inr (6, [.null])), (q1, .inl (cy 9, 200, .inr (.inr (.inr (.inr (fun i => if i < 200 then some (r9 i) else none))))))] ++ va_pl ((List.range 200).map r9) (fun _ => .inl (cy 1, 1, .inr (.inl (fun _ => 0))))) (ci := 6) (v := .ref q1) (ty := (.array (.array .long))) (C := RX6) (T := TX6) (N := 1) hx hb hts tl_X6 tyX6 tyX6_ok nmX6 hown hK hP hD hS 0 rfl rfl 0 (by decide) (hts _ tw_727) (fun _ h9 => h9) rfl hin rfl (by decide +kernel) rfl rfl (Nat.le_of_ble_eq_true rfl) dX6_init_13 (fun H locs hP hD hS => ?_)
  exact W.vret hx hb hr (fun t ht hW => ⟨⟨(), rfl, trivial, q1, r9, hri, by rw [ht]; exact hP, hD⟩, hS.F ht⟩) hS.2.2 dX6_init_16
