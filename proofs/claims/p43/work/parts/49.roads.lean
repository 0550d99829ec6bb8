theorem k_s2I : "[" ++ (FieldType.array FieldType.int).toString = "[[I" := by decide +kernel
theorem k_fcI {dC : Nat → ClassId} {dI : Nat → Nat → Nat} {cy : Nat → ClassId} {s : State} (h : va_K (dC, dI) vwCl (tp_ty cy) s) : s.vm.findClass (FieldType.array FieldType.int).toString = some (cy 0) := (h.2 0 _ rfl).2
theorem k_ap2 {A : Nat → Prop} {x y : Nat × va_E} {Y : va_W} (hD : va_D A (x :: y :: Y)) : x.1 ≠ y.1 ∧ ∀ q e, (q, e) ∈ Y → q ≠ y.1 := by
  refine ⟨fun h => absurd (hD.1 0 1 x y rfl rfl h) (by decide), fun q e hq h => ?_⟩
  obtain ⟨k, hk⟩ := List.getElem?_of_mem hq
  have h9 := hD.1 (k + 2) 1 (q, e) y hk rfl h
  omega
theorem tw_597 : Cond.methodLink RX2 3 ⟨"java/lang/Object", "<init>", "()V"⟩ ∈ tp_all := tp_mem 597 (by decide +kernel) rfl
theorem tw_598 : Cond.classLink RX2 9 RX1 ∈ tp_all := tp_mem 598 (by decide +kernel) rfl
theorem tw_600 : Cond.classLink RX2 17 "[[I" ∈ tp_all := tp_mem 600 (by decide +kernel) rfl
theorem tw_602 : Cond.instantiable RX1 16 ∈ tp_all := tp_mem 602 (by decide +kernel) rfl
theorem tw_605 : Cond.code yX1_init cX1_init 1 none ∈ tp_all := tp_mem 605 (by decide +kernel) rfl
theorem tw_604 : Cond.instanceMethod yX1_init ∈ tp_all := tp_mem 604 (by decide +kernel) rfl
theorem te_m1 {U : State} (h : tp_E U) : va_Nw (.methodLinkNest "Turnpike$Roads" 22 yX1_init "Turnpike") U := h.2.1 _ (List.mem_of_getElem? (i := 1) rfl)
theorem dX2_init_0 : decode cX2_init 0 = .ok (.aload_n 0, 1) := by decide +kernel
theorem dX2_init_1 : decode cX2_init 1 = .ok (.invokespecial 3, 3) := by decide +kernel
theorem dX2_init_4 : decode cX2_init 4 = .ok (.aload_n 0, 1) := by decide +kernel
theorem dX2_init_5 : decode cX2_init 5 = .ok (.bipush 24, 2) := by decide +kernel
theorem dX2_init_7 : decode cX2_init 7 = .ok (.anewarray 9, 3) := by decide +kernel
theorem dX2_init_10 : decode cX2_init 10 = .ok (.putfield 11, 3) := by decide +kernel
theorem dX2_init_13 : decode cX2_init 13 = .ok (.aload_n 0, 1) := by decide +kernel
theorem dX2_init_14 : decode cX2_init 14 = .ok (.bipush 12, 2) := by decide +kernel
theorem dX2_init_16 : decode cX2_init 16 = .ok (.bipush 12, 2) := by decide +kernel
theorem dX2_init_18 : decode cX2_init 18 = .ok (.multianewarray 17 2, 4) := by decide +kernel
theorem dX2_init_22 : decode cX2_init 22 = .ok (.putfield 19, 3) := by decide +kernel
theorem dX2_init_25 : decode cX2_init 25 = .ok (.iconst 0, 1) := by decide +kernel
theorem dX2_init_26 : decode cX2_init 26 = .ok (.istore_n 1, 1) := by decide +kernel
theorem dX2_init_27 : decode cX2_init 27 = .ok (.iload_n 1, 1) := by decide +kernel
theorem dX2_init_28 : decode cX2_init 28 = .ok (.bipush 24, 2) := by decide +kernel
theorem dX2_init_30 : decode cX2_init 30 = .ok (.if_icmp .ge 22, 3) := by decide +kernel
theorem dX2_init_52 : decode cX2_init 52 = .ok (.return_, 1) := by decide +kernel
theorem dX2_init_33 : decode cX2_init 33 = .ok (.aload_n 0, 1) := by decide +kernel
theorem dX2_init_34 : decode cX2_init 34 = .ok (.getfield 11, 3) := by decide +kernel
theorem dX2_init_37 : decode cX2_init 37 = .ok (.iload_n 1, 1) := by decide +kernel
theorem dX2_init_38 : decode cX2_init 38 = .ok (.new 9, 3) := by decide +kernel
theorem dX2_init_41 : decode cX2_init 41 = .ok (.dup, 1) := by decide +kernel
theorem dX2_init_42 : decode cX2_init 42 = .ok (.invokespecial 22, 3) := by decide +kernel
theorem dX2_init_45 : decode cX2_init 45 = .ok (.aastore, 1) := by decide +kernel
theorem dX2_init_46 : decode cX2_init 46 = .ok (.iinc 1 1, 3) := by decide +kernel
theorem dX2_init_49 : decode cX2_init 49 = .ok (.goto (-22), 3) := by decide +kernel
set_option maxRecDepth 100000 in
set_option maxHeartbeats 4000000 in
/-- k_Roads -/
theorem k_Roads (l : Launch) (dC : Nat → ClassId) (dI : Nat → Nat → Nat) (cy : Nat → ClassId) (a0 : Nat) (sz : Nat) : Met l yX2_init (tp_w yX2_init cX2_init 2 none) ({ frames := 3, cells := 158, slots := 2676, locals := 55 }) (va_Pc [.ref a0] (mPre dC dI cy (cw [(a0, .inr (2, [.null, .int 0, .null, .int 0]))]) sz)) (va_Qv (fun _ : Unit => True) (fun (_ : Unit) (t : State) => ∃ L : Lay, L 1 0 = a0 ∧ LIg (fun f i => ((2 ≤ f ∧ f ≤ 7) ∨ f = 17) ∧ i < nF f) L ∧ mw (dC, dI) vwCl (va_A [(a0, .inr (2, [.null, .int 0, .null, .int 0]))] sz) (MD cy none K0 L GRo) t.heap) (va_A [(a0, .inr (2, [.null, .int 0, .null, .int 0]))] sz)) 158 2676 (va_A [(a0, .inr (2, [.null, .int 0, .null, .int 0]))] sz) := by
  refine Met.ofW (cc := cX2_init) (maxL := 2) (ret := none) (by decide) rfl ?_
  intro p e s m args below meth c s₁ B hml hv
  obtain ⟨rfl, hsz, hM, hK, hE⟩ := hv
  have hx := B.exec
  have hb := B.bytes
  have hr := B.returns
  have hts0 := atoms_spec (ws := tp_w yX2_init cX2_init 2 none) B.pre
  have hts : ∀ w ∈ tp_all, w.before _ s = true := fun w h => hts0 w (List.mem_cons_of_mem _ h)
  have hown : s.vm.findClass RX2 = some m.cls := findClass_of_methodNamed B.named
  have hlocks := B.notSynchronized
  have hin : meth.name = "<init>" := (name_of_methodNamed B.named B.method).1
  subst hsz
  have hP : va_P (dC, dI) vwCl [(a0, .inr (2, [.null, .int 0, .null, .int 0]))] s.heap := cw_P hM
  have hD : va_D (va_A [(a0, .inr (2, [.null, .int 0, .null, .int 0]))] s.heap.size) [(a0, .inr (2, [.null, .int 0, .null, .int 0]))] := cw_D1
  generalize hAe : va_A [(a0, .inr (2, [.null, .int 0, .null, .int 0]))] s.heap.size = A at hD ⊢
  have hA : ∀ q : Nat, s.heap.size ≤ q → A q := fun q h => by rw [← hAe]; exact Or.inr h
  have hS : va_S A s.heap s.heap [] := va_S.rf
  have hl9 := lv_entry ([.ref a0]) (n := 2) (Nat.le_of_ble_eq_true rfl)
  rw [lg_entry_eq]
  generalize (lg_sl ([.ref a0]) ++ List.replicate (2 - (lg_sl ([.ref a0])).length) Slot.unset).toArray = ls at hl9 ⊢
  have hl : lv_has ls 2 [(0, .ref a0)] := hl9
  refine lv_aload_n hx hb dX2_init_0 rfl (lv_at hl 0 rfl) ?_
  refine W.objInit hx hb hown (hts _ tw_597) (hts _ tw_74) (hts _ tw_75) rfl (by rw [hml]; exact hl.1) rfl dX2_init_1 (Nat.le_of_ble_eq_true rfl) (Nat.le_of_ble_eq_true rfl) ?_
  refine W.eq (g2 := F0 m 4 ls []) rfl ?_
  refine lv_aload_n hx hb dX2_init_4 rfl (lv_at hl 0 rfl) ?_
  refine lv_bipush (v := 24) hx hb dX2_init_5 (by decide) ?_
  refine va_newq hx hb (C := RX1) (N' := 24) hown (hts _ tw_598) (hE.2.2.1 _ (List.mem_of_getElem? (i := 0) rfl)) hK hP hD hS hA (by decide) (by decide) (Nat.le_of_ble_eq_true rfl) (Nat.le_of_ble_eq_true rfl) (Nat.le_of_ble_eq_true rfl) dX2_init_7 (fun a_1 k_2 H hK9 hP hD hS => ?_)
  obtain rfl : k_2 = cy 3 := tp_one hK9 11 3 rfl rfl
  have hP : va_P (dC, dI) vwCl [(a0, .inr (2, [.null, .int 0, .null, .int 0])), (a_1, .inl (cy 3, 24, .inr (.inr (.inr (.inr ((fun _ => none)))))))] _ := hP
  have hD : va_D A [(a0, .inr (2, [.null, .int 0, .null, .int 0])), (a_1, .inl (cy 3, 24, .inr (.inr (.inr (.inr ((fun _ => none)))))))] := hD
  refine va_putF (D := (dC, dI)) (ci := 2) (v := .ref a_1) (ty := (.array (.object "Turnpike$Link"))) (C := RX2) (T := TX2) (N := 4) hx hb hts tl_X2 tyX2 tyX2_ok nmX2 hown hK hP hD hS 0 rfl rfl 0 (by decide) (hts _ tw_695) (fun _ h9 => h9) rfl hin rfl (by decide +kernel) rfl rfl (Nat.le_of_ble_eq_true rfl) dX2_init_10 (fun H locs hP hD hS => ?_)
  have hP : va_P (dC, dI) vwCl [(a0, .inr (2, [.ref a_1, .int 0, .null, .int 0])), (a_1, .inl (cy 3, 24, .inr (.inr (.inr (.inr ((fun _ => none)))))))] _ := hP
  have hD : va_D A [(a0, .inr (2, [.ref a_1, .int 0, .null, .int 0])), (a_1, .inl (cy 3, 24, .inr (.inr (.inr (.inr ((fun _ => none)))))))] := hD
  refine lv_aload_n hx hb dX2_init_13 rfl (lv_at hl 0 rfl) ?_
  refine lv_bipush (v := 12) hx hb dX2_init_14 (by decide) ?_
  refine lv_bipush (v := 12) hx hb dX2_init_16 (by decide) ?_
  have hP9 : va_P (dC, dI) vwCl ([(a0, .inr (2, [.ref a_1, .int 0, .null, .int 0])), (a_1, .inl (cy 3, 24, .inr (.inr (.inr (.inr ((fun _ => none)))))))] ++ va_pl [] (fun _ => .inr (0, []))) H := by simpa [va_pl] using hP
  have hD9 : va_D A ([(a0, .inr (2, [.ref a_1, .int 0, .null, .int 0])), (a_1, .inl (cy 3, 24, .inr (.inr (.inr (.inr ((fun _ => none)))))))] ++ va_pl [] (fun _ => .inr (0, []))) := by simpa [va_pl] using hD
  refine va_mna hx hb (own := RX2) (ty := .int) (cy := cy 0) (N' := 12) (K' := 12) (z := (12, .inl (fun _ => 0))) hown (by rw [k_s2I]; exact hts _ tw_600) (hE.2.2.2 _ (List.mem_of_getElem? (i := 0) rfl)) (hts _ tw_623) (k_fcI hK) hK hP9 hD9 hS hA (by decide) (by decide) (by decide) (by decide) (Nat.le_of_ble_eq_true rfl) (Nat.le_of_ble_eq_true rfl) (Nat.le_of_ble_eq_true rfl) rfl rfl (Nat.le_of_ble_eq_true rfl) (Nat.le_of_ble_eq_true rfl) (fun _ => rfl) dX2_init_18 (fun q25 r9 k9 H hri _ hK9 hP hD hS => ?_)
  obtain rfl : k9 = cy 8 := tp_one hK9 11 8 rfl rfl
  rw [k_rows] at hP hD
  generalize a_1 = q24 at hP hD ⊢
  refine va_putF (D := (dC, dI)) (ws := [(a0, .inr (2, [.ref q24, .int 0, .null, .int 0])), (q24, .inl (cy 3, 24, .inr (.inr (.inr (.inr (fun _ => none)))))), (q25, .inl (cy 8, 12, .inr (.inr (.inr (.inr (fun i => if i < 12 then some (r9 i) else none))))))] ++ va_pl ((List.range 12).map r9) (fun _ => .inl (cy 0, 12, .inl (fun _ => 0)))) (ci := 2) (v := .ref q25) (ty := (.array (.array .int))) (C := RX2) (T := TX2) (N := 4) hx hb hts tl_X2 tyX2 tyX2_ok nmX2 hown hK hP hD hS 0 rfl rfl 2 (by decide) (hts _ tw_700) (fun _ h9 => h9) rfl hin rfl (by decide +kernel) rfl rfl (Nat.le_of_ble_eq_true rfl) dX2_init_22 (fun H locs hP hD hS => ?_)
  have hM : mw (dC, dI) vwCl A (cw ([(a0, .inr (2, [.ref q24, .int 0, .ref q25, .int 0])), (q24, .inl (cy 3, 24, .inr (.inr (.inr (.inr (fun _ => none)))))), (q25, .inl (cy 8, 12, .inr (.inr (.inr (.inr (fun i => if i < 12 then some (r9 i) else none))))))] ++ va_pl ((List.range 12).map r9) (fun _ => .inl (cy 0, 12, .inl (fun _ => 0))))) H := mw.ofL hP hD
  refine lv_iconst (v := 0) hx hb dX2_init_25 (by decide) ?_
  refine lv_istore_n (lv' := [(1, .int 0), (0, .ref a0)]) hx hb dX2_init_26 rfl hl (by decide) rfl (fun ls hl => ?_)
  obtain ⟨hd1, hd2⟩ := k_ap2 hD
  refine W.widen (k := (fun i => 14 + 6 * i) 0) (n := (fun i => 180 + 104 * i) 0) (Nat.le_refl _) (Nat.le_refl _) ?_
  refine tp_for (σ := Lay) 24 (fun i => 14 + 6 * i) (fun i => 180 + 104 * i) (fun (i : Nat) (Lz : Lay) (H : Heap) (locs : List Loc) (ls : Array Slot) => LIg (fun f j => 2 ≤ f ∧ f ≤ 7 ∧ j < i) Lz ∧ (∀ q e, (RRo cy a0 q24 q25 r9) q e ∨ MD cy none K0 Lz (fun f j => 2 ≤ f ∧ f ≤ 7 ∧ j < i) q e → q ≠ q24) ∧ mw (dC, dI) vwCl A (PWm cy none K0 (RRo cy a0 q24 q25 r9) Lz (fun f j => 2 ≤ f ∧ f ≤ 7 ∧ j < i) q24 (cy 3) 24 2 i) H ∧ va_S A s.heap H locs ∧ lv_has ls 2 [(1, .int (nI i)), (0, .ref a0)]) ?_ ?_ 24 0 (Nat.zero_add _) (fun _ _ => 0) _ _ ls ⟨fun f j g k hf => absurd hf.2.2 (Nat.not_lt_zero _), ?_, hM.sub ?_, hS, lv_sub hl [0, 1] rfl⟩
  · intro Lz H locs ls ⟨hLI, hap, hP, hS, hl⟩
    have hl : lv_has ls 2 [(1, .int (nI 24)), (0, .ref a0)] := hl
    refine lv_iload_n hx hb dX2_init_27 rfl (lv_at hl 0 rfl) ?_
    refine lv_bipush (v := 24) hx hb dX2_init_28 (by decide) ?_
    refine lv_icmp_ge (tgt := 52) hx hb dX2_init_30 (by decide) (fun _ => ?_) (fun c_3 => absurd (by decide) c_3)
    refine W.widen (k := 158) (n := 2676) (by decide) (by decide) ?_
    exact W.vret hx hb hr (fun t ht hW => ⟨⟨(), rfl, trivial, by subst ht; exact roads_end hP hap hLI hri⟩, hS.F ht⟩) hS.2.2 dX2_init_52
  · intro i Lz H locs ls hi ⟨hLI, hap, hP, hS, hl⟩ ih
    have hl : lv_has ls 2 [(1, .int (nI i)), (0, .ref a0)] := hl
    refine lv_iload_n hx hb dX2_init_27 rfl (lv_at hl 0 rfl) ?_
    refine lv_bipush (v := 24) hx hb dX2_init_28 (by decide) ?_
    refine lv_icmp_ge (tgt := 52) hx hb dX2_init_30 (by decide) (fun c_4 => absurd c_4 (nI_ge (a := i) (b := 24) hi (by decide))) (fun _ => ?_)
    refine lv_aload_n hx hb dX2_init_33 rfl (lv_at hl 1 rfl) ?_
    refine va_get (D := (dC, dI)) (ws := [(a0, .inr (2, [.ref q24, .int 0, .ref q25, .int 0]))]) (ci := 2) (v := .ref q24) (C := RX2) (T := TX2) (N := 4) hx hb hts tl_X2 hown hK (hP.one (Or.inl (Or.inl (Or.inl ⟨rfl, rfl⟩)))) 0 rfl rfl 0 (by decide) (hts _ tw_695) (fun _ h9 => h9) rfl dX2_init_34 ?_
    refine lv_iload_n hx hb dX2_init_37 rfl (lv_at hl 0 rfl) ?_
    obtain ⟨ws9, hPw, hDw, hin9, hbk⟩ := hP.push
    have h8 : tp_dv 16 tyX1 [.int 0, .int 0, .int 0, .int 0, .int 0, .int 0, .int 0, .int 0, .int 0, .null, .null, .int 0, .int 0, .int 0, .int 0, .null] = true := by decide +kernel
    refine va_new (ci := 1) (fs := [.int 0, .int 0, .int 0, .int 0, .int 0, .int 0, .int 0, .int 0, .int 0, .null, .null, .int 0, .int 0, .int 0, .int 0, .null]) (C := RX1) (T := TX1) (N := 16) hx hb hts tl_X1 tyX1 tyX1_ok hown (hts _ tw_598) (hts _ tw_602) (hts _ tw_23) hK hPw hDw hS hA rfl (fun j hj => tp_dv_ok h8 j hj) (by show 14 + 6 * i + 1 ≤ 158; omega) (by show 180 + 104 * i + 16 ≤ 2676; omega) dX2_init_38 (fun a9 H hPw hDw hS => ?_)
    obtain ⟨hP, hfr⟩ := hbk _ _ _ hPw hDw
    clear hbk hPw hDw hin9
    refine lv_dup hx hb dX2_init_41 rfl ?_
    have hC : ∀ q e, cw [(a9, .inr (1, [.int 0, .int 0, .int 0, .int 0, .int 0, .int 0, .int 0, .int 0, .int 0, .null, .null, .int 0, .int 0, .int 0, .int 0, .null]))] q e → madd (PWm cy none K0 (RRo cy a0 q24 q25 r9) Lz (fun f j => 2 ≤ f ∧ f ≤ 7 ∧ j < i) q24 (cy 3) 24 2 i) a9 (.inr (1, [.int 0, .int 0, .int 0, .int 0, .int 0, .int 0, .int 0, .int 0, .int 0, .null, .null, .int 0, .int 0, .int 0, .int 0, .null])) q e := fun q e h => by cases List.mem_singleton.mp h; exact Or.inr ⟨rfl, rfl⟩
    have hFc : ∀ q, va_A [(a9, .inr (1, [.int 0, .int 0, .int 0, .int 0, .int 0, .int 0, .int 0, .int 0, .int 0, .null, .null, .int 0, .int 0, .int 0, .int 0, .null]))] H.size q → A q := fun q h => m_free hP hS hA hC q (mA_va.mp h)
    refine va_callv (va_runIN (As := []) (rest := [.ref a9, .int (nI i), .ref q24]) ⟨hx, hb, hml, hown, hts⟩ (k_Link l dC dI cy a9 H.size) ⟨tp_cnB 0 hts (te_m1 hE) tw_23 tw_605 rfl rfl (by decide +kernel) ⟨Nat.le_of_ble_eq_true rfl, Nat.le_of_ble_eq_true rfl⟩, rfl, hts _ tw_604⟩ ⟨m_blind, fun U hU hW => ⟨rfl, m_pay hK hP hE hC U hU hW⟩⟩ rfl rfl hl.1 rfl (lv_room (Nat.le_of_ble_eq_true rfl)) dX2_init_42 ⟨(by show 14 + 6 * i + 1 + 5 ≤ 158; omega), (by show 180 + 104 * i + 16 + 88 ≤ 2676; omega)⟩) hS (fun q _ h => hFc q h) hFc (fun u t H1 locs ht hvm hpo hB hz1 hk1 hS => ?_)
    obtain ⟨z1, z2, z3, z4, z5, hPk, hDk⟩ := hB
    rw [ht] at hPk
    have hJ := hP.joinL hfr hk1 hFc hPk hDk
    obtain ⟨ws9, k9, hPw, hDw, hk9, hin9, hbk⟩ := hJ.cut (e := arQ (cy 3) 24 (fil Lz 2 i)) (Or.inl (Or.inr ⟨rfl, rfl⟩))
    obtain ⟨k8, hk8⟩ := hin9 a9 (.inr (1, [.int 0, .int 0, .int 0, .int 0, .int 0, .int 0, .int (-1), .int 0, .int 0, .ref z1, .ref z2, .int 0, .int 0, .int 0, .int 0, .ref z3])) (Or.inr (List.mem_of_getElem? (i := 0) rfl))
    refine va_astq hx hb hK hPw hDw hS k9 3 k8 1 hk9 rfl hk8 rfl (vp_in_nI hi (by decide)) dX2_init_45 (fun H2 locs hPw hDw hS => ?_)
    rw [nI_clamp (by omega)] at hPw hDw
    have hP9 := hbk _ _ hPw hDw
    obtain ⟨hLI2, hap2, hst⟩ := lay_step (F := [2, 3, 4, 5, 6, 7]) (w1 := [(a9, .inr (1, [.int 0, .int 0, .int 0, .int 0, .int 0, .int 0, .int (-1), .int 0, .int 0, .ref z1, .ref z2, .int 0, .int 0, .int 0, .int 0, .ref z3])), (z1, .inr (3, [.ref z4, .int 0])), (z4, .inl (cy 0, 30, .inl (fun _ => 0))), (z2, .inr (3, [.ref z5, .int 0])), (z5, .inl (cy 0, 30, .inl (fun _ => 0))), (z3, .inl (cy 0, 24, .inl (fun _ => 0)))]) (f0 := 2) (n1 := 6) hLI (fun f j hf => ⟨hf.1, Nat.le_trans hf.2.1 (by decide)⟩) (fun f hf h9 => absurd h9.2.2 (Nat.lt_irrefl _)) (by decide) rfl (by decide) hap hP hfr hDk (fun f hf => by
        simp only [List.mem_cons, List.not_mem_nil, or_false] at hf
        rcases hf with rfl | rfl | rfl | rfl | rfl | rfl
        · exact List.mem_of_getElem? (i := 0) rfl
        · exact List.mem_of_getElem? (i := 1) rfl
        · exact List.mem_of_getElem? (i := 2) rfl
        · exact List.mem_of_getElem? (i := 3) rfl
        · exact List.mem_of_getElem? (i := 4) rfl
        · exact List.mem_of_getElem? (i := 5) rfl
        ) (by decide) (by decide) rfl
    refine lv_iinc (v := nI (i + 1)) (lv' := [(1, .int (nI (i + 1))), (0, .ref a0)]) hx hb dX2_init_46 hl (k := 0) rfl (nI_1 i) (by decide) rfl (fun ls hl => ?_)
    refine lv_goto (tgt := 27) hx hb dX2_init_49 (by decide) ?_
    refine W.widen (k := (fun i => 14 + 6 * i) (i + 1)) (n := (fun i => 180 + 104 * i) (i + 1)) (by show 14 + 6 * i + 1 + 5 ≤ 14 + 6 * (i + 1); omega) (by show 180 + 104 * i + 16 + 88 ≤ 180 + 104 * (i + 1); omega) ?_
    refine ih (Lx Lz [2, 3, 4, 5, 6, 7] i (nwf [(a9, .inr (1, [.int 0, .int 0, .int 0, .int 0, .int 0, .int 0, .int (-1), .int 0, .int 0, .ref z1, .ref z2, .int 0, .int 0, .int 0, .int 0, .ref z3])), (z1, .inr (3, [.ref z4, .int 0])), (z4, .inl (cy 0, 30, .inl (fun _ => 0))), (z2, .inr (3, [.ref z5, .int 0])), (z5, .inl (cy 0, 30, .inl (fun _ => 0))), (z3, .inl (cy 0, 24, .inl (fun _ => 0)))] 2)) _ _ ls ⟨by rw [G_succ]; exact hLI2, by rw [G_succ]; exact hap2, hP9.sub (by rw [G_succ]; exact hst), hS, lv_sub hl [0, 1] rfl⟩
  · rintro q e ((⟨rfl, -⟩ | ⟨rfl, -⟩ | ⟨j, hj, rfl, -⟩) | ⟨f, j, hf, -⟩)
    · exact hd1
    · exact hd2 _ _ (List.mem_of_getElem? (i := 0) rfl)
    · exact hd2 _ _ (List.mem_append.mpr (Or.inr (vpl_mem.mpr ⟨j, hj, rfl, rfl⟩)))
    · exact absurd hf.2.2 (Nat.not_lt_zero _)
  · rintro q e (((⟨rfl, rfl⟩ | ⟨rfl, rfl⟩ | ⟨j, hj, rfl, rfl⟩) | ⟨f, j, hf, -⟩) | ⟨rfl, rfl⟩)
    · exact List.mem_of_getElem? (i := 0) rfl
    · exact List.mem_of_getElem? (i := 2) rfl
    · exact List.mem_append.mpr (Or.inr (vpl_mem.mpr ⟨j, hj, rfl, rfl⟩))
    · exact absurd hf.2.2 (Nat.not_lt_zero _)
    · rw [fil_0]
      exact List.mem_of_getElem? (i := 1) rfl
