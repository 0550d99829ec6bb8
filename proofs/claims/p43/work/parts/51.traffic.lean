def TZ : Tau := (0, fun _ => 0, fun _ => 0, fun _ _ => 0)
theorem tw_591 : Cond.methodLink RX5 3 ⟨"java/lang/Object", "<init>", "()V"⟩ ∈ tp_all := tp_mem 591 (by decide +kernel) rfl
theorem tw_592 : Cond.classLink RX5 9 RX2 ∈ tp_all := tp_mem 592 (by decide +kernel) rfl
theorem tw_593 : Cond.instantiable RX2 4 ∈ tp_all := tp_mem 593 (by decide +kernel) rfl
theorem tw_594 : Cond.methodLink RX5 11 yX2_init ∈ tp_all := tp_mem 594 (by decide +kernel) rfl
theorem tw_595 : Cond.instanceMethod yX2_init ∈ tp_all := tp_mem 595 (by decide +kernel) rfl
theorem tw_596 : Cond.code yX2_init cX2_init 2 none ∈ tp_all := tp_mem 596 (by decide +kernel) rfl
theorem tw_711 : Cond.classLink RX5 18 RX4 ∈ tp_all := tp_mem 711 (by decide +kernel) rfl
theorem tw_713 : Cond.classLink RX5 24 RX3 ∈ tp_all := tp_mem 713 (by decide +kernel) rfl
theorem tw_715 : Cond.classLink RX5 30 RX0 ∈ tp_all := tp_mem 715 (by decide +kernel) rfl
theorem tw_717 : Cond.classLink RX5 36 RX7 ∈ tp_all := tp_mem 717 (by decide +kernel) rfl
theorem tw_719 : Cond.classLink RX5 46 RX6 ∈ tp_all := tp_mem 719 (by decide +kernel) rfl
theorem tw_720 : Cond.instantiable RX6 1 ∈ tp_all := tp_mem 720 (by decide +kernel) rfl
theorem tw_723 : Cond.code yX6_init cX6_init 1 none ∈ tp_all := tp_mem 723 (by decide +kernel) rfl
theorem tw_722 : Cond.instanceMethod yX6_init ∈ tp_all := tp_mem 722 (by decide +kernel) rfl
theorem tw_243 : Cond.instantiable RX4 6 ∈ tp_all := tp_mem 243 (by decide +kernel) rfl
theorem tw_733 : Cond.code yX4_init cX4_init 1 none ∈ tp_all := tp_mem 733 (by decide +kernel) rfl
theorem tw_732 : Cond.instanceMethod yX4_init ∈ tp_all := tp_mem 732 (by decide +kernel) rfl
theorem tw_758 : Cond.methodLink RX5 54 yX3_init ∈ tp_all := tp_mem 758 (by decide +kernel) rfl
theorem tw_759 : Cond.instantiable RX0 12 ∈ tp_all := tp_mem 759 (by decide +kernel) rfl
theorem tw_762 : Cond.code yX0_init cX0_init 1 none ∈ tp_all := tp_mem 762 (by decide +kernel) rfl
theorem tw_761 : Cond.instanceMethod yX0_init ∈ tp_all := tp_mem 761 (by decide +kernel) rfl
theorem tw_813 : Cond.instantiable RX7 13 ∈ tp_all := tp_mem 813 (by decide +kernel) rfl
theorem tw_816 : Cond.code yX7_init cX7_init 1 none ∈ tp_all := tp_mem 816 (by decide +kernel) rfl
theorem tw_815 : Cond.instanceMethod yX7_init ∈ tp_all := tp_mem 815 (by decide +kernel) rfl
theorem te_m2 {U : State} (h : tp_E U) : va_Nw (.methodLinkNest "Turnpike$Traffic" 48 yX6_init "Turnpike") U := h.2.1 _ (List.mem_of_getElem? (i := 2) rfl)
theorem te_m3 {U : State} (h : tp_E U) : va_Nw (.methodLinkNest "Turnpike$Traffic" 53 yX4_init "Turnpike") U := h.2.1 _ (List.mem_of_getElem? (i := 3) rfl)
theorem te_m4 {U : State} (h : tp_E U) : va_Nw (.methodLinkNest "Turnpike$Traffic" 57 yX0_init "Turnpike") U := h.2.1 _ (List.mem_of_getElem? (i := 4) rfl)
theorem te_m5 {U : State} (h : tp_E U) : va_Nw (.methodLinkNest "Turnpike$Traffic" 58 yX7_init "Turnpike") U := h.2.1 _ (List.mem_of_getElem? (i := 5) rfl)
theorem dX5_init_0 : decode cX5_init 0 = .ok (.aload_n 0, 1) := by decide +kernel
theorem dX5_init_1 : decode cX5_init 1 = .ok (.invokespecial 3, 3) := by decide +kernel
theorem dX5_init_4 : decode cX5_init 4 = .ok (.aload_n 0, 1) := by decide +kernel
theorem dX5_init_5 : decode cX5_init 5 = .ok (.new 9, 3) := by decide +kernel
theorem dX5_init_8 : decode cX5_init 8 = .ok (.dup, 1) := by decide +kernel
theorem dX5_init_9 : decode cX5_init 9 = .ok (.invokespecial 11, 3) := by decide +kernel
theorem dX5_init_12 : decode cX5_init 12 = .ok (.putfield 12, 3) := by decide +kernel
theorem dX5_init_15 : decode cX5_init 15 = .ok (.aload_n 0, 1) := by decide +kernel
theorem dX5_init_16 : decode cX5_init 16 = .ok (.bipush 12, 2) := by decide +kernel
theorem dX5_init_18 : decode cX5_init 18 = .ok (.anewarray 18, 3) := by decide +kernel
theorem dX5_init_21 : decode cX5_init 21 = .ok (.putfield 20, 3) := by decide +kernel
theorem dX5_init_24 : decode cX5_init 24 = .ok (.aload_n 0, 1) := by decide +kernel
theorem dX5_init_25 : decode cX5_init 25 = .ok (.bipush 12, 2) := by decide +kernel
theorem dX5_init_27 : decode cX5_init 27 = .ok (.anewarray 24, 3) := by decide +kernel
theorem dX5_init_30 : decode cX5_init 30 = .ok (.putfield 26, 3) := by decide +kernel
theorem dX5_init_33 : decode cX5_init 33 = .ok (.aload_n 0, 1) := by decide +kernel
theorem dX5_init_34 : decode cX5_init 34 = .ok (.bipush 10, 2) := by decide +kernel
theorem dX5_init_36 : decode cX5_init 36 = .ok (.anewarray 30, 3) := by decide +kernel
theorem dX5_init_39 : decode cX5_init 39 = .ok (.putfield 32, 3) := by decide +kernel
theorem dX5_init_42 : decode cX5_init 42 = .ok (.aload_n 0, 1) := by decide +kernel
theorem dX5_init_43 : decode cX5_init 43 = .ok (.sipush 200, 3) := by decide +kernel
theorem dX5_init_46 : decode cX5_init 46 = .ok (.anewarray 36, 3) := by decide +kernel
theorem dX5_init_49 : decode cX5_init 49 = .ok (.putfield 38, 3) := by decide +kernel
theorem dX5_init_52 : decode cX5_init 52 = .ok (.aload_n 0, 1) := by decide +kernel
theorem dX5_init_53 : decode cX5_init 53 = .ok (.iconst 1, 1) := by decide +kernel
theorem dX5_init_54 : decode cX5_init 54 = .ok (.putfield 42, 3) := by decide +kernel
theorem dX5_init_57 : decode cX5_init 57 = .ok (.aload_n 0, 1) := by decide +kernel
theorem dX5_init_58 : decode cX5_init 58 = .ok (.iload_n 1, 1) := by decide +kernel
theorem dX5_init_59 : decode cX5_init 59 = .ok (.ifCond .eq 13, 3) := by decide +kernel
theorem dX5_init_62 : decode cX5_init 62 = .ok (.new 46, 3) := by decide +kernel
theorem dX5_init_65 : decode cX5_init 65 = .ok (.dup, 1) := by decide +kernel
theorem dX5_init_66 : decode cX5_init 66 = .ok (.invokespecial 48, 3) := by decide +kernel
theorem dX5_init_69 : decode cX5_init 69 = .ok (.goto 4, 3) := by decide +kernel
theorem dX5_init_73 : decode cX5_init 73 = .ok (.putfield 49, 3) := by decide +kernel
theorem dX5_init_76 : decode cX5_init 76 = .ok (.iconst 0, 1) := by decide +kernel
theorem dX5_init_77 : decode cX5_init 77 = .ok (.istore_n 2, 1) := by decide +kernel
theorem dX5_init_78 : decode cX5_init 78 = .ok (.iload_n 2, 1) := by decide +kernel
theorem dX5_init_79 : decode cX5_init 79 = .ok (.bipush 12, 2) := by decide +kernel
theorem dX5_init_81 : decode cX5_init 81 = .ok (.if_icmp .ge 38, 3) := by decide +kernel
theorem dX5_init_84 : decode cX5_init 84 = .ok (.aload_n 0, 1) := by decide +kernel
theorem dX5_init_85 : decode cX5_init 85 = .ok (.getfield 20, 3) := by decide +kernel
theorem dX5_init_88 : decode cX5_init 88 = .ok (.iload_n 2, 1) := by decide +kernel
theorem dX5_init_89 : decode cX5_init 89 = .ok (.new 18, 3) := by decide +kernel
theorem dX5_init_92 : decode cX5_init 92 = .ok (.dup, 1) := by decide +kernel
theorem dX5_init_93 : decode cX5_init 93 = .ok (.invokespecial 53, 3) := by decide +kernel
theorem dX5_init_96 : decode cX5_init 96 = .ok (.aastore, 1) := by decide +kernel
theorem dX5_init_97 : decode cX5_init 97 = .ok (.aload_n 0, 1) := by decide +kernel
theorem dX5_init_98 : decode cX5_init 98 = .ok (.getfield 26, 3) := by decide +kernel
theorem dX5_init_101 : decode cX5_init 101 = .ok (.iload_n 2, 1) := by decide +kernel
theorem dX5_init_102 : decode cX5_init 102 = .ok (.new 24, 3) := by decide +kernel
theorem dX5_init_105 : decode cX5_init 105 = .ok (.dup, 1) := by decide +kernel
theorem dX5_init_106 : decode cX5_init 106 = .ok (.sipush 200, 3) := by decide +kernel
theorem dX5_init_109 : decode cX5_init 109 = .ok (.invokespecial 54, 3) := by decide +kernel
theorem dX5_init_112 : decode cX5_init 112 = .ok (.aastore, 1) := by decide +kernel
theorem dX5_init_113 : decode cX5_init 113 = .ok (.iinc 2 1, 3) := by decide +kernel
theorem dX5_init_116 : decode cX5_init 116 = .ok (.goto (-38), 3) := by decide +kernel
theorem dX5_init_119 : decode cX5_init 119 = .ok (.iconst 0, 1) := by decide +kernel
theorem dX5_init_120 : decode cX5_init 120 = .ok (.istore_n 2, 1) := by decide +kernel
theorem dX5_init_121 : decode cX5_init 121 = .ok (.iload_n 2, 1) := by decide +kernel
theorem dX5_init_122 : decode cX5_init 122 = .ok (.bipush 10, 2) := by decide +kernel
theorem dX5_init_124 : decode cX5_init 124 = .ok (.if_icmp .ge 22, 3) := by decide +kernel
theorem dX5_init_127 : decode cX5_init 127 = .ok (.aload_n 0, 1) := by decide +kernel
theorem dX5_init_128 : decode cX5_init 128 = .ok (.getfield 32, 3) := by decide +kernel
theorem dX5_init_131 : decode cX5_init 131 = .ok (.iload_n 2, 1) := by decide +kernel
theorem dX5_init_132 : decode cX5_init 132 = .ok (.new 30, 3) := by decide +kernel
theorem dX5_init_135 : decode cX5_init 135 = .ok (.dup, 1) := by decide +kernel
theorem dX5_init_136 : decode cX5_init 136 = .ok (.invokespecial 57, 3) := by decide +kernel
theorem dX5_init_139 : decode cX5_init 139 = .ok (.aastore, 1) := by decide +kernel
theorem dX5_init_140 : decode cX5_init 140 = .ok (.iinc 2 1, 3) := by decide +kernel
theorem dX5_init_143 : decode cX5_init 143 = .ok (.goto (-22), 3) := by decide +kernel
theorem dX5_init_146 : decode cX5_init 146 = .ok (.iconst 0, 1) := by decide +kernel
theorem dX5_init_147 : decode cX5_init 147 = .ok (.istore_n 2, 1) := by decide +kernel
theorem dX5_init_148 : decode cX5_init 148 = .ok (.iload_n 2, 1) := by decide +kernel
theorem dX5_init_149 : decode cX5_init 149 = .ok (.sipush 200, 3) := by decide +kernel
theorem dX5_init_152 : decode cX5_init 152 = .ok (.if_icmp .ge 22, 3) := by decide +kernel
theorem dX5_init_155 : decode cX5_init 155 = .ok (.aload_n 0, 1) := by decide +kernel
theorem dX5_init_156 : decode cX5_init 156 = .ok (.getfield 38, 3) := by decide +kernel
theorem dX5_init_159 : decode cX5_init 159 = .ok (.iload_n 2, 1) := by decide +kernel
theorem dX5_init_160 : decode cX5_init 160 = .ok (.new 36, 3) := by decide +kernel
theorem dX5_init_163 : decode cX5_init 163 = .ok (.dup, 1) := by decide +kernel
theorem dX5_init_164 : decode cX5_init 164 = .ok (.invokespecial 58, 3) := by decide +kernel
theorem dX5_init_167 : decode cX5_init 167 = .ok (.aastore, 1) := by decide +kernel
theorem dX5_init_168 : decode cX5_init 168 = .ok (.iinc 2 1, 3) := by decide +kernel
theorem dX5_init_171 : decode cX5_init 171 = .ok (.goto (-23), 3) := by decide +kernel
theorem dX5_init_174 : decode cX5_init 174 = .ok (.return_, 1) := by decide +kernel
theorem dX5_init_72 : decode cX5_init 72 = .ok (.aconst_null, 1) := by decide +kernel
set_option maxRecDepth 100000 in
set_option maxHeartbeats 4000000 in
/-- k_Traffic_t -/
theorem k_Traffic_t (l : Launch) (dC : Nat → ClassId) (dI : Nat → Nat → Nat) (cy : Nat → ClassId) (a0 : Nat) (sz : Nat) : Met l yX5_init (tp_w yX5_init cX5_init 3 none) ({ frames := 4, cells := 847, slots := 10875, locals := 76 }) (va_Pc [.ref a0, .int 1] (mPre dC dI cy (cw [(a0, .inr (5, [.null, .null, .null, .null, .null, .null, .int 0, .int 0, .int 0, .int 0, .int 0, .int 0]))]) sz)) (va_Qv (fun _ : Unit => True) (fun (_ : Unit) (t : State) => ∃ (t9 : Nat) (L : Lay) (τ : Tau), L 0 0 = a0 ∧ TL L (some t9) τ ∧ τ.2.2 = (fun _ => 1, fun _ _ => 0) ∧ mw (dC, dI) vwCl (va_A [(a0, .inr (5, [.null, .null, .null, .null, .null, .null, .int 0, .int 0, .int 0, .int 0, .int 0, .int 0]))] sz) (TW cy L (some t9) St0 K0 τ) t.heap) (va_A [(a0, .inr (5, [.null, .null, .null, .null, .null, .null, .int 0, .int 0, .int 0, .int 0, .int 0, .int 0]))] sz)) 847 10875 (va_A [(a0, .inr (5, [.null, .null, .null, .null, .null, .null, .int 0, .int 0, .int 0, .int 0, .int 0, .int 0]))] sz) := by
  refine Met.ofW (cc := cX5_init) (maxL := 3) (ret := none) (by decide) rfl ?_
  intro p e s m args below meth c s₁ B hml hv
  obtain ⟨rfl, hsz, hM, hK, hE⟩ := hv
  have hx := B.exec
  have hb := B.bytes
  have hr := B.returns
  have hts0 := atoms_spec (ws := tp_w yX5_init cX5_init 3 none) B.pre
  have hts : ∀ w ∈ tp_all, w.before _ s = true := fun w h => hts0 w (List.mem_cons_of_mem _ h)
  have hown : s.vm.findClass RX5 = some m.cls := findClass_of_methodNamed B.named
  have hlocks := B.notSynchronized
  have hin : meth.name = "<init>" := (name_of_methodNamed B.named B.method).1
  subst hsz
  have hP : va_P (dC, dI) vwCl [(a0, .inr (5, [.null, .null, .null, .null, .null, .null, .int 0, .int 0, .int 0, .int 0, .int 0, .int 0]))] s.heap := cw_P hM
  have hD : va_D (va_A [(a0, .inr (5, [.null, .null, .null, .null, .null, .null, .int 0, .int 0, .int 0, .int 0, .int 0, .int 0]))] s.heap.size) [(a0, .inr (5, [.null, .null, .null, .null, .null, .null, .int 0, .int 0, .int 0, .int 0, .int 0, .int 0]))] := cw_D1
  generalize hAe : va_A [(a0, .inr (5, [.null, .null, .null, .null, .null, .null, .int 0, .int 0, .int 0, .int 0, .int 0, .int 0]))] s.heap.size = A at hD ⊢
  have hA : ∀ q : Nat, s.heap.size ≤ q → A q := fun q h => by rw [← hAe]; exact Or.inr h
  have hS : va_S A s.heap s.heap [] := va_S.rf
  have hl9 := lv_entry ([.ref a0, .int 1]) (n := 3) (Nat.le_of_ble_eq_true rfl)
  rw [lg_entry_eq]
  generalize (lg_sl ([.ref a0, .int 1]) ++ List.replicate (3 - (lg_sl ([.ref a0, .int 1])).length) Slot.unset).toArray = ls at hl9 ⊢
  have hl : lv_has ls 3 [(0, .ref a0), (1, .int 1)] := hl9
  refine lv_aload_n hx hb dX5_init_0 rfl (lv_at hl 0 rfl) ?_
  refine W.objInit hx hb hown (hts _ tw_591) (hts _ tw_74) (hts _ tw_75) rfl (by rw [hml]; exact hl.1) rfl dX5_init_1 (Nat.le_of_ble_eq_true rfl) (Nat.le_of_ble_eq_true rfl) ?_
  refine W.eq (g2 := F0 m 4 ls []) rfl ?_
  refine lv_aload_n hx hb dX5_init_4 rfl (lv_at hl 0 rfl) ?_
  have hM : mw (dC, dI) vwCl A (fun q e => q = a0 ∧ e = .inr (5, [.null, .null, .null, .null, .null, .null, .int 0, .int 0, .int 0, .int 0, .int 0, .int 0])) s.heap := (mw.ofL hP hD).sub (fun q e h => by obtain ⟨rfl, rfl⟩ := h; exact List.mem_of_getElem? (i := 0) rfl)
  clear hP hD
  have hP := hM
  clear hM
  obtain ⟨ws9, hPw, hDw, hin9, hbk⟩ := hP.push
  have h8 : tp_dv 4 tyX2 [.null, .int 0, .null, .int 0] = true := by decide +kernel
  refine va_new (ci := 2) (fs := [.null, .int 0, .null, .int 0]) (C := RX2) (T := TX2) (N := 4) hx hb hts tl_X2 tyX2 tyX2_ok hown (hts _ tw_592) (hts _ tw_593) (hts _ tw_22) hK hPw hDw hS hA rfl (fun j hj => tp_dv_ok h8 j hj) (by show 0 + 1 ≤ 847; omega) (by show 0 + 4 ≤ 10875; omega) dX5_init_5 (fun a9 H hPw hDw hS => ?_)
  obtain ⟨hP, hfr⟩ := hbk _ _ _ hPw hDw
  clear hbk hPw hDw hin9
  refine lv_dup hx hb dX5_init_8 rfl ?_
  have hC : ∀ q e, cw [(a9, .inr (2, [.null, .int 0, .null, .int 0]))] q e → madd (fun q e => q = a0 ∧ e = .inr (5, [.null, .null, .null, .null, .null, .null, .int 0, .int 0, .int 0, .int 0, .int 0, .int 0])) a9 (.inr (2, [.null, .int 0, .null, .int 0])) q e := fun q e h => by cases List.mem_singleton.mp h; exact Or.inr ⟨rfl, rfl⟩
  have hFc : ∀ q, va_A [(a9, .inr (2, [.null, .int 0, .null, .int 0]))] H.size q → A q := fun q h => m_free hP hS hA hC q (mA_va.mp h)
  refine va_callv (va_runI (As := []) (rest := [.ref a9, .ref a0]) ⟨hx, hb, hml, hown, hts⟩ (k_Roads l dC dI cy a9 H.size) (tp_cwI 0 hts tw_594 tw_595 tw_22 tw_596 rfl rfl rfl (by decide +kernel) ⟨Nat.le_of_ble_eq_true rfl, Nat.le_of_ble_eq_true rfl⟩) ⟨m_blind, fun U hU hW => ⟨rfl, m_pay hK hP hE hC U hU hW⟩⟩ rfl rfl hl.1 rfl (lv_room (Nat.le_of_ble_eq_true rfl)) dX5_init_9 ⟨(by show 0 + 1 + 158 ≤ 847; omega), (by show 0 + 4 + 2676 ≤ 10875; omega)⟩) hS (fun q _ h => hFc q h) hFc (fun u t H1 locs ht hvm hpo hB hz1 hk1 hS => ?_)
  obtain ⟨L1, hL1, hLI1, hM1⟩ := hB
  rw [ht] at hM1
  obtain ⟨hP2, -, hQ⟩ := hP.joinM hfr hk1 hFc hM1
  clear hP
  have hP := hP2
  clear hP2
  have hap : ∀ q e, (MD cy none K0 L1 GRo) q e → q ≠ a0 := fun q e h => (hQ a0 _ q e ⟨rfl, rfl⟩ h).symm
  clear hQ hM1 hk1 hFc hC hfr h8
  generalize H1 = H at hP hS ⊢
  subst hL1
  obtain ⟨ws9, k9, hPw, hDw, hk9, -, hbk⟩ := hP.cut (e := .inr (5, [.null, .null, .null, .null, .null, .null, .int 0, .int 0, .int 0, .int 0, .int 0, .int 0])) (Or.inl ⟨rfl, rfl⟩)
  refine va_putF (D := (dC, dI)) (ci := 5) (v := .ref (L1 1 0)) (ty := (.object "Turnpike$Roads")) (C := RX5) (T := TX5) (N := 12) hx hb hts tl_X5 tyX5 tyX5_ok nmX5 hown hK hPw hDw hS k9 hk9 rfl 0 (by decide) (hts _ tw_873) (fun _ h9 => h9) rfl hin rfl (by decide +kernel) rfl rfl (Nat.le_of_ble_eq_true rfl) dX5_init_12 (fun H locs hPw hDw hS => ?_)
  have hP : mw (dC, dI) vwCl A (fun q e => (q = a0 ∧ e = .inr (5, [.ref (L1 1 0), .null, .null, .null, .null, .null, .int 0, .int 0, .int 0, .int 0, .int 0, .int 0])) ∨ (MD cy none K0 L1 GRo) q e) H := (hbk _ _ hPw hDw).sub (mset_one hap)
  clear hbk hPw hDw hk9
  refine lv_aload_n hx hb dX5_init_15 rfl (lv_at hl 0 rfl) ?_
  refine lv_bipush (v := 12) hx hb dX5_init_16 (by decide) ?_
  obtain ⟨ws9, hPw, hDw, hin9, hbk⟩ := hP.push
  refine va_newq hx hb (C := RX4) (N' := 12) hown (hts _ tw_711) (hE.2.2.1 _ (List.mem_of_getElem? (i := 1) rfl)) hK hPw hDw hS hA (by decide) (by decide) (Nat.le_of_ble_eq_true rfl) (by show 0 + 1 + 158 + 1 ≤ 847; omega) (by show 0 + 4 + 2676 + 12 ≤ 10875; omega) dX5_init_18 (fun q20 k9 H hK9 hPw hDw hS => ?_)
  obtain rfl : k9 = cy 4 := tp_one hK9 11 4 rfl rfl
  obtain ⟨hP, hfq20⟩ := hbk _ _ _ hPw hDw
  have hP : mw (dC, dI) vwCl A (fun q e => (q = a0 ∧ e = .inr (5, [.ref (L1 1 0), .null, .null, .null, .null, .null, .int 0, .int 0, .int 0, .int 0, .int 0, .int 0])) ∨ (fun q e => (MD cy none K0 L1 GRo) q e ∨ (q = q20 ∧ e = arQ (cy 4) 12 (fun _ => none))) q e) H := hP.sub (fun q e h => h.elim (fun h => Or.inl (Or.inl h)) (fun h => h.elim (fun h => Or.inl (Or.inr h)) (fun h => Or.inr h)))
  have hap : ∀ q e, (fun q e => (MD cy none K0 L1 GRo) q e ∨ (q = q20 ∧ e = arQ (cy 4) 12 (fun _ => none))) q e → q ≠ a0 := fun q e h => h.elim (hap q e) (fun h => by rw [h.1]; exact (hfq20 a0 _ (Or.inl ⟨rfl, rfl⟩)).symm)
  clear hbk hPw hDw hin9 hK9
  obtain ⟨ws9, k9, hPw, hDw, hk9, -, hbk⟩ := hP.cut (e := .inr (5, [.ref (L1 1 0), .null, .null, .null, .null, .null, .int 0, .int 0, .int 0, .int 0, .int 0, .int 0])) (Or.inl ⟨rfl, rfl⟩)
  refine va_putF (D := (dC, dI)) (ci := 5) (v := .ref q20) (ty := (.array (.object "Turnpike$Signal"))) (C := RX5) (T := TX5) (N := 12) hx hb hts tl_X5 tyX5 tyX5_ok nmX5 hown hK hPw hDw hS k9 hk9 rfl 1 (by decide) (hts _ tw_875) (fun _ h9 => h9) rfl hin rfl (by decide +kernel) rfl rfl (Nat.le_of_ble_eq_true rfl) dX5_init_21 (fun H locs hPw hDw hS => ?_)
  have hP : mw (dC, dI) vwCl A (fun q e => (q = a0 ∧ e = .inr (5, [.ref (L1 1 0), .ref q20, .null, .null, .null, .null, .int 0, .int 0, .int 0, .int 0, .int 0, .int 0])) ∨ (fun q e => (MD cy none K0 L1 GRo) q e ∨ (q = q20 ∧ e = arQ (cy 4) 12 (fun _ => none))) q e) H := (hbk _ _ hPw hDw).sub (mset_one hap)
  clear hbk hPw hDw hk9
  refine lv_aload_n hx hb dX5_init_24 rfl (lv_at hl 0 rfl) ?_
  refine lv_bipush (v := 12) hx hb dX5_init_25 (by decide) ?_
  obtain ⟨ws9, hPw, hDw, hin9, hbk⟩ := hP.push
  refine va_newq hx hb (C := RX3) (N' := 12) hown (hts _ tw_713) (hE.2.2.1 _ (List.mem_of_getElem? (i := 2) rfl)) hK hPw hDw hS hA (by decide) (by decide) (Nat.le_of_ble_eq_true rfl) (by show 0 + 1 + 158 + 1 + 1 ≤ 847; omega) (by show 0 + 4 + 2676 + 12 + 12 ≤ 10875; omega) dX5_init_27 (fun q21 k9 H hK9 hPw hDw hS => ?_)
  obtain rfl : k9 = cy 5 := tp_one hK9 11 5 rfl rfl
  obtain ⟨hP, hfq21⟩ := hbk _ _ _ hPw hDw
  have hP : mw (dC, dI) vwCl A (fun q e => (q = a0 ∧ e = .inr (5, [.ref (L1 1 0), .ref q20, .null, .null, .null, .null, .int 0, .int 0, .int 0, .int 0, .int 0, .int 0])) ∨ (fun q e => (fun q e => (MD cy none K0 L1 GRo) q e ∨ (q = q20 ∧ e = arQ (cy 4) 12 (fun _ => none))) q e ∨ (q = q21 ∧ e = arQ (cy 5) 12 (fun _ => none))) q e) H := hP.sub (fun q e h => h.elim (fun h => Or.inl (Or.inl h)) (fun h => h.elim (fun h => Or.inl (Or.inr h)) (fun h => Or.inr h)))
  have hap : ∀ q e, (fun q e => (fun q e => (MD cy none K0 L1 GRo) q e ∨ (q = q20 ∧ e = arQ (cy 4) 12 (fun _ => none))) q e ∨ (q = q21 ∧ e = arQ (cy 5) 12 (fun _ => none))) q e → q ≠ a0 := fun q e h => h.elim (hap q e) (fun h => by rw [h.1]; exact (hfq21 a0 _ (Or.inl ⟨rfl, rfl⟩)).symm)
  clear hbk hPw hDw hin9 hK9
  obtain ⟨ws9, k9, hPw, hDw, hk9, -, hbk⟩ := hP.cut (e := .inr (5, [.ref (L1 1 0), .ref q20, .null, .null, .null, .null, .int 0, .int 0, .int 0, .int 0, .int 0, .int 0])) (Or.inl ⟨rfl, rfl⟩)
  refine va_putF (D := (dC, dI)) (ci := 5) (v := .ref q21) (ty := (.array (.object "Turnpike$Row"))) (C := RX5) (T := TX5) (N := 12) hx hb hts tl_X5 tyX5 tyX5_ok nmX5 hown hK hPw hDw hS k9 hk9 rfl 2 (by decide) (hts _ tw_877) (fun _ h9 => h9) rfl hin rfl (by decide +kernel) rfl rfl (Nat.le_of_ble_eq_true rfl) dX5_init_30 (fun H locs hPw hDw hS => ?_)
  have hP : mw (dC, dI) vwCl A (fun q e => (q = a0 ∧ e = .inr (5, [.ref (L1 1 0), .ref q20, .ref q21, .null, .null, .null, .int 0, .int 0, .int 0, .int 0, .int 0, .int 0])) ∨ (fun q e => (fun q e => (MD cy none K0 L1 GRo) q e ∨ (q = q20 ∧ e = arQ (cy 4) 12 (fun _ => none))) q e ∨ (q = q21 ∧ e = arQ (cy 5) 12 (fun _ => none))) q e) H := (hbk _ _ hPw hDw).sub (mset_one hap)
  clear hbk hPw hDw hk9
  refine lv_aload_n hx hb dX5_init_33 rfl (lv_at hl 0 rfl) ?_
  refine lv_bipush (v := 10) hx hb dX5_init_34 (by decide) ?_
  obtain ⟨ws9, hPw, hDw, hin9, hbk⟩ := hP.push
  refine va_newq hx hb (C := RX0) (N' := 10) hown (hts _ tw_715) (hE.2.2.1 _ (List.mem_of_getElem? (i := 3) rfl)) hK hPw hDw hS hA (by decide) (by decide) (Nat.le_of_ble_eq_true rfl) (by show 0 + 1 + 158 + 1 + 1 + 1 ≤ 847; omega) (by show 0 + 4 + 2676 + 12 + 12 + 10 ≤ 10875; omega) dX5_init_36 (fun q22 k9 H hK9 hPw hDw hS => ?_)
  obtain rfl : k9 = cy 6 := tp_one hK9 11 6 rfl rfl
  obtain ⟨hP, hfq22⟩ := hbk _ _ _ hPw hDw
  have hP : mw (dC, dI) vwCl A (fun q e => (q = a0 ∧ e = .inr (5, [.ref (L1 1 0), .ref q20, .ref q21, .null, .null, .null, .int 0, .int 0, .int 0, .int 0, .int 0, .int 0])) ∨ (fun q e => (fun q e => (fun q e => (MD cy none K0 L1 GRo) q e ∨ (q = q20 ∧ e = arQ (cy 4) 12 (fun _ => none))) q e ∨ (q = q21 ∧ e = arQ (cy 5) 12 (fun _ => none))) q e ∨ (q = q22 ∧ e = arQ (cy 6) 10 (fun _ => none))) q e) H := hP.sub (fun q e h => h.elim (fun h => Or.inl (Or.inl h)) (fun h => h.elim (fun h => Or.inl (Or.inr h)) (fun h => Or.inr h)))
  have hap : ∀ q e, (fun q e => (fun q e => (fun q e => (MD cy none K0 L1 GRo) q e ∨ (q = q20 ∧ e = arQ (cy 4) 12 (fun _ => none))) q e ∨ (q = q21 ∧ e = arQ (cy 5) 12 (fun _ => none))) q e ∨ (q = q22 ∧ e = arQ (cy 6) 10 (fun _ => none))) q e → q ≠ a0 := fun q e h => h.elim (hap q e) (fun h => by rw [h.1]; exact (hfq22 a0 _ (Or.inl ⟨rfl, rfl⟩)).symm)
  clear hbk hPw hDw hin9 hK9
  obtain ⟨ws9, k9, hPw, hDw, hk9, -, hbk⟩ := hP.cut (e := .inr (5, [.ref (L1 1 0), .ref q20, .ref q21, .null, .null, .null, .int 0, .int 0, .int 0, .int 0, .int 0, .int 0])) (Or.inl ⟨rfl, rfl⟩)
  refine va_putF (D := (dC, dI)) (ci := 5) (v := .ref q22) (ty := (.array (.object "Turnpike$Flow"))) (C := RX5) (T := TX5) (N := 12) hx hb hts tl_X5 tyX5 tyX5_ok nmX5 hown hK hPw hDw hS k9 hk9 rfl 3 (by decide) (hts _ tw_879) (fun _ h9 => h9) rfl hin rfl (by decide +kernel) rfl rfl (Nat.le_of_ble_eq_true rfl) dX5_init_39 (fun H locs hPw hDw hS => ?_)
  have hP : mw (dC, dI) vwCl A (fun q e => (q = a0 ∧ e = .inr (5, [.ref (L1 1 0), .ref q20, .ref q21, .ref q22, .null, .null, .int 0, .int 0, .int 0, .int 0, .int 0, .int 0])) ∨ (fun q e => (fun q e => (fun q e => (MD cy none K0 L1 GRo) q e ∨ (q = q20 ∧ e = arQ (cy 4) 12 (fun _ => none))) q e ∨ (q = q21 ∧ e = arQ (cy 5) 12 (fun _ => none))) q e ∨ (q = q22 ∧ e = arQ (cy 6) 10 (fun _ => none))) q e) H := (hbk _ _ hPw hDw).sub (mset_one hap)
  clear hbk hPw hDw hk9
  refine lv_aload_n hx hb dX5_init_42 rfl (lv_at hl 0 rfl) ?_
  refine lv_sipush (v := 200) hx hb dX5_init_43 (by decide) ?_
  obtain ⟨ws9, hPw, hDw, hin9, hbk⟩ := hP.push
  refine va_newq hx hb (C := RX7) (N' := 200) hown (hts _ tw_717) (hE.2.2.1 _ (List.mem_of_getElem? (i := 4) rfl)) hK hPw hDw hS hA (by decide) (by decide) (Nat.le_of_ble_eq_true rfl) (by show 0 + 1 + 158 + 1 + 1 + 1 + 1 ≤ 847; omega) (by show 0 + 4 + 2676 + 12 + 12 + 10 + 200 ≤ 10875; omega) dX5_init_46 (fun q23 k9 H hK9 hPw hDw hS => ?_)
  obtain rfl : k9 = cy 7 := tp_one hK9 11 7 rfl rfl
  obtain ⟨hP, hfq23⟩ := hbk _ _ _ hPw hDw
  have hP : mw (dC, dI) vwCl A (fun q e => (q = a0 ∧ e = .inr (5, [.ref (L1 1 0), .ref q20, .ref q21, .ref q22, .null, .null, .int 0, .int 0, .int 0, .int 0, .int 0, .int 0])) ∨ (fun q e => (fun q e => (fun q e => (fun q e => (MD cy none K0 L1 GRo) q e ∨ (q = q20 ∧ e = arQ (cy 4) 12 (fun _ => none))) q e ∨ (q = q21 ∧ e = arQ (cy 5) 12 (fun _ => none))) q e ∨ (q = q22 ∧ e = arQ (cy 6) 10 (fun _ => none))) q e ∨ (q = q23 ∧ e = arQ (cy 7) 200 (fun _ => none))) q e) H := hP.sub (fun q e h => h.elim (fun h => Or.inl (Or.inl h)) (fun h => h.elim (fun h => Or.inl (Or.inr h)) (fun h => Or.inr h)))
  have hap : ∀ q e, (fun q e => (fun q e => (fun q e => (fun q e => (MD cy none K0 L1 GRo) q e ∨ (q = q20 ∧ e = arQ (cy 4) 12 (fun _ => none))) q e ∨ (q = q21 ∧ e = arQ (cy 5) 12 (fun _ => none))) q e ∨ (q = q22 ∧ e = arQ (cy 6) 10 (fun _ => none))) q e ∨ (q = q23 ∧ e = arQ (cy 7) 200 (fun _ => none))) q e → q ≠ a0 := fun q e h => h.elim (hap q e) (fun h => by rw [h.1]; exact (hfq23 a0 _ (Or.inl ⟨rfl, rfl⟩)).symm)
  clear hbk hPw hDw hin9 hK9
  obtain ⟨ws9, k9, hPw, hDw, hk9, -, hbk⟩ := hP.cut (e := .inr (5, [.ref (L1 1 0), .ref q20, .ref q21, .ref q22, .null, .null, .int 0, .int 0, .int 0, .int 0, .int 0, .int 0])) (Or.inl ⟨rfl, rfl⟩)
  refine va_putF (D := (dC, dI)) (ci := 5) (v := .ref q23) (ty := (.array (.object "Turnpike$Vehicle"))) (C := RX5) (T := TX5) (N := 12) hx hb hts tl_X5 tyX5 tyX5_ok nmX5 hown hK hPw hDw hS k9 hk9 rfl 4 (by decide) (hts _ tw_881) (fun _ h9 => h9) rfl hin rfl (by decide +kernel) rfl rfl (Nat.le_of_ble_eq_true rfl) dX5_init_49 (fun H locs hPw hDw hS => ?_)
  have hP : mw (dC, dI) vwCl A (fun q e => (q = a0 ∧ e = .inr (5, [.ref (L1 1 0), .ref q20, .ref q21, .ref q22, .ref q23, .null, .int 0, .int 0, .int 0, .int 0, .int 0, .int 0])) ∨ (fun q e => (fun q e => (fun q e => (fun q e => (MD cy none K0 L1 GRo) q e ∨ (q = q20 ∧ e = arQ (cy 4) 12 (fun _ => none))) q e ∨ (q = q21 ∧ e = arQ (cy 5) 12 (fun _ => none))) q e ∨ (q = q22 ∧ e = arQ (cy 6) 10 (fun _ => none))) q e ∨ (q = q23 ∧ e = arQ (cy 7) 200 (fun _ => none))) q e) H := (hbk _ _ hPw hDw).sub (mset_one hap)
  clear hbk hPw hDw hk9
  refine lv_aload_n hx hb dX5_init_52 rfl (lv_at hl 0 rfl) ?_
  refine lv_iconst (v := 1) hx hb dX5_init_53 (by decide) ?_
  obtain ⟨ws9, k9, hPw, hDw, hk9, -, hbk⟩ := hP.cut (e := .inr (5, [.ref (L1 1 0), .ref q20, .ref q21, .ref q22, .ref q23, .null, .int 0, .int 0, .int 0, .int 0, .int 0, .int 0])) (Or.inl ⟨rfl, rfl⟩)
  refine va_put (D := (dC, dI)) (ci := 5) (v := .int 1) (ty := .int) (C := RX5) (T := TX5) (N := 12) hx hb hts tl_X5 tyX5 tyX5_ok nmX5 hown hK hPw hDw hS k9 hk9 rfl 7 (by decide) (hts _ tw_887) (fun _ h9 => h9) rfl (by decide +kernel) rfl rfl (Nat.le_of_ble_eq_true rfl) dX5_init_54 (fun H locs hPw hDw hS => ?_)
  have hP : mw (dC, dI) vwCl A (fun q e => (q = a0 ∧ e = .inr (5, [.ref (L1 1 0), .ref q20, .ref q21, .ref q22, .ref q23, .null, .int 0, .int 1, .int 0, .int 0, .int 0, .int 0])) ∨ (fun q e => (fun q e => (fun q e => (fun q e => (MD cy none K0 L1 GRo) q e ∨ (q = q20 ∧ e = arQ (cy 4) 12 (fun _ => none))) q e ∨ (q = q21 ∧ e = arQ (cy 5) 12 (fun _ => none))) q e ∨ (q = q22 ∧ e = arQ (cy 6) 10 (fun _ => none))) q e ∨ (q = q23 ∧ e = arQ (cy 7) 200 (fun _ => none))) q e) H := (hbk _ _ hPw hDw).sub (mset_one hap)
  clear hbk hPw hDw hk9
  refine lv_aload_n hx hb dX5_init_57 rfl (lv_at hl 0 rfl) ?_
  refine lv_iload_n hx hb dX5_init_58 rfl (lv_at hl 1 rfl) ?_
  refine lv_if_eq (tgt := 72) hx hb dX5_init_59 (by decide) (fun c_1 => absurd c_1 (by decide)) (fun _ => ?_)
  obtain ⟨ws9, hPw, hDw, hin9, hbk⟩ := hP.push
  have h8 : tp_dv 1 tyX6 [.null] = true := by decide +kernel
  refine va_new (ci := 6) (fs := [.null]) (C := RX6) (T := TX6) (N := 1) hx hb hts tl_X6 tyX6 tyX6_ok hown (hts _ tw_719) (hts _ tw_720) (hts _ tw_26) hK hPw hDw hS hA rfl (fun j hj => tp_dv_ok h8 j hj) (by show 0 + 1 + 158 + 1 + 1 + 1 + 1 + 1 ≤ 847; omega) (by show 0 + 4 + 2676 + 12 + 12 + 10 + 200 + 1 ≤ 10875; omega) dX5_init_62 (fun a9 H hPw hDw hS => ?_)
  obtain ⟨hP, hfr⟩ := hbk _ _ _ hPw hDw
  clear hbk hPw hDw hin9
  refine lv_dup hx hb dX5_init_65 rfl ?_
  have hC : ∀ q e, cw [(a9, .inr (6, [.null]))] q e → madd (fun q e => (q = a0 ∧ e = .inr (5, [.ref (L1 1 0), .ref q20, .ref q21, .ref q22, .ref q23, .null, .int 0, .int 1, .int 0, .int 0, .int 0, .int 0])) ∨ (fun q e => (fun q e => (fun q e => (fun q e => (MD cy none K0 L1 GRo) q e ∨ (q = q20 ∧ e = arQ (cy 4) 12 (fun _ => none))) q e ∨ (q = q21 ∧ e = arQ (cy 5) 12 (fun _ => none))) q e ∨ (q = q22 ∧ e = arQ (cy 6) 10 (fun _ => none))) q e ∨ (q = q23 ∧ e = arQ (cy 7) 200 (fun _ => none))) q e) a9 (.inr (6, [.null])) q e := fun q e h => by cases List.mem_singleton.mp h; exact Or.inr ⟨rfl, rfl⟩
  have hFc : ∀ q, va_A [(a9, .inr (6, [.null]))] H.size q → A q := fun q h => m_free hP hS hA hC q (mA_va.mp h)
  refine va_callv (va_runIN (As := []) (rest := [.ref a9, .ref a0]) ⟨hx, hb, hml, hown, hts⟩ (k_Trails l dC dI cy a9 H.size) ⟨tp_cnB 0 hts (te_m2 hE) tw_26 tw_723 rfl rfl (by decide +kernel) ⟨Nat.le_of_ble_eq_true rfl, Nat.le_of_ble_eq_true rfl⟩, rfl, hts _ tw_722⟩ ⟨m_blind, fun U hU hW => ⟨rfl, m_pay hK hP hE hC U hU hW⟩⟩ rfl rfl hl.1 rfl (lv_room (Nat.le_of_ble_eq_true rfl)) dX5_init_66 ⟨(by show 0 + 1 + 158 + 1 + 1 + 1 + 1 + 1 + 201 ≤ 847; omega), (by show 0 + 4 + 2676 + 12 + 12 + 10 + 200 + 1 + 400 ≤ 10875; omega)⟩) hS (fun q _ h => hFc q h) hFc (fun u t H1 locs ht hvm hpo hB hz1 hk1 hS => ?_)
  obtain ⟨qt, rt, hrt, hPk, hDk⟩ := hB
  rw [ht] at hPk
  have hM9 := trails_end hPk hDk
  obtain ⟨hP2, -, hQ⟩ := hP.joinM hfr hk1 hFc hM9
  clear hP
  have hP := hP2
  clear hP2
  clear hM9 hPk hDk hk1 hFc hC hfr h8
  generalize H1 = H at hP hS ⊢
  generalize a9 = tr9 at hP hQ ⊢
  have hP : mw (dC, dI) vwCl A (fun q e => (q = a0 ∧ e = .inr (5, [.ref (L1 1 0), .ref q20, .ref q21, .ref q22, .ref q23, .null, .int 0, .int 1, .int 0, .int 0, .int 0, .int 0])) ∨ (fun q e => (fun q e => (fun q e => (fun q e => (fun q e => (MD cy none K0 L1 GRo) q e ∨ (q = q20 ∧ e = arQ (cy 4) 12 (fun _ => none))) q e ∨ (q = q21 ∧ e = arQ (cy 5) 12 (fun _ => none))) q e ∨ (q = q22 ∧ e = arQ (cy 6) 10 (fun _ => none))) q e ∨ (q = q23 ∧ e = arQ (cy 7) 200 (fun _ => none))) q e ∨ trw cy (some tr9) (qt, rt, fun _ => 1, fun _ _ => 0) q e) q e) H := hP.sub (fun q e h => h.elim (fun h => Or.inl (Or.inl h)) (fun h => h.elim (fun h => Or.inl (Or.inr h)) (fun h => Or.inr h)))
  have hap : ∀ q e, (fun q e => (fun q e => (fun q e => (fun q e => (fun q e => (MD cy none K0 L1 GRo) q e ∨ (q = q20 ∧ e = arQ (cy 4) 12 (fun _ => none))) q e ∨ (q = q21 ∧ e = arQ (cy 5) 12 (fun _ => none))) q e ∨ (q = q22 ∧ e = arQ (cy 6) 10 (fun _ => none))) q e ∨ (q = q23 ∧ e = arQ (cy 7) 200 (fun _ => none))) q e ∨ trw cy (some tr9) (qt, rt, fun _ => 1, fun _ _ => 0) q e) q e → q ≠ a0 := fun q e h => h.elim (hap q e) (fun h => (hQ a0 _ q e (Or.inl ⟨rfl, rfl⟩) h).symm)
  refine lv_goto (tgt := 73) hx hb dX5_init_69 (by decide) ?_
  obtain ⟨ws9, k9, hPw, hDw, hk9, -, hbk⟩ := hP.cut (e := .inr (5, [.ref (L1 1 0), .ref q20, .ref q21, .ref q22, .ref q23, .null, .int 0, .int 1, .int 0, .int 0, .int 0, .int 0])) (Or.inl ⟨rfl, rfl⟩)
  refine va_putF (D := (dC, dI)) (ci := 5) (v := .ref tr9) (ty := (.object "Turnpike$Trails")) (C := RX5) (T := TX5) (N := 12) hx hb hts tl_X5 tyX5 tyX5_ok nmX5 hown hK hPw hDw hS k9 hk9 rfl 5 (by decide) (hts _ tw_883) (fun _ h9 => h9) rfl hin rfl (by decide +kernel) rfl rfl (Nat.le_of_ble_eq_true rfl) dX5_init_73 (fun H locs hPw hDw hS => ?_)
  have hP : mw (dC, dI) vwCl A (fun q e => (q = a0 ∧ e = .inr (5, [.ref (L1 1 0), .ref q20, .ref q21, .ref q22, .ref q23, .ref tr9, .int 0, .int 1, .int 0, .int 0, .int 0, .int 0])) ∨ (fun q e => (fun q e => (fun q e => (fun q e => (fun q e => (MD cy none K0 L1 GRo) q e ∨ (q = q20 ∧ e = arQ (cy 4) 12 (fun _ => none))) q e ∨ (q = q21 ∧ e = arQ (cy 5) 12 (fun _ => none))) q e ∨ (q = q22 ∧ e = arQ (cy 6) 10 (fun _ => none))) q e ∨ (q = q23 ∧ e = arQ (cy 7) 200 (fun _ => none))) q e ∨ trw cy (some tr9) (qt, rt, fun _ => 1, fun _ _ => 0) q e) q e) H := (hbk _ _ hPw hDw).sub (mset_one hap)
  clear hbk hPw hDw hk9
  have hP := traffic_start (tr := (some tr9)) (τ := (qt, rt, fun _ => 1, fun _ _ => 0)) hP
  have hTA : TAp (BTr cy (some tr9) (qt, rt, fun _ => 1, fun _ _ => 0) L1 a0 q20 q21 q22 q23) q20 q21 q22 q23 := by
    refine ⟨?_, hfq21 q20 _ (Or.inr (Or.inr ⟨rfl, rfl⟩)), hfq22 q20 _ (Or.inr (Or.inl (Or.inr ⟨rfl, rfl⟩))), hfq23 q20 _ (Or.inr (Or.inl (Or.inl (Or.inr ⟨rfl, rfl⟩)))), hfq22 q21 _ (Or.inr (Or.inr ⟨rfl, rfl⟩)), hfq23 q21 _ (Or.inr (Or.inl (Or.inr ⟨rfl, rfl⟩))), hfq23 q22 _ (Or.inr (Or.inr ⟨rfl, rfl⟩))⟩
    rintro q e ((⟨rfl, -⟩ | h) | h)
    · exact ⟨hfq20 q _ (Or.inl ⟨rfl, rfl⟩), hfq21 q _ (Or.inl ⟨rfl, rfl⟩), hfq22 q _ (Or.inl ⟨rfl, rfl⟩), hfq23 q _ (Or.inl ⟨rfl, rfl⟩)⟩
    · have h := h.mono (G' := GRo) (fun f i hg => by unfold G3o at hg; unfold GRo; omega)
      exact ⟨hfq20 q e (Or.inr h), hfq21 q e (Or.inr (Or.inl h)), hfq22 q e (Or.inr (Or.inl (Or.inl h))), hfq23 q e (Or.inr (Or.inl (Or.inl (Or.inl h))))⟩
    · exact ⟨(hQ q20 _ q e (Or.inr (Or.inl (Or.inl (Or.inl (Or.inr ⟨rfl, rfl⟩))))) h).symm, (hQ q21 _ q e (Or.inr (Or.inl (Or.inl (Or.inr ⟨rfl, rfl⟩)))) h).symm, (hQ q22 _ q e (Or.inr (Or.inl (Or.inr ⟨rfl, rfl⟩))) h).symm, (hQ q23 _ q e (Or.inr (Or.inr ⟨rfl, rfl⟩)) h).symm⟩
  have hB0 : (BTr cy (some tr9) (qt, rt, fun _ => 1, fun _ _ => 0) L1 a0 q20 q21 q22 q23) a0 (.inr (5, [.ref (L1 1 0), .ref q20, .ref q21, .ref q22, .ref q23, .ref tr9, .int 0, .int 1, .int 0, .int 0, .int 0, .int 0])) := Or.inl (Or.inl ⟨rfl, rfl⟩)
  have hLI := GT_start hLI1
  clear hap hfq20 hfq21 hfq22 hfq23 hQ
  generalize hBe : (BTr cy (some tr9) (qt, rt, fun _ => 1, fun _ _ => 0) L1 a0 q20 q21 q22 q23) = B9 at hP hTA hB0
  refine lv_iconst (v := 0) hx hb dX5_init_76 (by decide) ?_
  refine lv_istore_n (lv' := [(2, .int 0), (0, .ref a0), (1, .int 1)]) hx hb dX5_init_77 rfl hl (by decide) rfl (fun ls hl => ?_)
  refine W.widen (k := (fun i => 365 + 6 * i) 0) (n := (fun i => 3315 + 220 * i) 0) (Nat.le_of_ble_eq_true rfl) (Nat.le_of_ble_eq_true rfl) ?_
  refine tp_for (σ := Lay) 12 (fun i => 365 + 6 * i) (fun i => 3315 + 220 * i) (fun (i : Nat) (L : Lay) (H : Heap) (locs : List Loc) (ls : Array Slot) => (∀ f j, f < 8 ∨ 17 ≤ f → L f j = L1 f j) ∧ LIg (GT i i 0 0) L ∧ mw (dC, dI) vwCl A (TWl cy B9 L q20 q21 q22 q23 i i 0 0) H ∧ va_S A s.heap H locs ∧ lv_has ls 3 [(2, .int (nI i)), (0, .ref a0)]) ?_ ?_ 12 0 (Nat.zero_add _) L1 _ _ ls ⟨(fun _ _ _ => rfl), hLI, hP, hS, lv_sub hl [0, 1] rfl⟩
  · intro L H locs ls ⟨hL, hLI, hP, hS, hl⟩
    have hl : lv_has ls 3 [(2, .int (nI 12)), (0, .ref a0)] := hl
    refine lv_iload_n hx hb dX5_init_78 rfl (lv_at hl 0 rfl) ?_
    refine lv_bipush (v := 12) hx hb dX5_init_79 (by decide) ?_
    refine lv_icmp_ge (tgt := 119) hx hb dX5_init_81 (by decide) (fun _ => ?_) (fun c_3 => absurd (by decide) c_3)
    refine lv_iconst (v := 0) hx hb dX5_init_119 (by decide) ?_
    refine lv_istore_n (lv' := [(2, .int 0), (0, .ref a0)]) hx hb dX5_init_120 rfl hl (by decide) rfl (fun ls hl => ?_)
    refine W.widen (k := (fun i => 437 + 1 * i) 0) (n := (fun i => 5955 + 12 * i) 0) (Nat.le_of_ble_eq_true rfl) (Nat.le_of_ble_eq_true rfl) ?_
    refine tp_for (σ := Lay) 10 (fun i => 437 + 1 * i) (fun i => 5955 + 12 * i) (fun (i : Nat) (L : Lay) (H : Heap) (locs : List Loc) (ls : Array Slot) => (∀ f j, f < 8 ∨ 17 ≤ f → L f j = L1 f j) ∧ LIg (GT 12 12 i 0) L ∧ mw (dC, dI) vwCl A (TWl cy B9 L q20 q21 q22 q23 12 12 i 0) H ∧ va_S A s.heap H locs ∧ lv_has ls 3 [(2, .int (nI i)), (0, .ref a0)]) ?_ ?_ 10 0 (Nat.zero_add _) L _ _ ls ⟨hL, hLI, hP, hS, lv_sub hl [0, 1] rfl⟩
    · intro L H locs ls ⟨hL, hLI, hP, hS, hl⟩
      have hl : lv_has ls 3 [(2, .int (nI 10)), (0, .ref a0)] := hl
      refine lv_iload_n hx hb dX5_init_121 rfl (lv_at hl 0 rfl) ?_
      refine lv_bipush (v := 10) hx hb dX5_init_122 (by decide) ?_
      refine lv_icmp_ge (tgt := 146) hx hb dX5_init_124 (by decide) (fun _ => ?_) (fun c_5 => absurd (by decide) c_5)
      refine lv_iconst (v := 0) hx hb dX5_init_146 (by decide) ?_
      refine lv_istore_n (lv' := [(2, .int 0), (0, .ref a0)]) hx hb dX5_init_147 rfl hl (by decide) rfl (fun ls hl => ?_)
      refine W.widen (k := (fun i => 447 + 2 * i) 0) (n := (fun i => 6075 + 24 * i) 0) (Nat.le_of_ble_eq_true rfl) (Nat.le_of_ble_eq_true rfl) ?_
      refine tp_for (σ := Lay) 200 (fun i => 447 + 2 * i) (fun i => 6075 + 24 * i) (fun (i : Nat) (L : Lay) (H : Heap) (locs : List Loc) (ls : Array Slot) => (∀ f j, f < 8 ∨ 17 ≤ f → L f j = L1 f j) ∧ LIg (GT 12 12 10 i) L ∧ mw (dC, dI) vwCl A (TWl cy B9 L q20 q21 q22 q23 12 12 10 i) H ∧ va_S A s.heap H locs ∧ lv_has ls 3 [(2, .int (nI i)), (0, .ref a0)]) ?_ ?_ 200 0 (Nat.zero_add _) L _ _ ls ⟨hL, hLI, hP, hS, lv_sub hl [0, 1] rfl⟩
      · intro L H locs ls ⟨hL, hLI, hP, hS, hl⟩
        have hl : lv_has ls 3 [(2, .int (nI 200)), (0, .ref a0)] := hl
        refine lv_iload_n hx hb dX5_init_148 rfl (lv_at hl 0 rfl) ?_
        refine lv_sipush (v := 200) hx hb dX5_init_149 (by decide) ?_
        refine lv_icmp_ge (tgt := 174) hx hb dX5_init_152 (by decide) (fun _ => ?_) (fun c_7 => absurd (by decide) c_7)
        refine W.widen (k := 847) (n := 10875) (by decide) (by decide) ?_
        subst hBe
        obtain ⟨K9, h1, h2, h3⟩ := traffic_end hP hLI hTA hL (fun _ => hrt)
        exact W.vret hx hb hr (fun t ht hW => ⟨⟨(), rfl, trivial, tr9, K9, (qt, rt, fun _ => 1, fun _ _ => 0), h1, h2, rfl, by subst ht; exact h3⟩, hS.F ht⟩) hS.2.2 dX5_init_174
      · intro i L H locs ls hi ⟨hL, hLI, hP, hS, hl⟩ ih
        have hl : lv_has ls 3 [(2, .int (nI i)), (0, .ref a0)] := hl
        refine lv_iload_n hx hb dX5_init_148 rfl (lv_at hl 0 rfl) ?_
        refine lv_sipush (v := 200) hx hb dX5_init_149 (by decide) ?_
        refine lv_icmp_ge (tgt := 174) hx hb dX5_init_152 (by decide) (fun c_6 => absurd c_6 (nI_ge (a := i) (b := 200) hi (by decide))) (fun _ => ?_)
        refine lv_aload_n hx hb dX5_init_155 rfl (lv_at hl 1 rfl) ?_
        refine va_get (D := (dC, dI)) (ws := [(a0, .inr (5, [.ref (L1 1 0), .ref q20, .ref q21, .ref q22, .ref q23, .ref tr9, .int 0, .int 1, .int 0, .int 0, .int 0, .int 0]))]) (ci := 5) (v := .ref q23) (C := RX5) (T := TX5) (N := 12) hx hb hts tl_X5 hown hK (hP.one (Or.inl (Or.inl (Or.inl (Or.inl (Or.inl hB0)))))) 0 rfl rfl 4 (by decide) (hts _ tw_881) (fun _ h9 => h9) rfl dX5_init_156 ?_
        refine lv_iload_n hx hb dX5_init_159 rfl (lv_at hl 0 rfl) ?_
        obtain ⟨ws9, hPw, hDw, hin9, hbk⟩ := hP.push
        have h8 : tp_dv 13 tyX7 [.int 0, .int 0, .int 0, .int 0, .int 0, .int 0, .int 0, .int 0, .int 0, .int 0, .int 0, .int 0, .null] = true := by decide +kernel
        refine va_new (ci := 7) (fs := [.int 0, .int 0, .int 0, .int 0, .int 0, .int 0, .int 0, .int 0, .int 0, .int 0, .int 0, .int 0, .null]) (C := RX7) (T := TX7) (N := 13) hx hb hts tl_X7 tyX7 tyX7_ok hown (hts _ tw_717) (hts _ tw_813) (hts _ tw_29) hK hPw hDw hS hA rfl (fun j hj => tp_dv_ok h8 j hj) (by show 447 + 2 * i + 1 ≤ 847; omega) (by show 6075 + 24 * i + 13 ≤ 10875; omega) dX5_init_160 (fun a9 H hPw hDw hS => ?_)
        obtain ⟨hP, hfr⟩ := hbk _ _ _ hPw hDw
        clear hbk hPw hDw hin9
        refine lv_dup hx hb dX5_init_163 rfl ?_
        have hC : ∀ q e, cw [(a9, .inr (7, [.int 0, .int 0, .int 0, .int 0, .int 0, .int 0, .int 0, .int 0, .int 0, .int 0, .int 0, .int 0, .null]))] q e → madd (TWl cy B9 L q20 q21 q22 q23 12 12 10 i) a9 (.inr (7, [.int 0, .int 0, .int 0, .int 0, .int 0, .int 0, .int 0, .int 0, .int 0, .int 0, .int 0, .int 0, .null])) q e := fun q e h => by cases List.mem_singleton.mp h; exact Or.inr ⟨rfl, rfl⟩
        have hFc : ∀ q, va_A [(a9, .inr (7, [.int 0, .int 0, .int 0, .int 0, .int 0, .int 0, .int 0, .int 0, .int 0, .int 0, .int 0, .int 0, .null]))] H.size q → A q := fun q h => m_free hP hS hA hC q (mA_va.mp h)
        refine va_callv (va_runIN (As := []) (rest := [.ref a9, .int (nI i), .ref q23]) ⟨hx, hb, hml, hown, hts⟩ (k_Vehicle l dC dI cy a9 H.size) ⟨tp_cnB 0 hts (te_m5 hE) tw_29 tw_816 rfl rfl (by decide +kernel) ⟨Nat.le_of_ble_eq_true rfl, Nat.le_of_ble_eq_true rfl⟩, rfl, hts _ tw_815⟩ ⟨m_blind, fun U hU hW => ⟨rfl, m_pay hK hP hE hC U hU hW⟩⟩ rfl rfl hl.1 rfl (lv_room (Nat.le_of_ble_eq_true rfl)) dX5_init_164 ⟨(by show 447 + 2 * i + 1 + 1 ≤ 847; omega), (by show 6075 + 24 * i + 13 + 11 ≤ 10875; omega)⟩) hS (fun q _ h => hFc q h) hFc (fun u t H1 locs ht hvm hpo hB hz1 hk1 hS => ?_)
        obtain ⟨z1, hPk, hDk⟩ := hB
        rw [ht] at hPk
        have hJ := hP.joinL hfr hk1 hFc hPk hDk
        obtain ⟨ws9, k9, hPw, hDw, hk9, hin9, hbk⟩ := hJ.cut (e := arQ (cy 7) 200 (fil L 15 i)) (Or.inl (Or.inr ⟨rfl, rfl⟩))
        obtain ⟨k8, hk8⟩ := hin9 a9 (.inr (7, [.int 0, .int 0, .int 0, .int 0, .int 0, .int 0, .int 0, .int 0, .int 0, .int 0, .int 0, .int 0, .ref z1])) (Or.inr (List.mem_of_getElem? (i := 0) rfl))
        refine va_astq hx hb hK hPw hDw hS k9 7 k8 7 hk9 rfl hk8 rfl (vp_in_nI hi (by decide)) dX5_init_167 (fun H2 locs hPw hDw hS => ?_)
        rw [nI_clamp (by omega)] at hPw hDw
        have hP9 := hbk _ _ hPw hDw
        obtain ⟨L6, hL6, hLI9, hst⟩ := tt15 (w1 := [(a9, .inr (7, [.int 0, .int 0, .int 0, .int 0, .int 0, .int 0, .int 0, .int 0, .int 0, .int 0, .int 0, .int 0, .ref z1])), (z1, .inl (cy 0, 11, .inl (fun _ => 0)))]) (n1 := 2) hLI hTA hP hfr hDk rfl (by decide) (fun f hf => by
            simp only [List.mem_cons, List.not_mem_nil, or_false] at hf
            rcases hf with rfl | rfl
            · exact List.mem_of_getElem? (i := 0) rfl
            · exact List.mem_of_getElem? (i := 1) rfl
            ) rfl
        have hP : mw (dC, dI) vwCl A (TWl cy B9 L6 q20 q21 q22 q23 12 12 10 (i + 1)) H2 := hP9.sub hst
        have hLI := hLI9
        have hL3 : ∀ f j, f < 8 ∨ 17 ≤ f → L6 f j = L1 f j := fun f j h9 => (hL6 f j h9).trans (hL f j h9)
        clear hP9 hst hbk hPw hDw hin9 hk9 hk8 hJ hPk hDk hk1 hFc hC hfr h8 hLI9
        refine lv_iinc (v := nI (i + 1)) (lv' := [(2, .int (nI (i + 1))), (0, .ref a0)]) hx hb dX5_init_168 hl (k := 0) rfl (nI_1 i) (by decide) rfl (fun ls hl => ?_)
        refine lv_goto (tgt := 148) hx hb dX5_init_171 (by decide) ?_
        refine W.widen (k := (fun i => 447 + 2 * i) (i + 1)) (n := (fun i => 6075 + 24 * i) (i + 1)) (by show 447 + 2 * i + 1 + 1 ≤ 447 + 2 * (i + 1); omega) (by show 6075 + 24 * i + 13 + 11 ≤ 6075 + 24 * (i + 1); omega) ?_
        exact ih L6 _ _ ls ⟨hL3, hLI, hP, hS, lv_sub hl [0, 1] rfl⟩
    · intro i L H locs ls hi ⟨hL, hLI, hP, hS, hl⟩ ih
      have hl : lv_has ls 3 [(2, .int (nI i)), (0, .ref a0)] := hl
      refine lv_iload_n hx hb dX5_init_121 rfl (lv_at hl 0 rfl) ?_
      refine lv_bipush (v := 10) hx hb dX5_init_122 (by decide) ?_
      refine lv_icmp_ge (tgt := 146) hx hb dX5_init_124 (by decide) (fun c_4 => absurd c_4 (nI_ge (a := i) (b := 10) hi (by decide))) (fun _ => ?_)
      refine lv_aload_n hx hb dX5_init_127 rfl (lv_at hl 1 rfl) ?_
      refine va_get (D := (dC, dI)) (ws := [(a0, .inr (5, [.ref (L1 1 0), .ref q20, .ref q21, .ref q22, .ref q23, .ref tr9, .int 0, .int 1, .int 0, .int 0, .int 0, .int 0]))]) (ci := 5) (v := .ref q22) (C := RX5) (T := TX5) (N := 12) hx hb hts tl_X5 hown hK (hP.one (Or.inl (Or.inl (Or.inl (Or.inl (Or.inl hB0)))))) 0 rfl rfl 3 (by decide) (hts _ tw_879) (fun _ h9 => h9) rfl dX5_init_128 ?_
      refine lv_iload_n hx hb dX5_init_131 rfl (lv_at hl 0 rfl) ?_
      obtain ⟨ws9, hPw, hDw, hin9, hbk⟩ := hP.push
      have h8 : tp_dv 12 tyX0 [.int 0, .int 0, .int 0, .int 0, .int 0, .int 0, .int 0, .int 0, .int 0, .int 0, .int 0, .int 0] = true := by decide +kernel
      refine va_new (ci := 0) (fs := [.int 0, .int 0, .int 0, .int 0, .int 0, .int 0, .int 0, .int 0, .int 0, .int 0, .int 0, .int 0]) (C := RX0) (T := TX0) (N := 12) hx hb hts tl_X0 tyX0 tyX0_ok hown (hts _ tw_715) (hts _ tw_759) (hts _ tw_28) hK hPw hDw hS hA rfl (fun j hj => tp_dv_ok h8 j hj) (by show 437 + 1 * i + 1 ≤ 847; omega) (by show 5955 + 12 * i + 12 ≤ 10875; omega) dX5_init_132 (fun a9 H hPw hDw hS => ?_)
      obtain ⟨hP, hfr⟩ := hbk _ _ _ hPw hDw
      clear hbk hPw hDw hin9
      refine lv_dup hx hb dX5_init_135 rfl ?_
      have hC : ∀ q e, cw [(a9, .inr (0, [.int 0, .int 0, .int 0, .int 0, .int 0, .int 0, .int 0, .int 0, .int 0, .int 0, .int 0, .int 0]))] q e → madd (TWl cy B9 L q20 q21 q22 q23 12 12 i 0) a9 (.inr (0, [.int 0, .int 0, .int 0, .int 0, .int 0, .int 0, .int 0, .int 0, .int 0, .int 0, .int 0, .int 0])) q e := fun q e h => by cases List.mem_singleton.mp h; exact Or.inr ⟨rfl, rfl⟩
      have hFc : ∀ q, va_A [(a9, .inr (0, [.int 0, .int 0, .int 0, .int 0, .int 0, .int 0, .int 0, .int 0, .int 0, .int 0, .int 0, .int 0]))] H.size q → A q := fun q h => m_free hP hS hA hC q (mA_va.mp h)
      refine va_callv (va_runIN (As := []) (rest := [.ref a9, .int (nI i), .ref q22]) ⟨hx, hb, hml, hown, hts⟩ (k_Flow l dC dI cy a9 H.size) ⟨tp_cnB 0 hts (te_m4 hE) tw_28 tw_762 rfl rfl (by decide +kernel) ⟨Nat.le_of_ble_eq_true rfl, Nat.le_of_ble_eq_true rfl⟩, rfl, hts _ tw_761⟩ ⟨m_blind, fun U hU hW => ⟨rfl, m_pay hK hP hE hC U hU hW⟩⟩ rfl rfl hl.1 rfl (lv_room (Nat.le_of_ble_eq_true rfl)) dX5_init_136 ⟨(by show 437 + 1 * i + 1 + 0 ≤ 847; omega), (by show 5955 + 12 * i + 12 + 0 ≤ 10875; omega)⟩) hS (fun q _ h => hFc q h) hFc (fun u t H1 locs ht hvm hpo hB hz1 hk1 hS => ?_)
      obtain ⟨hPk, hDk⟩ := hB
      rw [ht] at hPk
      have hJ := hP.joinL hfr hk1 hFc hPk hDk
      obtain ⟨ws9, k9, hPw, hDw, hk9, hin9, hbk⟩ := hJ.cut (e := arQ (cy 6) 10 (fil L 14 i)) (Or.inl (Or.inl (Or.inr ⟨rfl, rfl⟩)))
      obtain ⟨k8, hk8⟩ := hin9 a9 (.inr (0, [.int 0, .int 0, .int 0, .int 0, .int 1, .int 0, .int 0, .int 0, .int 0, .int 0, .int 0, .int 0])) (Or.inr (List.mem_of_getElem? (i := 0) rfl))
      refine va_astq hx hb hK hPw hDw hS k9 6 k8 0 hk9 rfl hk8 rfl (vp_in_nI hi (by decide)) dX5_init_139 (fun H2 locs hPw hDw hS => ?_)
      rw [nI_clamp (by omega)] at hPw hDw
      have hP9 := hbk _ _ hPw hDw
      obtain ⟨L5, hL5, hLI9, hst⟩ := tt14 (w1 := [(a9, .inr (0, [.int 0, .int 0, .int 0, .int 0, .int 1, .int 0, .int 0, .int 0, .int 0, .int 0, .int 0, .int 0]))]) (n1 := 1) hLI hTA hP hfr hDk rfl (by decide) (fun f hf => by
          simp only [List.mem_cons, List.not_mem_nil, or_false] at hf
          subst hf
          · exact List.mem_of_getElem? (i := 0) rfl
          ) rfl
      have hP : mw (dC, dI) vwCl A (TWl cy B9 L5 q20 q21 q22 q23 12 12 (i + 1) 0) H2 := hP9.sub hst
      have hLI := hLI9
      have hL2 : ∀ f j, f < 8 ∨ 17 ≤ f → L5 f j = L1 f j := fun f j h9 => (hL5 f j h9).trans (hL f j h9)
      clear hP9 hst hbk hPw hDw hin9 hk9 hk8 hJ hPk hDk hk1 hFc hC hfr h8 hLI9
      refine lv_iinc (v := nI (i + 1)) (lv' := [(2, .int (nI (i + 1))), (0, .ref a0)]) hx hb dX5_init_140 hl (k := 0) rfl (nI_1 i) (by decide) rfl (fun ls hl => ?_)
      refine lv_goto (tgt := 121) hx hb dX5_init_143 (by decide) ?_
      refine W.widen (k := (fun i => 437 + 1 * i) (i + 1)) (n := (fun i => 5955 + 12 * i) (i + 1)) (by show 437 + 1 * i + 1 + 0 ≤ 437 + 1 * (i + 1); omega) (by show 5955 + 12 * i + 12 + 0 ≤ 5955 + 12 * (i + 1); omega) ?_
      exact ih L5 _ _ ls ⟨hL2, hLI, hP, hS, lv_sub hl [0, 1] rfl⟩
  · intro i L H locs ls hi ⟨hL, hLI, hP, hS, hl⟩ ih
    have hl : lv_has ls 3 [(2, .int (nI i)), (0, .ref a0)] := hl
    refine lv_iload_n hx hb dX5_init_78 rfl (lv_at hl 0 rfl) ?_
    refine lv_bipush (v := 12) hx hb dX5_init_79 (by decide) ?_
    refine lv_icmp_ge (tgt := 119) hx hb dX5_init_81 (by decide) (fun c_2 => absurd c_2 (nI_ge (a := i) (b := 12) hi (by decide))) (fun _ => ?_)
    refine lv_aload_n hx hb dX5_init_84 rfl (lv_at hl 1 rfl) ?_
    refine va_get (D := (dC, dI)) (ws := [(a0, .inr (5, [.ref (L1 1 0), .ref q20, .ref q21, .ref q22, .ref q23, .ref tr9, .int 0, .int 1, .int 0, .int 0, .int 0, .int 0]))]) (ci := 5) (v := .ref q20) (C := RX5) (T := TX5) (N := 12) hx hb hts tl_X5 hown hK (hP.one (Or.inl (Or.inl (Or.inl (Or.inl (Or.inl hB0)))))) 0 rfl rfl 1 (by decide) (hts _ tw_875) (fun _ h9 => h9) rfl dX5_init_85 ?_
    refine lv_iload_n hx hb dX5_init_88 rfl (lv_at hl 0 rfl) ?_
    obtain ⟨ws9, hPw, hDw, hin9, hbk⟩ := hP.push
    have h8 : tp_dv 6 tyX4 [.null, .null, .null, .int 0, .int 0, .int 0] = true := by decide +kernel
    refine va_new (ci := 4) (fs := [.null, .null, .null, .int 0, .int 0, .int 0]) (C := RX4) (T := TX4) (N := 6) hx hb hts tl_X4 tyX4 tyX4_ok hown (hts _ tw_711) (hts _ tw_243) (hts _ tw_27) hK hPw hDw hS hA rfl (fun j hj => tp_dv_ok h8 j hj) (by show 365 + 6 * i + 1 ≤ 847; omega) (by show 3315 + 220 * i + 6 ≤ 10875; omega) dX5_init_89 (fun a9 H hPw hDw hS => ?_)
    obtain ⟨hP, hfr⟩ := hbk _ _ _ hPw hDw
    clear hbk hPw hDw hin9
    refine lv_dup hx hb dX5_init_92 rfl ?_
    have hC : ∀ q e, cw [(a9, .inr (4, [.null, .null, .null, .int 0, .int 0, .int 0]))] q e → madd (TWl cy B9 L q20 q21 q22 q23 i i 0 0) a9 (.inr (4, [.null, .null, .null, .int 0, .int 0, .int 0])) q e := fun q e h => by cases List.mem_singleton.mp h; exact Or.inr ⟨rfl, rfl⟩
    have hFc : ∀ q, va_A [(a9, .inr (4, [.null, .null, .null, .int 0, .int 0, .int 0]))] H.size q → A q := fun q h => m_free hP hS hA hC q (mA_va.mp h)
    refine va_callv (va_runIN (As := []) (rest := [.ref a9, .int (nI i), .ref q20]) ⟨hx, hb, hml, hown, hts⟩ (k_Signal l dC dI cy a9 H.size) ⟨tp_cnB 0 hts (te_m3 hE) tw_27 tw_733 rfl rfl (by decide +kernel) ⟨Nat.le_of_ble_eq_true rfl, Nat.le_of_ble_eq_true rfl⟩, rfl, hts _ tw_732⟩ ⟨m_blind, fun U hU hW => ⟨rfl, m_pay hK hP hE hC U hU hW⟩⟩ rfl rfl hl.1 rfl (lv_room (Nat.le_of_ble_eq_true rfl)) dX5_init_93 ⟨(by show 365 + 6 * i + 1 + 3 ≤ 847; omega), (by show 3315 + 220 * i + 6 + 12 ≤ 10875; omega)⟩) hS (fun q _ h => hFc q h) hFc (fun u t H1 locs ht hvm hpo hB hz1 hk1 hS => ?_)
    obtain ⟨z1, z2, z3, hPk, hDk⟩ := hB
    rw [ht] at hPk
    have hJ := hP.joinL hfr hk1 hFc hPk hDk
    obtain ⟨ws9, k9, hPw, hDw, hk9, hin9, hbk⟩ := hJ.cut (e := arQ (cy 4) 12 (fil L 8 i)) (Or.inl (Or.inl (Or.inl (Or.inl (Or.inr ⟨rfl, rfl⟩)))))
    obtain ⟨k8, hk8⟩ := hin9 a9 (.inr (4, [.ref z1, .ref z2, .ref z3, .int 0, .int (-1), .int 0])) (Or.inr (List.mem_of_getElem? (i := 0) rfl))
    refine va_astq hx hb hK hPw hDw hS k9 4 k8 4 hk9 rfl hk8 rfl (vp_in_nI hi (by decide)) dX5_init_96 (fun H2 locs hPw hDw hS => ?_)
    rw [nI_clamp (by omega)] at hPw hDw
    have hP9 := hbk _ _ hPw hDw
    obtain ⟨L3, hL3, hLI9, hst⟩ := tt8 (w1 := [(a9, .inr (4, [.ref z1, .ref z2, .ref z3, .int 0, .int (-1), .int 0])), (z1, .inl (cy 0, 4, .inl (fun _ => 0))), (z2, .inl (cy 0, 4, .inl (fun _ => 0))), (z3, .inl (cy 0, 4, .inl (fun _ => 0)))]) (n1 := 4) hLI hTA hP hfr hDk rfl (by decide) (fun f hf => by
        simp only [List.mem_cons, List.not_mem_nil, or_false] at hf
        rcases hf with rfl | rfl | rfl | rfl
        · exact List.mem_of_getElem? (i := 0) rfl
        · exact List.mem_of_getElem? (i := 1) rfl
        · exact List.mem_of_getElem? (i := 2) rfl
        · exact List.mem_of_getElem? (i := 3) rfl
        ) rfl
    have hP : mw (dC, dI) vwCl A (TWl cy B9 L3 q20 q21 q22 q23 (i + 1) i 0 0) H2 := hP9.sub hst
    have hLI := hLI9
    have hL0 : ∀ f j, f < 8 ∨ 17 ≤ f → L3 f j = L1 f j := fun f j h9 => (hL3 f j h9).trans (hL f j h9)
    clear hP9 hst hbk hPw hDw hin9 hk9 hk8 hJ hPk hDk hk1 hFc hC hfr h8 hLI9
    refine lv_aload_n hx hb dX5_init_97 rfl (lv_at hl 1 rfl) ?_
    refine va_get (D := (dC, dI)) (ws := [(a0, .inr (5, [.ref (L1 1 0), .ref q20, .ref q21, .ref q22, .ref q23, .ref tr9, .int 0, .int 1, .int 0, .int 0, .int 0, .int 0]))]) (ci := 5) (v := .ref q21) (C := RX5) (T := TX5) (N := 12) hx hb hts tl_X5 hown hK (hP.one (Or.inl (Or.inl (Or.inl (Or.inl (Or.inl hB0)))))) 0 rfl rfl 2 (by decide) (hts _ tw_877) (fun _ h9 => h9) rfl dX5_init_98 ?_
    refine lv_iload_n hx hb dX5_init_101 rfl (lv_at hl 0 rfl) ?_
    obtain ⟨ws9, hPw, hDw, hin9, hbk⟩ := hP.push
    have h8 : tp_dv 2 tyX3 [.null, .int 0] = true := by decide +kernel
    refine va_new (ci := 3) (fs := [.null, .int 0]) (C := RX3) (T := TX3) (N := 2) hx hb hts tl_X3 tyX3 tyX3_ok hown (hts _ tw_713) (hts _ tw_608) (hts _ tw_24) hK hPw hDw hS hA rfl (fun j hj => tp_dv_ok h8 j hj) (by show 365 + 6 * i + 1 + 3 + 1 ≤ 847; omega) (by show 3315 + 220 * i + 6 + 12 + 2 ≤ 10875; omega) dX5_init_102 (fun a9 H hPw hDw hS => ?_)
    obtain ⟨hP, hfr⟩ := hbk _ _ _ hPw hDw
    clear hbk hPw hDw hin9
    refine lv_dup hx hb dX5_init_105 rfl ?_
    refine lv_sipush (v := 200) hx hb dX5_init_106 (by decide) ?_
    have hC : ∀ q e, cw [(a9, .inr (3, [.null, .int 0]))] q e → madd (TWl cy B9 L3 q20 q21 q22 q23 (i + 1) i 0 0) a9 (.inr (3, [.null, .int 0])) q e := fun q e h => by cases List.mem_singleton.mp h; exact Or.inr ⟨rfl, rfl⟩
    have hFc : ∀ q, va_A [(a9, .inr (3, [.null, .int 0]))] H.size q → A q := fun q h => m_free hP hS hA hC q (mA_va.mp h)
    refine va_callv (va_runI (As := [.int 200]) (rest := [.ref a9, .int (nI i), .ref q21]) ⟨hx, hb, hml, hown, hts⟩ (k_Row_200 l dC dI cy a9 H.size) (tp_cwI 1 hts tw_758 tw_610 tw_24 tw_611 rfl rfl rfl (by decide +kernel) ⟨Nat.le_of_ble_eq_true rfl, Nat.le_of_ble_eq_true rfl⟩) ⟨m_blind, fun U hU hW => ⟨rfl, m_pay hK hP hE hC U hU hW⟩⟩ rfl rfl hl.1 rfl (lv_room (Nat.le_of_ble_eq_true rfl)) dX5_init_109 ⟨(by show 365 + 6 * i + 1 + 3 + 1 + 1 ≤ 847; omega), (by show 3315 + 220 * i + 6 + 12 + 2 + 200 ≤ 10875; omega)⟩) hS (fun q _ h => hFc q h) hFc (fun u t H1 locs ht hvm hpo hB hz1 hk1 hS => ?_)
    obtain ⟨z1, hPk, hDk⟩ := hB
    rw [ht] at hPk
    have hJ := hP.joinL hfr hk1 hFc hPk hDk
    obtain ⟨ws9, k9, hPw, hDw, hk9, hin9, hbk⟩ := hJ.cut (e := arQ (cy 5) 12 (fil L3 12 i)) (Or.inl (Or.inl (Or.inl (Or.inr ⟨rfl, rfl⟩))))
    obtain ⟨k8, hk8⟩ := hin9 a9 (.inr (3, [.ref z1, .int 0])) (Or.inr (List.mem_of_getElem? (i := 0) rfl))
    refine va_astq hx hb hK hPw hDw hS k9 5 k8 3 hk9 rfl hk8 rfl (vp_in_nI hi (by decide)) dX5_init_112 (fun H2 locs hPw hDw hS => ?_)
    rw [nI_clamp (by omega)] at hPw hDw
    have hP9 := hbk _ _ hPw hDw
    obtain ⟨L4, hL4, hLI9, hst⟩ := tt12 (w1 := [(a9, .inr (3, [.ref z1, .int 0])), (z1, .inl (cy 0, 200, .inl (fun _ => 0)))]) (n1 := 2) hLI hTA hP hfr hDk rfl (by decide) (fun f hf => by
        simp only [List.mem_cons, List.not_mem_nil, or_false] at hf
        rcases hf with rfl | rfl
        · exact List.mem_of_getElem? (i := 0) rfl
        · exact List.mem_of_getElem? (i := 1) rfl
        ) rfl
    have hP : mw (dC, dI) vwCl A (TWl cy B9 L4 q20 q21 q22 q23 (i + 1) (i + 1) 0 0) H2 := hP9.sub hst
    have hLI := hLI9
    have hL1 : ∀ f j, f < 8 ∨ 17 ≤ f → L4 f j = L1 f j := fun f j h9 => (hL4 f j h9).trans (hL0 f j h9)
    clear hP9 hst hbk hPw hDw hin9 hk9 hk8 hJ hPk hDk hk1 hFc hC hfr h8 hLI9
    refine lv_iinc (v := nI (i + 1)) (lv' := [(2, .int (nI (i + 1))), (0, .ref a0)]) hx hb dX5_init_113 hl (k := 0) rfl (nI_1 i) (by decide) rfl (fun ls hl => ?_)
    refine lv_goto (tgt := 78) hx hb dX5_init_116 (by decide) ?_
    refine W.widen (k := (fun i => 365 + 6 * i) (i + 1)) (n := (fun i => 3315 + 220 * i) (i + 1)) (by show 365 + 6 * i + 1 + 3 + 1 + 1 ≤ 365 + 6 * (i + 1); omega) (by show 3315 + 220 * i + 6 + 12 + 2 + 200 ≤ 3315 + 220 * (i + 1); omega) ?_
    exact ih L4 _ _ ls ⟨hL1, hLI, hP, hS, lv_sub hl [0, 1] rfl⟩
set_option maxRecDepth 100000 in
set_option maxHeartbeats 4000000 in
/-- k_Traffic_n -/
theorem k_Traffic_n (l : Launch) (dC : Nat → ClassId) (dI : Nat → Nat → Nat) (cy : Nat → ClassId) (a0 : Nat) (sz : Nat) : Met l yX5_init (tp_w yX5_init cX5_init 3 none) ({ frames := 4, cells := 847, slots := 10875, locals := 76 }) (va_Pc [.ref a0, .int 0] (mPre dC dI cy (cw [(a0, .inr (5, [.null, .null, .null, .null, .null, .null, .int 0, .int 0, .int 0, .int 0, .int 0, .int 0]))]) sz)) (va_Qv (fun _ : Unit => True) (fun (_ : Unit) (t : State) => ∃ (L : Lay), L 0 0 = a0 ∧ TL L none TZ ∧ mw (dC, dI) vwCl (va_A [(a0, .inr (5, [.null, .null, .null, .null, .null, .null, .int 0, .int 0, .int 0, .int 0, .int 0, .int 0]))] sz) (TW cy L none St0 K0 TZ) t.heap) (va_A [(a0, .inr (5, [.null, .null, .null, .null, .null, .null, .int 0, .int 0, .int 0, .int 0, .int 0, .int 0]))] sz)) 847 10875 (va_A [(a0, .inr (5, [.null, .null, .null, .null, .null, .null, .int 0, .int 0, .int 0, .int 0, .int 0, .int 0]))] sz) := by
  refine Met.ofW (cc := cX5_init) (maxL := 3) (ret := none) (by decide) rfl ?_
  intro p e s m args below meth c s₁ B hml hv
  obtain ⟨rfl, hsz, hM, hK, hE⟩ := hv
  have hx := B.exec
  have hb := B.bytes
  have hr := B.returns
  have hts0 := atoms_spec (ws := tp_w yX5_init cX5_init 3 none) B.pre
  have hts : ∀ w ∈ tp_all, w.before _ s = true := fun w h => hts0 w (List.mem_cons_of_mem _ h)
  have hown : s.vm.findClass RX5 = some m.cls := findClass_of_methodNamed B.named
  have hlocks := B.notSynchronized
  have hin : meth.name = "<init>" := (name_of_methodNamed B.named B.method).1
  subst hsz
  have hP : va_P (dC, dI) vwCl [(a0, .inr (5, [.null, .null, .null, .null, .null, .null, .int 0, .int 0, .int 0, .int 0, .int 0, .int 0]))] s.heap := cw_P hM
  have hD : va_D (va_A [(a0, .inr (5, [.null, .null, .null, .null, .null, .null, .int 0, .int 0, .int 0, .int 0, .int 0, .int 0]))] s.heap.size) [(a0, .inr (5, [.null, .null, .null, .null, .null, .null, .int 0, .int 0, .int 0, .int 0, .int 0, .int 0]))] := cw_D1
  generalize hAe : va_A [(a0, .inr (5, [.null, .null, .null, .null, .null, .null, .int 0, .int 0, .int 0, .int 0, .int 0, .int 0]))] s.heap.size = A at hD ⊢
  have hA : ∀ q : Nat, s.heap.size ≤ q → A q := fun q h => by rw [← hAe]; exact Or.inr h
  have hS : va_S A s.heap s.heap [] := va_S.rf
  have hl9 := lv_entry ([.ref a0, .int 0]) (n := 3) (Nat.le_of_ble_eq_true rfl)
  rw [lg_entry_eq]
  generalize (lg_sl ([.ref a0, .int 0]) ++ List.replicate (3 - (lg_sl ([.ref a0, .int 0])).length) Slot.unset).toArray = ls at hl9 ⊢
  have hl : lv_has ls 3 [(0, .ref a0), (1, .int 0)] := hl9
  refine lv_aload_n hx hb dX5_init_0 rfl (lv_at hl 0 rfl) ?_
  refine W.objInit hx hb hown (hts _ tw_591) (hts _ tw_74) (hts _ tw_75) rfl (by rw [hml]; exact hl.1) rfl dX5_init_1 (Nat.le_of_ble_eq_true rfl) (Nat.le_of_ble_eq_true rfl) ?_
  refine W.eq (g2 := F0 m 4 ls []) rfl ?_
  refine lv_aload_n hx hb dX5_init_4 rfl (lv_at hl 0 rfl) ?_
  have hM : mw (dC, dI) vwCl A (fun q e => q = a0 ∧ e = .inr (5, [.null, .null, .null, .null, .null, .null, .int 0, .int 0, .int 0, .int 0, .int 0, .int 0])) s.heap := (mw.ofL hP hD).sub (fun q e h => by obtain ⟨rfl, rfl⟩ := h; exact List.mem_of_getElem? (i := 0) rfl)
  clear hP hD
  have hP := hM
  clear hM
  obtain ⟨ws9, hPw, hDw, hin9, hbk⟩ := hP.push
  have h8 : tp_dv 4 tyX2 [.null, .int 0, .null, .int 0] = true := by decide +kernel
  refine va_new (ci := 2) (fs := [.null, .int 0, .null, .int 0]) (C := RX2) (T := TX2) (N := 4) hx hb hts tl_X2 tyX2 tyX2_ok hown (hts _ tw_592) (hts _ tw_593) (hts _ tw_22) hK hPw hDw hS hA rfl (fun j hj => tp_dv_ok h8 j hj) (by show 0 + 1 ≤ 847; omega) (by show 0 + 4 ≤ 10875; omega) dX5_init_5 (fun a9 H hPw hDw hS => ?_)
  obtain ⟨hP, hfr⟩ := hbk _ _ _ hPw hDw
  clear hbk hPw hDw hin9
  refine lv_dup hx hb dX5_init_8 rfl ?_
  have hC : ∀ q e, cw [(a9, .inr (2, [.null, .int 0, .null, .int 0]))] q e → madd (fun q e => q = a0 ∧ e = .inr (5, [.null, .null, .null, .null, .null, .null, .int 0, .int 0, .int 0, .int 0, .int 0, .int 0])) a9 (.inr (2, [.null, .int 0, .null, .int 0])) q e := fun q e h => by cases List.mem_singleton.mp h; exact Or.inr ⟨rfl, rfl⟩
  have hFc : ∀ q, va_A [(a9, .inr (2, [.null, .int 0, .null, .int 0]))] H.size q → A q := fun q h => m_free hP hS hA hC q (mA_va.mp h)
  refine va_callv (va_runI (As := []) (rest := [.ref a9, .ref a0]) ⟨hx, hb, hml, hown, hts⟩ (k_Roads l dC dI cy a9 H.size) (tp_cwI 0 hts tw_594 tw_595 tw_22 tw_596 rfl rfl rfl (by decide +kernel) ⟨Nat.le_of_ble_eq_true rfl, Nat.le_of_ble_eq_true rfl⟩) ⟨m_blind, fun U hU hW => ⟨rfl, m_pay hK hP hE hC U hU hW⟩⟩ rfl rfl hl.1 rfl (lv_room (Nat.le_of_ble_eq_true rfl)) dX5_init_9 ⟨(by show 0 + 1 + 158 ≤ 847; omega), (by show 0 + 4 + 2676 ≤ 10875; omega)⟩) hS (fun q _ h => hFc q h) hFc (fun u t H1 locs ht hvm hpo hB hz1 hk1 hS => ?_)
  obtain ⟨L1, hL1, hLI1, hM1⟩ := hB
  rw [ht] at hM1
  obtain ⟨hP2, -, hQ⟩ := hP.joinM hfr hk1 hFc hM1
  clear hP
  have hP := hP2
  clear hP2
  have hap : ∀ q e, (MD cy none K0 L1 GRo) q e → q ≠ a0 := fun q e h => (hQ a0 _ q e ⟨rfl, rfl⟩ h).symm
  clear hQ hM1 hk1 hFc hC hfr h8
  generalize H1 = H at hP hS ⊢
  subst hL1
  obtain ⟨ws9, k9, hPw, hDw, hk9, -, hbk⟩ := hP.cut (e := .inr (5, [.null, .null, .null, .null, .null, .null, .int 0, .int 0, .int 0, .int 0, .int 0, .int 0])) (Or.inl ⟨rfl, rfl⟩)
  refine va_putF (D := (dC, dI)) (ci := 5) (v := .ref (L1 1 0)) (ty := (.object "Turnpike$Roads")) (C := RX5) (T := TX5) (N := 12) hx hb hts tl_X5 tyX5 tyX5_ok nmX5 hown hK hPw hDw hS k9 hk9 rfl 0 (by decide) (hts _ tw_873) (fun _ h9 => h9) rfl hin rfl (by decide +kernel) rfl rfl (Nat.le_of_ble_eq_true rfl) dX5_init_12 (fun H locs hPw hDw hS => ?_)
  have hP : mw (dC, dI) vwCl A (fun q e => (q = a0 ∧ e = .inr (5, [.ref (L1 1 0), .null, .null, .null, .null, .null, .int 0, .int 0, .int 0, .int 0, .int 0, .int 0])) ∨ (MD cy none K0 L1 GRo) q e) H := (hbk _ _ hPw hDw).sub (mset_one hap)
  clear hbk hPw hDw hk9
  refine lv_aload_n hx hb dX5_init_15 rfl (lv_at hl 0 rfl) ?_
  refine lv_bipush (v := 12) hx hb dX5_init_16 (by decide) ?_
  obtain ⟨ws9, hPw, hDw, hin9, hbk⟩ := hP.push
  refine va_newq hx hb (C := RX4) (N' := 12) hown (hts _ tw_711) (hE.2.2.1 _ (List.mem_of_getElem? (i := 1) rfl)) hK hPw hDw hS hA (by decide) (by decide) (Nat.le_of_ble_eq_true rfl) (by show 0 + 1 + 158 + 1 ≤ 847; omega) (by show 0 + 4 + 2676 + 12 ≤ 10875; omega) dX5_init_18 (fun q20 k9 H hK9 hPw hDw hS => ?_)
  obtain rfl : k9 = cy 4 := tp_one hK9 11 4 rfl rfl
  obtain ⟨hP, hfq20⟩ := hbk _ _ _ hPw hDw
  have hP : mw (dC, dI) vwCl A (fun q e => (q = a0 ∧ e = .inr (5, [.ref (L1 1 0), .null, .null, .null, .null, .null, .int 0, .int 0, .int 0, .int 0, .int 0, .int 0])) ∨ (fun q e => (MD cy none K0 L1 GRo) q e ∨ (q = q20 ∧ e = arQ (cy 4) 12 (fun _ => none))) q e) H := hP.sub (fun q e h => h.elim (fun h => Or.inl (Or.inl h)) (fun h => h.elim (fun h => Or.inl (Or.inr h)) (fun h => Or.inr h)))
  have hap : ∀ q e, (fun q e => (MD cy none K0 L1 GRo) q e ∨ (q = q20 ∧ e = arQ (cy 4) 12 (fun _ => none))) q e → q ≠ a0 := fun q e h => h.elim (hap q e) (fun h => by rw [h.1]; exact (hfq20 a0 _ (Or.inl ⟨rfl, rfl⟩)).symm)
  clear hbk hPw hDw hin9 hK9
  obtain ⟨ws9, k9, hPw, hDw, hk9, -, hbk⟩ := hP.cut (e := .inr (5, [.ref (L1 1 0), .null, .null, .null, .null, .null, .int 0, .int 0, .int 0, .int 0, .int 0, .int 0])) (Or.inl ⟨rfl, rfl⟩)
  refine va_putF (D := (dC, dI)) (ci := 5) (v := .ref q20) (ty := (.array (.object "Turnpike$Signal"))) (C := RX5) (T := TX5) (N := 12) hx hb hts tl_X5 tyX5 tyX5_ok nmX5 hown hK hPw hDw hS k9 hk9 rfl 1 (by decide) (hts _ tw_875) (fun _ h9 => h9) rfl hin rfl (by decide +kernel) rfl rfl (Nat.le_of_ble_eq_true rfl) dX5_init_21 (fun H locs hPw hDw hS => ?_)
  have hP : mw (dC, dI) vwCl A (fun q e => (q = a0 ∧ e = .inr (5, [.ref (L1 1 0), .ref q20, .null, .null, .null, .null, .int 0, .int 0, .int 0, .int 0, .int 0, .int 0])) ∨ (fun q e => (MD cy none K0 L1 GRo) q e ∨ (q = q20 ∧ e = arQ (cy 4) 12 (fun _ => none))) q e) H := (hbk _ _ hPw hDw).sub (mset_one hap)
  clear hbk hPw hDw hk9
  refine lv_aload_n hx hb dX5_init_24 rfl (lv_at hl 0 rfl) ?_
  refine lv_bipush (v := 12) hx hb dX5_init_25 (by decide) ?_
  obtain ⟨ws9, hPw, hDw, hin9, hbk⟩ := hP.push
  refine va_newq hx hb (C := RX3) (N' := 12) hown (hts _ tw_713) (hE.2.2.1 _ (List.mem_of_getElem? (i := 2) rfl)) hK hPw hDw hS hA (by decide) (by decide) (Nat.le_of_ble_eq_true rfl) (by show 0 + 1 + 158 + 1 + 1 ≤ 847; omega) (by show 0 + 4 + 2676 + 12 + 12 ≤ 10875; omega) dX5_init_27 (fun q21 k9 H hK9 hPw hDw hS => ?_)
  obtain rfl : k9 = cy 5 := tp_one hK9 11 5 rfl rfl
  obtain ⟨hP, hfq21⟩ := hbk _ _ _ hPw hDw
  have hP : mw (dC, dI) vwCl A (fun q e => (q = a0 ∧ e = .inr (5, [.ref (L1 1 0), .ref q20, .null, .null, .null, .null, .int 0, .int 0, .int 0, .int 0, .int 0, .int 0])) ∨ (fun q e => (fun q e => (MD cy none K0 L1 GRo) q e ∨ (q = q20 ∧ e = arQ (cy 4) 12 (fun _ => none))) q e ∨ (q = q21 ∧ e = arQ (cy 5) 12 (fun _ => none))) q e) H := hP.sub (fun q e h => h.elim (fun h => Or.inl (Or.inl h)) (fun h => h.elim (fun h => Or.inl (Or.inr h)) (fun h => Or.inr h)))
  have hap : ∀ q e, (fun q e => (fun q e => (MD cy none K0 L1 GRo) q e ∨ (q = q20 ∧ e = arQ (cy 4) 12 (fun _ => none))) q e ∨ (q = q21 ∧ e = arQ (cy 5) 12 (fun _ => none))) q e → q ≠ a0 := fun q e h => h.elim (hap q e) (fun h => by rw [h.1]; exact (hfq21 a0 _ (Or.inl ⟨rfl, rfl⟩)).symm)
  clear hbk hPw hDw hin9 hK9
  obtain ⟨ws9, k9, hPw, hDw, hk9, -, hbk⟩ := hP.cut (e := .inr (5, [.ref (L1 1 0), .ref q20, .null, .null, .null, .null, .int 0, .int 0, .int 0, .int 0, .int 0, .int 0])) (Or.inl ⟨rfl, rfl⟩)
  refine va_putF (D := (dC, dI)) (ci := 5) (v := .ref q21) (ty := (.array (.object "Turnpike$Row"))) (C := RX5) (T := TX5) (N := 12) hx hb hts tl_X5 tyX5 tyX5_ok nmX5 hown hK hPw hDw hS k9 hk9 rfl 2 (by decide) (hts _ tw_877) (fun _ h9 => h9) rfl hin rfl (by decide +kernel) rfl rfl (Nat.le_of_ble_eq_true rfl) dX5_init_30 (fun H locs hPw hDw hS => ?_)
  have hP : mw (dC, dI) vwCl A (fun q e => (q = a0 ∧ e = .inr (5, [.ref (L1 1 0), .ref q20, .ref q21, .null, .null, .null, .int 0, .int 0, .int 0, .int 0, .int 0, .int 0])) ∨ (fun q e => (fun q e => (MD cy none K0 L1 GRo) q e ∨ (q = q20 ∧ e = arQ (cy 4) 12 (fun _ => none))) q e ∨ (q = q21 ∧ e = arQ (cy 5) 12 (fun _ => none))) q e) H := (hbk _ _ hPw hDw).sub (mset_one hap)
  clear hbk hPw hDw hk9
  refine lv_aload_n hx hb dX5_init_33 rfl (lv_at hl 0 rfl) ?_
  refine lv_bipush (v := 10) hx hb dX5_init_34 (by decide) ?_
  obtain ⟨ws9, hPw, hDw, hin9, hbk⟩ := hP.push
  refine va_newq hx hb (C := RX0) (N' := 10) hown (hts _ tw_715) (hE.2.2.1 _ (List.mem_of_getElem? (i := 3) rfl)) hK hPw hDw hS hA (by decide) (by decide) (Nat.le_of_ble_eq_true rfl) (by show 0 + 1 + 158 + 1 + 1 + 1 ≤ 847; omega) (by show 0 + 4 + 2676 + 12 + 12 + 10 ≤ 10875; omega) dX5_init_36 (fun q22 k9 H hK9 hPw hDw hS => ?_)
  obtain rfl : k9 = cy 6 := tp_one hK9 11 6 rfl rfl
  obtain ⟨hP, hfq22⟩ := hbk _ _ _ hPw hDw
  have hP : mw (dC, dI) vwCl A (fun q e => (q = a0 ∧ e = .inr (5, [.ref (L1 1 0), .ref q20, .ref q21, .null, .null, .null, .int 0, .int 0, .int 0, .int 0, .int 0, .int 0])) ∨ (fun q e => (fun q e => (fun q e => (MD cy none K0 L1 GRo) q e ∨ (q = q20 ∧ e = arQ (cy 4) 12 (fun _ => none))) q e ∨ (q = q21 ∧ e = arQ (cy 5) 12 (fun _ => none))) q e ∨ (q = q22 ∧ e = arQ (cy 6) 10 (fun _ => none))) q e) H := hP.sub (fun q e h => h.elim (fun h => Or.inl (Or.inl h)) (fun h => h.elim (fun h => Or.inl (Or.inr h)) (fun h => Or.inr h)))
  have hap : ∀ q e, (fun q e => (fun q e => (fun q e => (MD cy none K0 L1 GRo) q e ∨ (q = q20 ∧ e = arQ (cy 4) 12 (fun _ => none))) q e ∨ (q = q21 ∧ e = arQ (cy 5) 12 (fun _ => none))) q e ∨ (q = q22 ∧ e = arQ (cy 6) 10 (fun _ => none))) q e → q ≠ a0 := fun q e h => h.elim (hap q e) (fun h => by rw [h.1]; exact (hfq22 a0 _ (Or.inl ⟨rfl, rfl⟩)).symm)
  clear hbk hPw hDw hin9 hK9
  obtain ⟨ws9, k9, hPw, hDw, hk9, -, hbk⟩ := hP.cut (e := .inr (5, [.ref (L1 1 0), .ref q20, .ref q21, .null, .null, .null, .int 0, .int 0, .int 0, .int 0, .int 0, .int 0])) (Or.inl ⟨rfl, rfl⟩)
  refine va_putF (D := (dC, dI)) (ci := 5) (v := .ref q22) (ty := (.array (.object "Turnpike$Flow"))) (C := RX5) (T := TX5) (N := 12) hx hb hts tl_X5 tyX5 tyX5_ok nmX5 hown hK hPw hDw hS k9 hk9 rfl 3 (by decide) (hts _ tw_879) (fun _ h9 => h9) rfl hin rfl (by decide +kernel) rfl rfl (Nat.le_of_ble_eq_true rfl) dX5_init_39 (fun H locs hPw hDw hS => ?_)
  have hP : mw (dC, dI) vwCl A (fun q e => (q = a0 ∧ e = .inr (5, [.ref (L1 1 0), .ref q20, .ref q21, .ref q22, .null, .null, .int 0, .int 0, .int 0, .int 0, .int 0, .int 0])) ∨ (fun q e => (fun q e => (fun q e => (MD cy none K0 L1 GRo) q e ∨ (q = q20 ∧ e = arQ (cy 4) 12 (fun _ => none))) q e ∨ (q = q21 ∧ e = arQ (cy 5) 12 (fun _ => none))) q e ∨ (q = q22 ∧ e = arQ (cy 6) 10 (fun _ => none))) q e) H := (hbk _ _ hPw hDw).sub (mset_one hap)
  clear hbk hPw hDw hk9
  refine lv_aload_n hx hb dX5_init_42 rfl (lv_at hl 0 rfl) ?_
  refine lv_sipush (v := 200) hx hb dX5_init_43 (by decide) ?_
  obtain ⟨ws9, hPw, hDw, hin9, hbk⟩ := hP.push
  refine va_newq hx hb (C := RX7) (N' := 200) hown (hts _ tw_717) (hE.2.2.1 _ (List.mem_of_getElem? (i := 4) rfl)) hK hPw hDw hS hA (by decide) (by decide) (Nat.le_of_ble_eq_true rfl) (by show 0 + 1 + 158 + 1 + 1 + 1 + 1 ≤ 847; omega) (by show 0 + 4 + 2676 + 12 + 12 + 10 + 200 ≤ 10875; omega) dX5_init_46 (fun q23 k9 H hK9 hPw hDw hS => ?_)
  obtain rfl : k9 = cy 7 := tp_one hK9 11 7 rfl rfl
  obtain ⟨hP, hfq23⟩ := hbk _ _ _ hPw hDw
  have hP : mw (dC, dI) vwCl A (fun q e => (q = a0 ∧ e = .inr (5, [.ref (L1 1 0), .ref q20, .ref q21, .ref q22, .null, .null, .int 0, .int 0, .int 0, .int 0, .int 0, .int 0])) ∨ (fun q e => (fun q e => (fun q e => (fun q e => (MD cy none K0 L1 GRo) q e ∨ (q = q20 ∧ e = arQ (cy 4) 12 (fun _ => none))) q e ∨ (q = q21 ∧ e = arQ (cy 5) 12 (fun _ => none))) q e ∨ (q = q22 ∧ e = arQ (cy 6) 10 (fun _ => none))) q e ∨ (q = q23 ∧ e = arQ (cy 7) 200 (fun _ => none))) q e) H := hP.sub (fun q e h => h.elim (fun h => Or.inl (Or.inl h)) (fun h => h.elim (fun h => Or.inl (Or.inr h)) (fun h => Or.inr h)))
  have hap : ∀ q e, (fun q e => (fun q e => (fun q e => (fun q e => (MD cy none K0 L1 GRo) q e ∨ (q = q20 ∧ e = arQ (cy 4) 12 (fun _ => none))) q e ∨ (q = q21 ∧ e = arQ (cy 5) 12 (fun _ => none))) q e ∨ (q = q22 ∧ e = arQ (cy 6) 10 (fun _ => none))) q e ∨ (q = q23 ∧ e = arQ (cy 7) 200 (fun _ => none))) q e → q ≠ a0 := fun q e h => h.elim (hap q e) (fun h => by rw [h.1]; exact (hfq23 a0 _ (Or.inl ⟨rfl, rfl⟩)).symm)
  clear hbk hPw hDw hin9 hK9
  obtain ⟨ws9, k9, hPw, hDw, hk9, -, hbk⟩ := hP.cut (e := .inr (5, [.ref (L1 1 0), .ref q20, .ref q21, .ref q22, .null, .null, .int 0, .int 0, .int 0, .int 0, .int 0, .int 0])) (Or.inl ⟨rfl, rfl⟩)
  refine va_putF (D := (dC, dI)) (ci := 5) (v := .ref q23) (ty := (.array (.object "Turnpike$Vehicle"))) (C := RX5) (T := TX5) (N := 12) hx hb hts tl_X5 tyX5 tyX5_ok nmX5 hown hK hPw hDw hS k9 hk9 rfl 4 (by decide) (hts _ tw_881) (fun _ h9 => h9) rfl hin rfl (by decide +kernel) rfl rfl (Nat.le_of_ble_eq_true rfl) dX5_init_49 (fun H locs hPw hDw hS => ?_)
  have hP : mw (dC, dI) vwCl A (fun q e => (q = a0 ∧ e = .inr (5, [.ref (L1 1 0), .ref q20, .ref q21, .ref q22, .ref q23, .null, .int 0, .int 0, .int 0, .int 0, .int 0, .int 0])) ∨ (fun q e => (fun q e => (fun q e => (fun q e => (MD cy none K0 L1 GRo) q e ∨ (q = q20 ∧ e = arQ (cy 4) 12 (fun _ => none))) q e ∨ (q = q21 ∧ e = arQ (cy 5) 12 (fun _ => none))) q e ∨ (q = q22 ∧ e = arQ (cy 6) 10 (fun _ => none))) q e ∨ (q = q23 ∧ e = arQ (cy 7) 200 (fun _ => none))) q e) H := (hbk _ _ hPw hDw).sub (mset_one hap)
  clear hbk hPw hDw hk9
  refine lv_aload_n hx hb dX5_init_52 rfl (lv_at hl 0 rfl) ?_
  refine lv_iconst (v := 1) hx hb dX5_init_53 (by decide) ?_
  obtain ⟨ws9, k9, hPw, hDw, hk9, -, hbk⟩ := hP.cut (e := .inr (5, [.ref (L1 1 0), .ref q20, .ref q21, .ref q22, .ref q23, .null, .int 0, .int 0, .int 0, .int 0, .int 0, .int 0])) (Or.inl ⟨rfl, rfl⟩)
  refine va_put (D := (dC, dI)) (ci := 5) (v := .int 1) (ty := .int) (C := RX5) (T := TX5) (N := 12) hx hb hts tl_X5 tyX5 tyX5_ok nmX5 hown hK hPw hDw hS k9 hk9 rfl 7 (by decide) (hts _ tw_887) (fun _ h9 => h9) rfl (by decide +kernel) rfl rfl (Nat.le_of_ble_eq_true rfl) dX5_init_54 (fun H locs hPw hDw hS => ?_)
  have hP : mw (dC, dI) vwCl A (fun q e => (q = a0 ∧ e = .inr (5, [.ref (L1 1 0), .ref q20, .ref q21, .ref q22, .ref q23, .null, .int 0, .int 1, .int 0, .int 0, .int 0, .int 0])) ∨ (fun q e => (fun q e => (fun q e => (fun q e => (MD cy none K0 L1 GRo) q e ∨ (q = q20 ∧ e = arQ (cy 4) 12 (fun _ => none))) q e ∨ (q = q21 ∧ e = arQ (cy 5) 12 (fun _ => none))) q e ∨ (q = q22 ∧ e = arQ (cy 6) 10 (fun _ => none))) q e ∨ (q = q23 ∧ e = arQ (cy 7) 200 (fun _ => none))) q e) H := (hbk _ _ hPw hDw).sub (mset_one hap)
  clear hbk hPw hDw hk9
  refine lv_aload_n hx hb dX5_init_57 rfl (lv_at hl 0 rfl) ?_
  refine lv_iload_n hx hb dX5_init_58 rfl (lv_at hl 1 rfl) ?_
  refine lv_if_eq (tgt := 72) hx hb dX5_init_59 (by decide) (fun _ => ?_) (fun c_1 => absurd (by decide) c_1)
  have hP : mw (dC, dI) vwCl A (fun q e => (q = a0 ∧ e = .inr (5, [.ref (L1 1 0), .ref q20, .ref q21, .ref q22, .ref q23, .null, .int 0, .int 1, .int 0, .int 0, .int 0, .int 0])) ∨ (fun q e => (fun q e => (fun q e => (fun q e => (fun q e => (MD cy none K0 L1 GRo) q e ∨ (q = q20 ∧ e = arQ (cy 4) 12 (fun _ => none))) q e ∨ (q = q21 ∧ e = arQ (cy 5) 12 (fun _ => none))) q e ∨ (q = q22 ∧ e = arQ (cy 6) 10 (fun _ => none))) q e ∨ (q = q23 ∧ e = arQ (cy 7) 200 (fun _ => none))) q e ∨ trw cy none TZ q e) q e) H := hP.sub (fun q e h => h.elim (fun h => Or.inl h) (fun h => h.elim (fun h => Or.inr h) (fun ⟨_, h, _⟩ => by cases h)))
  have hap : ∀ q e, (fun q e => (fun q e => (fun q e => (fun q e => (fun q e => (MD cy none K0 L1 GRo) q e ∨ (q = q20 ∧ e = arQ (cy 4) 12 (fun _ => none))) q e ∨ (q = q21 ∧ e = arQ (cy 5) 12 (fun _ => none))) q e ∨ (q = q22 ∧ e = arQ (cy 6) 10 (fun _ => none))) q e ∨ (q = q23 ∧ e = arQ (cy 7) 200 (fun _ => none))) q e ∨ trw cy none TZ q e) q e → q ≠ a0 := fun q e h => h.elim (hap q e) (fun ⟨_, h, _⟩ => by cases h)
  refine lv_null hx hb dX5_init_72 ?_
  obtain ⟨ws9, k9, hPw, hDw, hk9, -, hbk⟩ := hP.cut (e := .inr (5, [.ref (L1 1 0), .ref q20, .ref q21, .ref q22, .ref q23, .null, .int 0, .int 1, .int 0, .int 0, .int 0, .int 0])) (Or.inl ⟨rfl, rfl⟩)
  refine va_putF (D := (dC, dI)) (ci := 5) (v := .null) (ty := (.object "Turnpike$Trails")) (C := RX5) (T := TX5) (N := 12) hx hb hts tl_X5 tyX5 tyX5_ok nmX5 hown hK hPw hDw hS k9 hk9 rfl 5 (by decide) (hts _ tw_883) (fun _ h9 => h9) rfl hin rfl (by decide +kernel) rfl rfl (Nat.le_of_ble_eq_true rfl) dX5_init_73 (fun H locs hPw hDw hS => ?_)
  have hP : mw (dC, dI) vwCl A (fun q e => (q = a0 ∧ e = .inr (5, [.ref (L1 1 0), .ref q20, .ref q21, .ref q22, .ref q23, .null, .int 0, .int 1, .int 0, .int 0, .int 0, .int 0])) ∨ (fun q e => (fun q e => (fun q e => (fun q e => (fun q e => (MD cy none K0 L1 GRo) q e ∨ (q = q20 ∧ e = arQ (cy 4) 12 (fun _ => none))) q e ∨ (q = q21 ∧ e = arQ (cy 5) 12 (fun _ => none))) q e ∨ (q = q22 ∧ e = arQ (cy 6) 10 (fun _ => none))) q e ∨ (q = q23 ∧ e = arQ (cy 7) 200 (fun _ => none))) q e ∨ trw cy none TZ q e) q e) H := (hbk _ _ hPw hDw).sub (mset_one hap)
  clear hbk hPw hDw hk9
  have hP := traffic_start (tr := none) (τ := TZ) hP
  have hTA : TAp (BTr cy none TZ L1 a0 q20 q21 q22 q23) q20 q21 q22 q23 := by
    refine ⟨?_, hfq21 q20 _ (Or.inr (Or.inr ⟨rfl, rfl⟩)), hfq22 q20 _ (Or.inr (Or.inl (Or.inr ⟨rfl, rfl⟩))), hfq23 q20 _ (Or.inr (Or.inl (Or.inl (Or.inr ⟨rfl, rfl⟩)))), hfq22 q21 _ (Or.inr (Or.inr ⟨rfl, rfl⟩)), hfq23 q21 _ (Or.inr (Or.inl (Or.inr ⟨rfl, rfl⟩))), hfq23 q22 _ (Or.inr (Or.inr ⟨rfl, rfl⟩))⟩
    rintro q e ((⟨rfl, -⟩ | h) | h)
    · exact ⟨hfq20 q _ (Or.inl ⟨rfl, rfl⟩), hfq21 q _ (Or.inl ⟨rfl, rfl⟩), hfq22 q _ (Or.inl ⟨rfl, rfl⟩), hfq23 q _ (Or.inl ⟨rfl, rfl⟩)⟩
    · have h := h.mono (G' := GRo) (fun f i hg => by unfold G3o at hg; unfold GRo; omega)
      exact ⟨hfq20 q e (Or.inr h), hfq21 q e (Or.inr (Or.inl h)), hfq22 q e (Or.inr (Or.inl (Or.inl h))), hfq23 q e (Or.inr (Or.inl (Or.inl (Or.inl h))))⟩
    · obtain ⟨t, ht, -⟩ := h
      cases ht
  have hB0 : (BTr cy none TZ L1 a0 q20 q21 q22 q23) a0 (.inr (5, [.ref (L1 1 0), .ref q20, .ref q21, .ref q22, .ref q23, .null, .int 0, .int 1, .int 0, .int 0, .int 0, .int 0])) := Or.inl (Or.inl ⟨rfl, rfl⟩)
  have hLI := GT_start hLI1
  clear hap hfq20 hfq21 hfq22 hfq23 
  generalize hBe : (BTr cy none TZ L1 a0 q20 q21 q22 q23) = B9 at hP hTA hB0
  refine lv_iconst (v := 0) hx hb dX5_init_76 (by decide) ?_
  refine lv_istore_n (lv' := [(2, .int 0), (0, .ref a0), (1, .int 0)]) hx hb dX5_init_77 rfl hl (by decide) rfl (fun ls hl => ?_)
  refine W.widen (k := (fun i => 365 + 6 * i) 0) (n := (fun i => 3315 + 220 * i) 0) (Nat.le_of_ble_eq_true rfl) (Nat.le_of_ble_eq_true rfl) ?_
  refine tp_for (σ := Lay) 12 (fun i => 365 + 6 * i) (fun i => 3315 + 220 * i) (fun (i : Nat) (L : Lay) (H : Heap) (locs : List Loc) (ls : Array Slot) => (∀ f j, f < 8 ∨ 17 ≤ f → L f j = L1 f j) ∧ LIg (GT i i 0 0) L ∧ mw (dC, dI) vwCl A (TWl cy B9 L q20 q21 q22 q23 i i 0 0) H ∧ va_S A s.heap H locs ∧ lv_has ls 3 [(2, .int (nI i)), (0, .ref a0)]) ?_ ?_ 12 0 (Nat.zero_add _) L1 _ _ ls ⟨(fun _ _ _ => rfl), hLI, hP, hS, lv_sub hl [0, 1] rfl⟩
  · intro L H locs ls ⟨hL, hLI, hP, hS, hl⟩
    have hl : lv_has ls 3 [(2, .int (nI 12)), (0, .ref a0)] := hl
    refine lv_iload_n hx hb dX5_init_78 rfl (lv_at hl 0 rfl) ?_
    refine lv_bipush (v := 12) hx hb dX5_init_79 (by decide) ?_
    refine lv_icmp_ge (tgt := 119) hx hb dX5_init_81 (by decide) (fun _ => ?_) (fun c_3 => absurd (by decide) c_3)
    refine lv_iconst (v := 0) hx hb dX5_init_119 (by decide) ?_
    refine lv_istore_n (lv' := [(2, .int 0), (0, .ref a0)]) hx hb dX5_init_120 rfl hl (by decide) rfl (fun ls hl => ?_)
    refine W.widen (k := (fun i => 437 + 1 * i) 0) (n := (fun i => 5955 + 12 * i) 0) (Nat.le_of_ble_eq_true rfl) (Nat.le_of_ble_eq_true rfl) ?_
    refine tp_for (σ := Lay) 10 (fun i => 437 + 1 * i) (fun i => 5955 + 12 * i) (fun (i : Nat) (L : Lay) (H : Heap) (locs : List Loc) (ls : Array Slot) => (∀ f j, f < 8 ∨ 17 ≤ f → L f j = L1 f j) ∧ LIg (GT 12 12 i 0) L ∧ mw (dC, dI) vwCl A (TWl cy B9 L q20 q21 q22 q23 12 12 i 0) H ∧ va_S A s.heap H locs ∧ lv_has ls 3 [(2, .int (nI i)), (0, .ref a0)]) ?_ ?_ 10 0 (Nat.zero_add _) L _ _ ls ⟨hL, hLI, hP, hS, lv_sub hl [0, 1] rfl⟩
    · intro L H locs ls ⟨hL, hLI, hP, hS, hl⟩
      have hl : lv_has ls 3 [(2, .int (nI 10)), (0, .ref a0)] := hl
      refine lv_iload_n hx hb dX5_init_121 rfl (lv_at hl 0 rfl) ?_
      refine lv_bipush (v := 10) hx hb dX5_init_122 (by decide) ?_
      refine lv_icmp_ge (tgt := 146) hx hb dX5_init_124 (by decide) (fun _ => ?_) (fun c_5 => absurd (by decide) c_5)
      refine lv_iconst (v := 0) hx hb dX5_init_146 (by decide) ?_
      refine lv_istore_n (lv' := [(2, .int 0), (0, .ref a0)]) hx hb dX5_init_147 rfl hl (by decide) rfl (fun ls hl => ?_)
      refine W.widen (k := (fun i => 447 + 2 * i) 0) (n := (fun i => 6075 + 24 * i) 0) (Nat.le_of_ble_eq_true rfl) (Nat.le_of_ble_eq_true rfl) ?_
      refine tp_for (σ := Lay) 200 (fun i => 447 + 2 * i) (fun i => 6075 + 24 * i) (fun (i : Nat) (L : Lay) (H : Heap) (locs : List Loc) (ls : Array Slot) => (∀ f j, f < 8 ∨ 17 ≤ f → L f j = L1 f j) ∧ LIg (GT 12 12 10 i) L ∧ mw (dC, dI) vwCl A (TWl cy B9 L q20 q21 q22 q23 12 12 10 i) H ∧ va_S A s.heap H locs ∧ lv_has ls 3 [(2, .int (nI i)), (0, .ref a0)]) ?_ ?_ 200 0 (Nat.zero_add _) L _ _ ls ⟨hL, hLI, hP, hS, lv_sub hl [0, 1] rfl⟩
      · intro L H locs ls ⟨hL, hLI, hP, hS, hl⟩
        have hl : lv_has ls 3 [(2, .int (nI 200)), (0, .ref a0)] := hl
        refine lv_iload_n hx hb dX5_init_148 rfl (lv_at hl 0 rfl) ?_
        refine lv_sipush (v := 200) hx hb dX5_init_149 (by decide) ?_
        refine lv_icmp_ge (tgt := 174) hx hb dX5_init_152 (by decide) (fun _ => ?_) (fun c_7 => absurd (by decide) c_7)
        refine W.widen (k := 847) (n := 10875) (by decide) (by decide) ?_
        subst hBe
        obtain ⟨K9, h1, h2, h3⟩ := traffic_end hP hLI hTA hL (fun h => absurd rfl h)
        exact W.vret hx hb hr (fun t ht hW => ⟨⟨(), rfl, trivial, K9, h1, h2, by subst ht; exact h3⟩, hS.F ht⟩) hS.2.2 dX5_init_174
      · intro i L H locs ls hi ⟨hL, hLI, hP, hS, hl⟩ ih
        have hl : lv_has ls 3 [(2, .int (nI i)), (0, .ref a0)] := hl
        refine lv_iload_n hx hb dX5_init_148 rfl (lv_at hl 0 rfl) ?_
        refine lv_sipush (v := 200) hx hb dX5_init_149 (by decide) ?_
        refine lv_icmp_ge (tgt := 174) hx hb dX5_init_152 (by decide) (fun c_6 => absurd c_6 (nI_ge (a := i) (b := 200) hi (by decide))) (fun _ => ?_)
        refine lv_aload_n hx hb dX5_init_155 rfl (lv_at hl 1 rfl) ?_
        refine va_get (D := (dC, dI)) (ws := [(a0, .inr (5, [.ref (L1 1 0), .ref q20, .ref q21, .ref q22, .ref q23, .null, .int 0, .int 1, .int 0, .int 0, .int 0, .int 0]))]) (ci := 5) (v := .ref q23) (C := RX5) (T := TX5) (N := 12) hx hb hts tl_X5 hown hK (hP.one (Or.inl (Or.inl (Or.inl (Or.inl (Or.inl hB0)))))) 0 rfl rfl 4 (by decide) (hts _ tw_881) (fun _ h9 => h9) rfl dX5_init_156 ?_
        refine lv_iload_n hx hb dX5_init_159 rfl (lv_at hl 0 rfl) ?_
        obtain ⟨ws9, hPw, hDw, hin9, hbk⟩ := hP.push
        have h8 : tp_dv 13 tyX7 [.int 0, .int 0, .int 0, .int 0, .int 0, .int 0, .int 0, .int 0, .int 0, .int 0, .int 0, .int 0, .null] = true := by decide +kernel
        refine va_new (ci := 7) (fs := [.int 0, .int 0, .int 0, .int 0, .int 0, .int 0, .int 0, .int 0, .int 0, .int 0, .int 0, .int 0, .null]) (C := RX7) (T := TX7) (N := 13) hx hb hts tl_X7 tyX7 tyX7_ok hown (hts _ tw_717) (hts _ tw_813) (hts _ tw_29) hK hPw hDw hS hA rfl (fun j hj => tp_dv_ok h8 j hj) (by show 447 + 2 * i + 1 ≤ 847; omega) (by show 6075 + 24 * i + 13 ≤ 10875; omega) dX5_init_160 (fun a9 H hPw hDw hS => ?_)
        obtain ⟨hP, hfr⟩ := hbk _ _ _ hPw hDw
        clear hbk hPw hDw hin9
        refine lv_dup hx hb dX5_init_163 rfl ?_
        have hC : ∀ q e, cw [(a9, .inr (7, [.int 0, .int 0, .int 0, .int 0, .int 0, .int 0, .int 0, .int 0, .int 0, .int 0, .int 0, .int 0, .null]))] q e → madd (TWl cy B9 L q20 q21 q22 q23 12 12 10 i) a9 (.inr (7, [.int 0, .int 0, .int 0, .int 0, .int 0, .int 0, .int 0, .int 0, .int 0, .int 0, .int 0, .int 0, .null])) q e := fun q e h => by cases List.mem_singleton.mp h; exact Or.inr ⟨rfl, rfl⟩
        have hFc : ∀ q, va_A [(a9, .inr (7, [.int 0, .int 0, .int 0, .int 0, .int 0, .int 0, .int 0, .int 0, .int 0, .int 0, .int 0, .int 0, .null]))] H.size q → A q := fun q h => m_free hP hS hA hC q (mA_va.mp h)
        refine va_callv (va_runIN (As := []) (rest := [.ref a9, .int (nI i), .ref q23]) ⟨hx, hb, hml, hown, hts⟩ (k_Vehicle l dC dI cy a9 H.size) ⟨tp_cnB 0 hts (te_m5 hE) tw_29 tw_816 rfl rfl (by decide +kernel) ⟨Nat.le_of_ble_eq_true rfl, Nat.le_of_ble_eq_true rfl⟩, rfl, hts _ tw_815⟩ ⟨m_blind, fun U hU hW => ⟨rfl, m_pay hK hP hE hC U hU hW⟩⟩ rfl rfl hl.1 rfl (lv_room (Nat.le_of_ble_eq_true rfl)) dX5_init_164 ⟨(by show 447 + 2 * i + 1 + 1 ≤ 847; omega), (by show 6075 + 24 * i + 13 + 11 ≤ 10875; omega)⟩) hS (fun q _ h => hFc q h) hFc (fun u t H1 locs ht hvm hpo hB hz1 hk1 hS => ?_)
        obtain ⟨z1, hPk, hDk⟩ := hB
        rw [ht] at hPk
        have hJ := hP.joinL hfr hk1 hFc hPk hDk
        obtain ⟨ws9, k9, hPw, hDw, hk9, hin9, hbk⟩ := hJ.cut (e := arQ (cy 7) 200 (fil L 15 i)) (Or.inl (Or.inr ⟨rfl, rfl⟩))
        obtain ⟨k8, hk8⟩ := hin9 a9 (.inr (7, [.int 0, .int 0, .int 0, .int 0, .int 0, .int 0, .int 0, .int 0, .int 0, .int 0, .int 0, .int 0, .ref z1])) (Or.inr (List.mem_of_getElem? (i := 0) rfl))
        refine va_astq hx hb hK hPw hDw hS k9 7 k8 7 hk9 rfl hk8 rfl (vp_in_nI hi (by decide)) dX5_init_167 (fun H2 locs hPw hDw hS => ?_)
        rw [nI_clamp (by omega)] at hPw hDw
        have hP9 := hbk _ _ hPw hDw
        obtain ⟨L6, hL6, hLI9, hst⟩ := tt15 (w1 := [(a9, .inr (7, [.int 0, .int 0, .int 0, .int 0, .int 0, .int 0, .int 0, .int 0, .int 0, .int 0, .int 0, .int 0, .ref z1])), (z1, .inl (cy 0, 11, .inl (fun _ => 0)))]) (n1 := 2) hLI hTA hP hfr hDk rfl (by decide) (fun f hf => by
            simp only [List.mem_cons, List.not_mem_nil, or_false] at hf
            rcases hf with rfl | rfl
            · exact List.mem_of_getElem? (i := 0) rfl
            · exact List.mem_of_getElem? (i := 1) rfl
            ) rfl
        have hP : mw (dC, dI) vwCl A (TWl cy B9 L6 q20 q21 q22 q23 12 12 10 (i + 1)) H2 := hP9.sub hst
        have hLI := hLI9
        have hL3 : ∀ f j, f < 8 ∨ 17 ≤ f → L6 f j = L1 f j := fun f j h9 => (hL6 f j h9).trans (hL f j h9)
        clear hP9 hst hbk hPw hDw hin9 hk9 hk8 hJ hPk hDk hk1 hFc hC hfr h8 hLI9
        refine lv_iinc (v := nI (i + 1)) (lv' := [(2, .int (nI (i + 1))), (0, .ref a0)]) hx hb dX5_init_168 hl (k := 0) rfl (nI_1 i) (by decide) rfl (fun ls hl => ?_)
        refine lv_goto (tgt := 148) hx hb dX5_init_171 (by decide) ?_
        refine W.widen (k := (fun i => 447 + 2 * i) (i + 1)) (n := (fun i => 6075 + 24 * i) (i + 1)) (by show 447 + 2 * i + 1 + 1 ≤ 447 + 2 * (i + 1); omega) (by show 6075 + 24 * i + 13 + 11 ≤ 6075 + 24 * (i + 1); omega) ?_
        exact ih L6 _ _ ls ⟨hL3, hLI, hP, hS, lv_sub hl [0, 1] rfl⟩
    · intro i L H locs ls hi ⟨hL, hLI, hP, hS, hl⟩ ih
      have hl : lv_has ls 3 [(2, .int (nI i)), (0, .ref a0)] := hl
      refine lv_iload_n hx hb dX5_init_121 rfl (lv_at hl 0 rfl) ?_
      refine lv_bipush (v := 10) hx hb dX5_init_122 (by decide) ?_
      refine lv_icmp_ge (tgt := 146) hx hb dX5_init_124 (by decide) (fun c_4 => absurd c_4 (nI_ge (a := i) (b := 10) hi (by decide))) (fun _ => ?_)
      refine lv_aload_n hx hb dX5_init_127 rfl (lv_at hl 1 rfl) ?_
      refine va_get (D := (dC, dI)) (ws := [(a0, .inr (5, [.ref (L1 1 0), .ref q20, .ref q21, .ref q22, .ref q23, .null, .int 0, .int 1, .int 0, .int 0, .int 0, .int 0]))]) (ci := 5) (v := .ref q22) (C := RX5) (T := TX5) (N := 12) hx hb hts tl_X5 hown hK (hP.one (Or.inl (Or.inl (Or.inl (Or.inl (Or.inl hB0)))))) 0 rfl rfl 3 (by decide) (hts _ tw_879) (fun _ h9 => h9) rfl dX5_init_128 ?_
      refine lv_iload_n hx hb dX5_init_131 rfl (lv_at hl 0 rfl) ?_
      obtain ⟨ws9, hPw, hDw, hin9, hbk⟩ := hP.push
      have h8 : tp_dv 12 tyX0 [.int 0, .int 0, .int 0, .int 0, .int 0, .int 0, .int 0, .int 0, .int 0, .int 0, .int 0, .int 0] = true := by decide +kernel
      refine va_new (ci := 0) (fs := [.int 0, .int 0, .int 0, .int 0, .int 0, .int 0, .int 0, .int 0, .int 0, .int 0, .int 0, .int 0]) (C := RX0) (T := TX0) (N := 12) hx hb hts tl_X0 tyX0 tyX0_ok hown (hts _ tw_715) (hts _ tw_759) (hts _ tw_28) hK hPw hDw hS hA rfl (fun j hj => tp_dv_ok h8 j hj) (by show 437 + 1 * i + 1 ≤ 847; omega) (by show 5955 + 12 * i + 12 ≤ 10875; omega) dX5_init_132 (fun a9 H hPw hDw hS => ?_)
      obtain ⟨hP, hfr⟩ := hbk _ _ _ hPw hDw
      clear hbk hPw hDw hin9
      refine lv_dup hx hb dX5_init_135 rfl ?_
      have hC : ∀ q e, cw [(a9, .inr (0, [.int 0, .int 0, .int 0, .int 0, .int 0, .int 0, .int 0, .int 0, .int 0, .int 0, .int 0, .int 0]))] q e → madd (TWl cy B9 L q20 q21 q22 q23 12 12 i 0) a9 (.inr (0, [.int 0, .int 0, .int 0, .int 0, .int 0, .int 0, .int 0, .int 0, .int 0, .int 0, .int 0, .int 0])) q e := fun q e h => by cases List.mem_singleton.mp h; exact Or.inr ⟨rfl, rfl⟩
      have hFc : ∀ q, va_A [(a9, .inr (0, [.int 0, .int 0, .int 0, .int 0, .int 0, .int 0, .int 0, .int 0, .int 0, .int 0, .int 0, .int 0]))] H.size q → A q := fun q h => m_free hP hS hA hC q (mA_va.mp h)
      refine va_callv (va_runIN (As := []) (rest := [.ref a9, .int (nI i), .ref q22]) ⟨hx, hb, hml, hown, hts⟩ (k_Flow l dC dI cy a9 H.size) ⟨tp_cnB 0 hts (te_m4 hE) tw_28 tw_762 rfl rfl (by decide +kernel) ⟨Nat.le_of_ble_eq_true rfl, Nat.le_of_ble_eq_true rfl⟩, rfl, hts _ tw_761⟩ ⟨m_blind, fun U hU hW => ⟨rfl, m_pay hK hP hE hC U hU hW⟩⟩ rfl rfl hl.1 rfl (lv_room (Nat.le_of_ble_eq_true rfl)) dX5_init_136 ⟨(by show 437 + 1 * i + 1 + 0 ≤ 847; omega), (by show 5955 + 12 * i + 12 + 0 ≤ 10875; omega)⟩) hS (fun q _ h => hFc q h) hFc (fun u t H1 locs ht hvm hpo hB hz1 hk1 hS => ?_)
      obtain ⟨hPk, hDk⟩ := hB
      rw [ht] at hPk
      have hJ := hP.joinL hfr hk1 hFc hPk hDk
      obtain ⟨ws9, k9, hPw, hDw, hk9, hin9, hbk⟩ := hJ.cut (e := arQ (cy 6) 10 (fil L 14 i)) (Or.inl (Or.inl (Or.inr ⟨rfl, rfl⟩)))
      obtain ⟨k8, hk8⟩ := hin9 a9 (.inr (0, [.int 0, .int 0, .int 0, .int 0, .int 1, .int 0, .int 0, .int 0, .int 0, .int 0, .int 0, .int 0])) (Or.inr (List.mem_of_getElem? (i := 0) rfl))
      refine va_astq hx hb hK hPw hDw hS k9 6 k8 0 hk9 rfl hk8 rfl (vp_in_nI hi (by decide)) dX5_init_139 (fun H2 locs hPw hDw hS => ?_)
      rw [nI_clamp (by omega)] at hPw hDw
      have hP9 := hbk _ _ hPw hDw
      obtain ⟨L5, hL5, hLI9, hst⟩ := tt14 (w1 := [(a9, .inr (0, [.int 0, .int 0, .int 0, .int 0, .int 1, .int 0, .int 0, .int 0, .int 0, .int 0, .int 0, .int 0]))]) (n1 := 1) hLI hTA hP hfr hDk rfl (by decide) (fun f hf => by
          simp only [List.mem_cons, List.not_mem_nil, or_false] at hf
          subst hf
          · exact List.mem_of_getElem? (i := 0) rfl
          ) rfl
      have hP : mw (dC, dI) vwCl A (TWl cy B9 L5 q20 q21 q22 q23 12 12 (i + 1) 0) H2 := hP9.sub hst
      have hLI := hLI9
      have hL2 : ∀ f j, f < 8 ∨ 17 ≤ f → L5 f j = L1 f j := fun f j h9 => (hL5 f j h9).trans (hL f j h9)
      clear hP9 hst hbk hPw hDw hin9 hk9 hk8 hJ hPk hDk hk1 hFc hC hfr h8 hLI9
      refine lv_iinc (v := nI (i + 1)) (lv' := [(2, .int (nI (i + 1))), (0, .ref a0)]) hx hb dX5_init_140 hl (k := 0) rfl (nI_1 i) (by decide) rfl (fun ls hl => ?_)
      refine lv_goto (tgt := 121) hx hb dX5_init_143 (by decide) ?_
      refine W.widen (k := (fun i => 437 + 1 * i) (i + 1)) (n := (fun i => 5955 + 12 * i) (i + 1)) (by show 437 + 1 * i + 1 + 0 ≤ 437 + 1 * (i + 1); omega) (by show 5955 + 12 * i + 12 + 0 ≤ 5955 + 12 * (i + 1); omega) ?_
      exact ih L5 _ _ ls ⟨hL2, hLI, hP, hS, lv_sub hl [0, 1] rfl⟩
  · intro i L H locs ls hi ⟨hL, hLI, hP, hS, hl⟩ ih
    have hl : lv_has ls 3 [(2, .int (nI i)), (0, .ref a0)] := hl
    refine lv_iload_n hx hb dX5_init_78 rfl (lv_at hl 0 rfl) ?_
    refine lv_bipush (v := 12) hx hb dX5_init_79 (by decide) ?_
    refine lv_icmp_ge (tgt := 119) hx hb dX5_init_81 (by decide) (fun c_2 => absurd c_2 (nI_ge (a := i) (b := 12) hi (by decide))) (fun _ => ?_)
    refine lv_aload_n hx hb dX5_init_84 rfl (lv_at hl 1 rfl) ?_
    refine va_get (D := (dC, dI)) (ws := [(a0, .inr (5, [.ref (L1 1 0), .ref q20, .ref q21, .ref q22, .ref q23, .null, .int 0, .int 1, .int 0, .int 0, .int 0, .int 0]))]) (ci := 5) (v := .ref q20) (C := RX5) (T := TX5) (N := 12) hx hb hts tl_X5 hown hK (hP.one (Or.inl (Or.inl (Or.inl (Or.inl (Or.inl hB0)))))) 0 rfl rfl 1 (by decide) (hts _ tw_875) (fun _ h9 => h9) rfl dX5_init_85 ?_
    refine lv_iload_n hx hb dX5_init_88 rfl (lv_at hl 0 rfl) ?_
    obtain ⟨ws9, hPw, hDw, hin9, hbk⟩ := hP.push
    have h8 : tp_dv 6 tyX4 [.null, .null, .null, .int 0, .int 0, .int 0] = true := by decide +kernel
    refine va_new (ci := 4) (fs := [.null, .null, .null, .int 0, .int 0, .int 0]) (C := RX4) (T := TX4) (N := 6) hx hb hts tl_X4 tyX4 tyX4_ok hown (hts _ tw_711) (hts _ tw_243) (hts _ tw_27) hK hPw hDw hS hA rfl (fun j hj => tp_dv_ok h8 j hj) (by show 365 + 6 * i + 1 ≤ 847; omega) (by show 3315 + 220 * i + 6 ≤ 10875; omega) dX5_init_89 (fun a9 H hPw hDw hS => ?_)
    obtain ⟨hP, hfr⟩ := hbk _ _ _ hPw hDw
    clear hbk hPw hDw hin9
    refine lv_dup hx hb dX5_init_92 rfl ?_
    have hC : ∀ q e, cw [(a9, .inr (4, [.null, .null, .null, .int 0, .int 0, .int 0]))] q e → madd (TWl cy B9 L q20 q21 q22 q23 i i 0 0) a9 (.inr (4, [.null, .null, .null, .int 0, .int 0, .int 0])) q e := fun q e h => by cases List.mem_singleton.mp h; exact Or.inr ⟨rfl, rfl⟩
    have hFc : ∀ q, va_A [(a9, .inr (4, [.null, .null, .null, .int 0, .int 0, .int 0]))] H.size q → A q := fun q h => m_free hP hS hA hC q (mA_va.mp h)
    refine va_callv (va_runIN (As := []) (rest := [.ref a9, .int (nI i), .ref q20]) ⟨hx, hb, hml, hown, hts⟩ (k_Signal l dC dI cy a9 H.size) ⟨tp_cnB 0 hts (te_m3 hE) tw_27 tw_733 rfl rfl (by decide +kernel) ⟨Nat.le_of_ble_eq_true rfl, Nat.le_of_ble_eq_true rfl⟩, rfl, hts _ tw_732⟩ ⟨m_blind, fun U hU hW => ⟨rfl, m_pay hK hP hE hC U hU hW⟩⟩ rfl rfl hl.1 rfl (lv_room (Nat.le_of_ble_eq_true rfl)) dX5_init_93 ⟨(by show 365 + 6 * i + 1 + 3 ≤ 847; omega), (by show 3315 + 220 * i + 6 + 12 ≤ 10875; omega)⟩) hS (fun q _ h => hFc q h) hFc (fun u t H1 locs ht hvm hpo hB hz1 hk1 hS => ?_)
    obtain ⟨z1, z2, z3, hPk, hDk⟩ := hB
    rw [ht] at hPk
    have hJ := hP.joinL hfr hk1 hFc hPk hDk
    obtain ⟨ws9, k9, hPw, hDw, hk9, hin9, hbk⟩ := hJ.cut (e := arQ (cy 4) 12 (fil L 8 i)) (Or.inl (Or.inl (Or.inl (Or.inl (Or.inr ⟨rfl, rfl⟩)))))
    obtain ⟨k8, hk8⟩ := hin9 a9 (.inr (4, [.ref z1, .ref z2, .ref z3, .int 0, .int (-1), .int 0])) (Or.inr (List.mem_of_getElem? (i := 0) rfl))
    refine va_astq hx hb hK hPw hDw hS k9 4 k8 4 hk9 rfl hk8 rfl (vp_in_nI hi (by decide)) dX5_init_96 (fun H2 locs hPw hDw hS => ?_)
    rw [nI_clamp (by omega)] at hPw hDw
    have hP9 := hbk _ _ hPw hDw
    obtain ⟨L3, hL3, hLI9, hst⟩ := tt8 (w1 := [(a9, .inr (4, [.ref z1, .ref z2, .ref z3, .int 0, .int (-1), .int 0])), (z1, .inl (cy 0, 4, .inl (fun _ => 0))), (z2, .inl (cy 0, 4, .inl (fun _ => 0))), (z3, .inl (cy 0, 4, .inl (fun _ => 0)))]) (n1 := 4) hLI hTA hP hfr hDk rfl (by decide) (fun f hf => by
        simp only [List.mem_cons, List.not_mem_nil, or_false] at hf
        rcases hf with rfl | rfl | rfl | rfl
        · exact List.mem_of_getElem? (i := 0) rfl
        · exact List.mem_of_getElem? (i := 1) rfl
        · exact List.mem_of_getElem? (i := 2) rfl
        · exact List.mem_of_getElem? (i := 3) rfl
        ) rfl
    have hP : mw (dC, dI) vwCl A (TWl cy B9 L3 q20 q21 q22 q23 (i + 1) i 0 0) H2 := hP9.sub hst
    have hLI := hLI9
    have hL0 : ∀ f j, f < 8 ∨ 17 ≤ f → L3 f j = L1 f j := fun f j h9 => (hL3 f j h9).trans (hL f j h9)
    clear hP9 hst hbk hPw hDw hin9 hk9 hk8 hJ hPk hDk hk1 hFc hC hfr h8 hLI9
    refine lv_aload_n hx hb dX5_init_97 rfl (lv_at hl 1 rfl) ?_
    refine va_get (D := (dC, dI)) (ws := [(a0, .inr (5, [.ref (L1 1 0), .ref q20, .ref q21, .ref q22, .ref q23, .null, .int 0, .int 1, .int 0, .int 0, .int 0, .int 0]))]) (ci := 5) (v := .ref q21) (C := RX5) (T := TX5) (N := 12) hx hb hts tl_X5 hown hK (hP.one (Or.inl (Or.inl (Or.inl (Or.inl (Or.inl hB0)))))) 0 rfl rfl 2 (by decide) (hts _ tw_877) (fun _ h9 => h9) rfl dX5_init_98 ?_
    refine lv_iload_n hx hb dX5_init_101 rfl (lv_at hl 0 rfl) ?_
    obtain ⟨ws9, hPw, hDw, hin9, hbk⟩ := hP.push
    have h8 : tp_dv 2 tyX3 [.null, .int 0] = true := by decide +kernel
    refine va_new (ci := 3) (fs := [.null, .int 0]) (C := RX3) (T := TX3) (N := 2) hx hb hts tl_X3 tyX3 tyX3_ok hown (hts _ tw_713) (hts _ tw_608) (hts _ tw_24) hK hPw hDw hS hA rfl (fun j hj => tp_dv_ok h8 j hj) (by show 365 + 6 * i + 1 + 3 + 1 ≤ 847; omega) (by show 3315 + 220 * i + 6 + 12 + 2 ≤ 10875; omega) dX5_init_102 (fun a9 H hPw hDw hS => ?_)
    obtain ⟨hP, hfr⟩ := hbk _ _ _ hPw hDw
    clear hbk hPw hDw hin9
    refine lv_dup hx hb dX5_init_105 rfl ?_
    refine lv_sipush (v := 200) hx hb dX5_init_106 (by decide) ?_
    have hC : ∀ q e, cw [(a9, .inr (3, [.null, .int 0]))] q e → madd (TWl cy B9 L3 q20 q21 q22 q23 (i + 1) i 0 0) a9 (.inr (3, [.null, .int 0])) q e := fun q e h => by cases List.mem_singleton.mp h; exact Or.inr ⟨rfl, rfl⟩
    have hFc : ∀ q, va_A [(a9, .inr (3, [.null, .int 0]))] H.size q → A q := fun q h => m_free hP hS hA hC q (mA_va.mp h)
    refine va_callv (va_runI (As := [.int 200]) (rest := [.ref a9, .int (nI i), .ref q21]) ⟨hx, hb, hml, hown, hts⟩ (k_Row_200 l dC dI cy a9 H.size) (tp_cwI 1 hts tw_758 tw_610 tw_24 tw_611 rfl rfl rfl (by decide +kernel) ⟨Nat.le_of_ble_eq_true rfl, Nat.le_of_ble_eq_true rfl⟩) ⟨m_blind, fun U hU hW => ⟨rfl, m_pay hK hP hE hC U hU hW⟩⟩ rfl rfl hl.1 rfl (lv_room (Nat.le_of_ble_eq_true rfl)) dX5_init_109 ⟨(by show 365 + 6 * i + 1 + 3 + 1 + 1 ≤ 847; omega), (by show 3315 + 220 * i + 6 + 12 + 2 + 200 ≤ 10875; omega)⟩) hS (fun q _ h => hFc q h) hFc (fun u t H1 locs ht hvm hpo hB hz1 hk1 hS => ?_)
    obtain ⟨z1, hPk, hDk⟩ := hB
    rw [ht] at hPk
    have hJ := hP.joinL hfr hk1 hFc hPk hDk
    obtain ⟨ws9, k9, hPw, hDw, hk9, hin9, hbk⟩ := hJ.cut (e := arQ (cy 5) 12 (fil L3 12 i)) (Or.inl (Or.inl (Or.inl (Or.inr ⟨rfl, rfl⟩))))
    obtain ⟨k8, hk8⟩ := hin9 a9 (.inr (3, [.ref z1, .int 0])) (Or.inr (List.mem_of_getElem? (i := 0) rfl))
    refine va_astq hx hb hK hPw hDw hS k9 5 k8 3 hk9 rfl hk8 rfl (vp_in_nI hi (by decide)) dX5_init_112 (fun H2 locs hPw hDw hS => ?_)
    rw [nI_clamp (by omega)] at hPw hDw
    have hP9 := hbk _ _ hPw hDw
    obtain ⟨L4, hL4, hLI9, hst⟩ := tt12 (w1 := [(a9, .inr (3, [.ref z1, .int 0])), (z1, .inl (cy 0, 200, .inl (fun _ => 0)))]) (n1 := 2) hLI hTA hP hfr hDk rfl (by decide) (fun f hf => by
        simp only [List.mem_cons, List.not_mem_nil, or_false] at hf
        rcases hf with rfl | rfl
        · exact List.mem_of_getElem? (i := 0) rfl
        · exact List.mem_of_getElem? (i := 1) rfl
        ) rfl
    have hP : mw (dC, dI) vwCl A (TWl cy B9 L4 q20 q21 q22 q23 (i + 1) (i + 1) 0 0) H2 := hP9.sub hst
    have hLI := hLI9
    have hL1 : ∀ f j, f < 8 ∨ 17 ≤ f → L4 f j = L1 f j := fun f j h9 => (hL4 f j h9).trans (hL0 f j h9)
    clear hP9 hst hbk hPw hDw hin9 hk9 hk8 hJ hPk hDk hk1 hFc hC hfr h8 hLI9
    refine lv_iinc (v := nI (i + 1)) (lv' := [(2, .int (nI (i + 1))), (0, .ref a0)]) hx hb dX5_init_113 hl (k := 0) rfl (nI_1 i) (by decide) rfl (fun ls hl => ?_)
    refine lv_goto (tgt := 78) hx hb dX5_init_116 (by decide) ?_
    refine W.widen (k := (fun i => 365 + 6 * i) (i + 1)) (n := (fun i => 3315 + 220 * i) (i + 1)) (by show 365 + 6 * i + 1 + 3 + 1 + 1 ≤ 365 + 6 * (i + 1); omega) (by show 3315 + 220 * i + 6 + 12 + 2 + 200 ≤ 3315 + 220 * (i + 1); omega) ?_
    exact ih L4 _ _ ls ⟨hL1, hLI, hP, hS, lv_sub hl [0, 1] rfl⟩
