theorem tw_939 : Cond.fieldLink RX9 122 "TurnpikeLaw$Roads" "clock" "I" ∈ tp_all := tp_mem 939 (by decide +kernel) rfl
theorem tw_955 : Cond.fieldLink RX9 52 "TurnpikeLaw$Roads" "flow" "[[I" ∈ tp_all := tp_mem 955 (by decide +kernel) rfl
theorem tw_954 : Cond.fieldLink RX9 125 "TurnpikeLaw$Roads" "flows" "I" ∈ tp_all := tp_mem 954 (by decide +kernel) rfl
theorem tw_1074 : Cond.code yX8_addFlow cX8_addFlow 7 (some .int) ∈ tp_all := tp_mem 1074 (by decide +kernel) rfl
theorem tw_1071 : Cond.methodLink RX9 128 yX8_addFlow ∈ tp_all := tp_mem 1071 (by decide +kernel) rfl
theorem tw_1072 : Cond.instanceMethod yX8_addFlow ∈ tp_all := tp_mem 1072 (by decide +kernel) rfl
theorem tw_1073 : Cond.selects RX8 yX8_addFlow yX8_addFlow ∈ tp_all := tp_mem 1073 (by decide +kernel) rfl
theorem dX9_addFlow_0 : decode cX9_addFlow 0 = .ok (.aload_n 0, 1) := by decide +kernel
theorem dX9_addFlow_1 : decode cX9_addFlow 1 = .ok (.aload_n 0, 1) := by decide +kernel
theorem dX9_addFlow_2 : decode cX9_addFlow 2 = .ok (.getfield 108, 3) := by decide +kernel
theorem dX9_addFlow_5 : decode cX9_addFlow 5 = .ok (.invokevirtual 97, 3) := by decide +kernel
theorem dX9_addFlow_8 : decode cX9_addFlow 8 = .ok (.istore_n 2, 1) := by decide +kernel
theorem dX9_addFlow_9 : decode cX9_addFlow 9 = .ok (.bipush 6, 2) := by decide +kernel
theorem dX9_addFlow_11 : decode cX9_addFlow 11 = .ok (.newarray .int, 2) := by decide +kernel
theorem dX9_addFlow_13 : decode cX9_addFlow 13 = .ok (.dup, 1) := by decide +kernel
theorem dX9_addFlow_14 : decode cX9_addFlow 14 = .ok (.iconst 0, 1) := by decide +kernel
theorem dX9_addFlow_15 : decode cX9_addFlow 15 = .ok (.iload_n 2, 1) := by decide +kernel
theorem dX9_addFlow_16 : decode cX9_addFlow 16 = .ok (.iastore, 1) := by decide +kernel
theorem dX9_addFlow_17 : decode cX9_addFlow 17 = .ok (.dup, 1) := by decide +kernel
theorem dX9_addFlow_18 : decode cX9_addFlow 18 = .ok (.iconst 1, 1) := by decide +kernel
theorem dX9_addFlow_19 : decode cX9_addFlow 19 = .ok (.iload_n 2, 1) := by decide +kernel
theorem dX9_addFlow_20 : decode cX9_addFlow 20 = .ok (.iconst 1, 1) := by decide +kernel
theorem dX9_addFlow_21 : decode cX9_addFlow 21 = .ok (.iadd, 1) := by decide +kernel
theorem dX9_addFlow_22 : decode cX9_addFlow 22 = .ok (.aload_n 0, 1) := by decide +kernel
theorem dX9_addFlow_23 : decode cX9_addFlow 23 = .ok (.aload_n 0, 1) := by decide +kernel
theorem dX9_addFlow_24 : decode cX9_addFlow 24 = .ok (.getfield 108, 3) := by decide +kernel
theorem dX9_addFlow_27 : decode cX9_addFlow 27 = .ok (.iconst 1, 1) := by decide +kernel
theorem dX9_addFlow_28 : decode cX9_addFlow 28 = .ok (.isub, 1) := by decide +kernel
theorem dX9_addFlow_29 : decode cX9_addFlow 29 = .ok (.invokevirtual 97, 3) := by decide +kernel
theorem dX9_addFlow_32 : decode cX9_addFlow 32 = .ok (.iadd, 1) := by decide +kernel
theorem dX9_addFlow_33 : decode cX9_addFlow 33 = .ok (.aload_n 0, 1) := by decide +kernel
theorem dX9_addFlow_34 : decode cX9_addFlow 34 = .ok (.getfield 108, 3) := by decide +kernel
theorem dX9_addFlow_37 : decode cX9_addFlow 37 = .ok (.irem, 1) := by decide +kernel
theorem dX9_addFlow_38 : decode cX9_addFlow 38 = .ok (.iastore, 1) := by decide +kernel
theorem dX9_addFlow_39 : decode cX9_addFlow 39 = .ok (.dup, 1) := by decide +kernel
theorem dX9_addFlow_40 : decode cX9_addFlow 40 = .ok (.iconst 2, 1) := by decide +kernel
theorem dX9_addFlow_41 : decode cX9_addFlow 41 = .ok (.iload_n 1, 1) := by decide +kernel
theorem dX9_addFlow_42 : decode cX9_addFlow 42 = .ok (.iastore, 1) := by decide +kernel
theorem dX9_addFlow_43 : decode cX9_addFlow 43 = .ok (.dup, 1) := by decide +kernel
theorem dX9_addFlow_44 : decode cX9_addFlow 44 = .ok (.iconst 3, 1) := by decide +kernel
theorem dX9_addFlow_45 : decode cX9_addFlow 45 = .ok (.aload_n 0, 1) := by decide +kernel
theorem dX9_addFlow_46 : decode cX9_addFlow 46 = .ok (.getfield 122, 3) := by decide +kernel
theorem dX9_addFlow_49 : decode cX9_addFlow 49 = .ok (.aload_n 0, 1) := by decide +kernel
theorem dX9_addFlow_50 : decode cX9_addFlow 50 = .ok (.iconst 5, 1) := by decide +kernel
theorem dX9_addFlow_51 : decode cX9_addFlow 51 = .ok (.invokevirtual 97, 3) := by decide +kernel
theorem dX9_addFlow_54 : decode cX9_addFlow 54 = .ok (.iadd, 1) := by decide +kernel
theorem dX9_addFlow_55 : decode cX9_addFlow 55 = .ok (.iastore, 1) := by decide +kernel
theorem dX9_addFlow_56 : decode cX9_addFlow 56 = .ok (.dup, 1) := by decide +kernel
theorem dX9_addFlow_57 : decode cX9_addFlow 57 = .ok (.iconst 4, 1) := by decide +kernel
theorem dX9_addFlow_58 : decode cX9_addFlow 58 = .ok (.iconst 1, 1) := by decide +kernel
theorem dX9_addFlow_59 : decode cX9_addFlow 59 = .ok (.aload_n 0, 1) := by decide +kernel
theorem dX9_addFlow_60 : decode cX9_addFlow 60 = .ok (.iconst 4, 1) := by decide +kernel
theorem dX9_addFlow_61 : decode cX9_addFlow 61 = .ok (.invokevirtual 97, 3) := by decide +kernel
theorem dX9_addFlow_64 : decode cX9_addFlow 64 = .ok (.iadd, 1) := by decide +kernel
theorem dX9_addFlow_65 : decode cX9_addFlow 65 = .ok (.iastore, 1) := by decide +kernel
theorem dX9_addFlow_66 : decode cX9_addFlow 66 = .ok (.dup, 1) := by decide +kernel
theorem dX9_addFlow_67 : decode cX9_addFlow 67 = .ok (.iconst 5, 1) := by decide +kernel
theorem dX9_addFlow_68 : decode cX9_addFlow 68 = .ok (.iconst 1, 1) := by decide +kernel
theorem dX9_addFlow_69 : decode cX9_addFlow 69 = .ok (.aload_n 0, 1) := by decide +kernel
theorem dX9_addFlow_70 : decode cX9_addFlow 70 = .ok (.bipush 6, 2) := by decide +kernel
theorem dX9_addFlow_72 : decode cX9_addFlow 72 = .ok (.invokevirtual 97, 3) := by decide +kernel
theorem dX9_addFlow_75 : decode cX9_addFlow 75 = .ok (.iadd, 1) := by decide +kernel
theorem dX9_addFlow_76 : decode cX9_addFlow 76 = .ok (.iastore, 1) := by decide +kernel
theorem dX9_addFlow_77 : decode cX9_addFlow 77 = .ok (.astore_n 3, 1) := by decide +kernel
theorem dX9_addFlow_78 : decode cX9_addFlow 78 = .ok (.aload_n 0, 1) := by decide +kernel
theorem dX9_addFlow_79 : decode cX9_addFlow 79 = .ok (.getfield 52, 3) := by decide +kernel
theorem dX9_addFlow_82 : decode cX9_addFlow 82 = .ok (.aload_n 0, 1) := by decide +kernel
theorem dX9_addFlow_83 : decode cX9_addFlow 83 = .ok (.getfield 125, 3) := by decide +kernel
theorem dX9_addFlow_86 : decode cX9_addFlow 86 = .ok (.aload_n 3, 1) := by decide +kernel
theorem dX9_addFlow_87 : decode cX9_addFlow 87 = .ok (.aastore, 1) := by decide +kernel
theorem dX9_addFlow_88 : decode cX9_addFlow 88 = .ok (.aload_n 0, 1) := by decide +kernel
theorem dX9_addFlow_89 : decode cX9_addFlow 89 = .ok (.getfield 10, 3) := by decide +kernel
theorem dX9_addFlow_92 : decode cX9_addFlow 92 = .ok (.aload_n 3, 1) := by decide +kernel
theorem dX9_addFlow_93 : decode cX9_addFlow 93 = .ok (.iconst 0, 1) := by decide +kernel
theorem dX9_addFlow_94 : decode cX9_addFlow 94 = .ok (.iaload, 1) := by decide +kernel
theorem dX9_addFlow_95 : decode cX9_addFlow 95 = .ok (.aload_n 3, 1) := by decide +kernel
theorem dX9_addFlow_96 : decode cX9_addFlow 96 = .ok (.iconst 1, 1) := by decide +kernel
theorem dX9_addFlow_97 : decode cX9_addFlow 97 = .ok (.iaload, 1) := by decide +kernel
theorem dX9_addFlow_98 : decode cX9_addFlow 98 = .ok (.iload_n 1, 1) := by decide +kernel
theorem dX9_addFlow_99 : decode cX9_addFlow 99 = .ok (.aload_n 3, 1) := by decide +kernel
theorem dX9_addFlow_100 : decode cX9_addFlow 100 = .ok (.iconst 3, 1) := by decide +kernel
theorem dX9_addFlow_101 : decode cX9_addFlow 101 = .ok (.iaload, 1) := by decide +kernel
theorem dX9_addFlow_102 : decode cX9_addFlow 102 = .ok (.aload_n 3, 1) := by decide +kernel
theorem dX9_addFlow_103 : decode cX9_addFlow 103 = .ok (.iconst 4, 1) := by decide +kernel
theorem dX9_addFlow_104 : decode cX9_addFlow 104 = .ok (.iaload, 1) := by decide +kernel
theorem dX9_addFlow_105 : decode cX9_addFlow 105 = .ok (.aload_n 3, 1) := by decide +kernel
theorem dX9_addFlow_106 : decode cX9_addFlow 106 = .ok (.iconst 5, 1) := by decide +kernel
theorem dX9_addFlow_107 : decode cX9_addFlow 107 = .ok (.iaload, 1) := by decide +kernel
theorem dX9_addFlow_108 : decode cX9_addFlow 108 = .ok (.invokevirtual 128, 3) := by decide +kernel
theorem dX9_addFlow_111 : decode cX9_addFlow 111 = .ok (.aload_n 0, 1) := by decide +kernel
theorem dX9_addFlow_112 : decode cX9_addFlow 112 = .ok (.dup, 1) := by decide +kernel
theorem dX9_addFlow_113 : decode cX9_addFlow 113 = .ok (.getfield 125, 3) := by decide +kernel
theorem dX9_addFlow_116 : decode cX9_addFlow 116 = .ok (.dup_x1, 1) := by decide +kernel
theorem dX9_addFlow_117 : decode cX9_addFlow 117 = .ok (.iconst 1, 1) := by decide +kernel
theorem dX9_addFlow_118 : decode cX9_addFlow 118 = .ok (.iadd, 1) := by decide +kernel
theorem dX9_addFlow_119 : decode cX9_addFlow 119 = .ok (.putfield 125, 3) := by decide +kernel
theorem dX9_addFlow_122 : decode cX9_addFlow 122 = .ok (.if_icmp .ne 7, 3) := by decide +kernel
theorem dX9_addFlow_125 : decode cX9_addFlow 125 = .ok (.iconst 1, 1) := by decide +kernel
theorem dX9_addFlow_126 : decode cX9_addFlow 126 = .ok (.goto 4, 3) := by decide +kernel
theorem dX9_addFlow_130 : decode cX9_addFlow 130 = .ok (.ireturn, 1) := by decide +kernel
set_option maxRecDepth 100000 in
set_option maxHeartbeats 4000000 in
/-- TurnpikeLaw.Roads.addFlow -/
theorem c_law_addFlow (l : Launch) (dC : Nat → ClassId) (dI : Nat → Nat → Nat) (cy : Nat → ClassId) (bs Ls : Nat) (xs : Nat → Int32) (gp : Nat) (ob : Nat) (qf : Nat → Nat) (d : Nat) (nd : Nat) (nl : Nat) (nf : Nat) (K : Lay) (s0 : Nat) (tp : Nat) (a : St) (κr : Nat → Nat → Int32) (τ : Tau) (lv : Tb) (pl : Nat → Nat) (fr9 : Nat → Nat) (fv : Tb) (kn : Nat) (sz : Nat) (hT : TL K (some s0) τ) (kB : Bld a nd nl lv pl nf fv) (knf : nf < 10) (kk : kn ≤ 1) (k3 : 3 ≤ nd) (kd : d < 900000) : Met l yX9_addFlow (tp_w yX9_addFlow cX9_addFlow 4 (some .boolean)) ({ frames := 2, cells := 1, slots := 6, locals := 52 }) (va_Pc [.ref gp, .int (nI kn)] (gPre dC dI cy bs Ls xs [(fun q e => TW cy K (some s0) a (((0 : Int32), κr)) τ q e ∨ oW ob (K 0 0) tp q e), cel gp (gO ob bs qf d nd nl nf), rwW cy 10 6 (qf 9) fr9 fv nf] sz)) (va_Qi (fun (r u : Int32) => r = u) (fun (u : Int32) (t : State) => ∃ (a2 : St), ∃ (fr2 : Nat → Nat), ∃ (fv2 : Tb), (u = 1) ∧ (Bld a2 nd nl lv pl (nf + 1) fv2) ∧ ms (dC, dI) vwCl (mA (anyP [(fun q e => TW cy K (some s0) a (((0 : Int32), κr)) τ q e ∨ oW ob (K 0 0) tp q e), cel gp (gO ob bs qf d nd nl nf), rwW cy 10 6 (qf 9) fr9 fv nf]) sz) [(fun q e => TW cy K (some s0) a2 (((0 : Int32), κr)) τ q e ∨ oW ob (K 0 0) tp q e), cel gp (gO ob bs qf (d + 5) nd nl (nf + 1)), rwW cy 10 6 (qf 9) fr2 fv2 (nf + 1)] t.heap) (mA (anyP [(fun q e => TW cy K (some s0) a (((0 : Int32), κr)) τ q e ∨ oW ob (K 0 0) tp q e), cel gp (gO ob bs qf d nd nl nf), rwW cy 10 6 (qf 9) fr9 fv nf]) sz)) (1) (6) (mA (anyP [(fun q e => TW cy K (some s0) a (((0 : Int32), κr)) τ q e ∨ oW ob (K 0 0) tp q e), cel gp (gO ob bs qf d nd nl nf), rwW cy 10 6 (qf 9) fr9 fv nf]) sz) := by
  refine Met.ofW (cc := cX9_addFlow) (maxL := 4) (ret := (some .boolean)) (by decide) rfl ?_
  intro p e s m args below meth c s₁ B hml hv
  obtain ⟨rfl, hsz, hP, hK, hE, hX, hbl, hbL, hbn⟩ := hv
  have hx := B.exec
  have hb := B.bytes
  have hr := B.returns
  have hts0 := atoms_spec (ws := tp_w yX9_addFlow cX9_addFlow 4 (some .boolean)) B.pre
  have hts : ∀ w ∈ tp_all, w.before _ s = true := fun w h => hts0 w (List.mem_cons_of_mem _ h)
  have hown : s.vm.findClass RX9 = some m.cls := findClass_of_methodNamed B.named
  have hlocks := B.notSynchronized
  subst hsz
  have hP := hP.self s.heap.size
  have hbA : ¬ mA (anyP [(fun q e => TW cy K (some s0) a (((0 : Int32), κr)) τ q e ∨ oW ob (K 0 0) tp q e), cel gp (gO ob bs qf d nd nl nf), rwW cy 10 6 (qf 9) fr9 fv nf]) s.heap.size bs := by
    rintro (⟨e9, he⟩ | h9)
    · exact hbn e9 he
    · omega
  generalize hAe : mA (anyP [(fun q e => TW cy K (some s0) a (((0 : Int32), κr)) τ q e ∨ oW ob (K 0 0) tp q e), cel gp (gO ob bs qf d nd nl nf), rwW cy 10 6 (qf 9) fr9 fv nf]) s.heap.size = A at hP hbA ⊢
  have hA : ∀ q : Nat, s.heap.size ≤ q → A q := fun q h => by rw [← hAe]; exact Or.inr h
  have hS : va_S A s.heap s.heap [] := va_S.rf
  have hl9 := lv_entry ([.ref gp, .int (nI kn)]) (n := 4) (Nat.le_of_ble_eq_true rfl)
  rw [lg_entry_eq]
  generalize (lg_sl ([.ref gp, .int (nI kn)]) ++ List.replicate (4 - (lg_sl ([.ref gp, .int (nI kn)])).length) Slot.unset).toArray = ls at hl9 ⊢
  have hl : lv_has ls 4 [(0, .ref gp), (1, .int (nI kn))] := hl9
  have h0 := kB.b0
  have h12 := h0.1.2.2.2.1
  refine lv_aload_n hx hb dX9_addFlow_0 rfl (lv_at hl 0 rfl) ?_
  refine lv_aload_n hx hb dX9_addFlow_1 rfl (lv_at hl 0 rfl) ?_
  refine va_get (D := (dC, dI)) (ws := [(gp, .inr (9, [.ref ob, .ref bs, .int (nI d), .int (nI nd), .int 0, .int 1, .int (nI nl), .ref (qf 0), .ref (qf 1), .ref (qf 2), .ref (qf 3), .ref (qf 4), .ref (qf 5), .ref (qf 6), .ref (qf 7), .ref (qf 8), .int (nI nf), .ref (qf 9), .int 0, .ref (qf 10), .ref (qf 11), .ref (qf 12), .ref (qf 13), .ref (qf 14), .ref (qf 15)]))]) (ci := 9) (v := .int (nI nd)) (C := RX9) (T := TX9) (N := 25) hx hb hts tl_X9 hown hK (hP.one 1 rfl cel_in) 0 rfl rfl 3 (by decide) (hts _ tw_938) (fun _ h9 => h9) rfl dX9_addFlow_2 ?_
  have hPc : ms (dC, dI) vwCl A ([cel gp (gO ob bs qf d nd nl nf)] ++ [(fun q e => TW cy K (some s0) a (((0 : Int32), κr)) τ q e ∨ oW ob (K 0 0) tp q e), rwW cy 10 6 (qf 9) fr9 fv nf]) s.heap := hP.sel [1, 0, 2] rfl (by decide)
  have hFc := g_free hPc hS hA
  refine va_calli (va_runV (As := [.int (nI nd)]) (rest := []) ⟨hx, hb, hml, hown, hts⟩ (c_draw l dC dI cy bs Ls xs gp ob qf d nd nl nf nd s.heap.size (by first | assumption | omega) (by first | assumption | omega) (by first | assumption | omega)) (tp_cwV 1 hts tw_1031 tw_1016 tw_1017 tw_19 tw_1018 rfl rfl (by decide +kernel) ⟨Nat.le_of_ble_eq_true rfl, Nat.le_of_ble_eq_true rfl⟩) ⟨g_blind, va_recv hK (hP.one (e := .inr (9, [.ref ob, .ref bs, .int (nI d), .int (nI nd), .int 0, .int 1, .int (nI nl), .ref (qf 0), .ref (qf 1), .ref (qf 2), .ref (qf 3), .ref (qf 4), .ref (qf 5), .ref (qf 6), .ref (qf 7), .ref (qf 8), .int (nI nf), .ref (qf 9), .int 0, .ref (qf 10), .ref (qf 11), .ref (qf 12), .ref (qf 13), .ref (qf 14), .ref (qf 15)])) 1 rfl cel_in) (ci := 9) (q0 := 0) rfl rfl, fun U hU hW => ⟨rfl, g_pay hK hPc hE hX hbl hbL hbA hS U hU hW⟩⟩ rfl rfl hl.1 rfl (lv_room (Nat.le_of_ble_eq_true rfl)) dX9_addFlow_5 ⟨(by show 0 + 0 ≤ 1; omega), (by show 0 + 0 ≤ 6; omega)⟩) hS (fun q _ h => hFc q h) hFc (fun r_1 u t H1 locs ht hvm hpo hB hz1 hk1 hS => ?_)
  obtain rfl := hpo
  obtain ⟨z_2, f_3, f_4, hP1⟩ := hB
  rw [ht] at hP1
  have hPj := hPc.calls hk1 hFc hP1
  have hP : ms (dC, dI) vwCl A [(fun q e => TW cy K (some s0) a (((0 : Int32), κr)) τ q e ∨ oW ob (K 0 0) tp q e), cel gp (gO ob bs qf (d + 1) nd nl nf), rwW cy 10 6 (qf 9) fr9 fv nf] H1 := hPj.sel [1, 0, 2] rfl (by decide)
  clear hPj hPc hP1 hk1 hFc
  generalize H1 = H at hP hS ⊢
  subst f_4
  have qF := f_3
  refine lv_istore_n (lv' := [(2, .int (nI z_2)), (0, .ref gp), (1, .int (nI kn))]) hx hb dX9_addFlow_8 rfl hl (by decide) rfl (fun ls hl => ?_)
  refine lv_bipush (v := 6) hx hb dX9_addFlow_9 (by decide) ?_
  obtain ⟨ws9, hPw, hDw, -, hbk⟩ := hP.push
  refine va_newa hx hb (atype := .int) (hts _ tw_623) (ty := .int) rfl hK hPw hDw hS hA (a0 := (6, .inl (fun _ => 0))) (N' := 6) (fun _ => rfl) (by decide) (by decide) (Nat.le_of_ble_eq_true rfl) (by show 0 + 0 + 1 ≤ 1; omega) (by show 0 + 0 + 6 ≤ 6; omega) dX9_addFlow_11 (fun a_5 k9 H hK9 hPw hDw hS => ?_)
  obtain rfl : k9 = cy 0 := tp_one hK9 11 0 rfl rfl
  have hP : ms (dC, dI) vwCl A [(fun q e => TW cy K (some s0) a (((0 : Int32), κr)) τ q e ∨ oW ob (K 0 0) tp q e), cel gp (gO ob bs qf (d + 1) nd nl nf), rwW cy 10 6 (qf 9) fr9 fv nf, cel a_5 (.inl (cy 0, 6, .inl (fun _ => 0)))] H := hbk _ _ _ hPw hDw
  clear hbk hPw hDw hK9
  refine lv_dup hx hb dX9_addFlow_13 rfl ?_
  refine lv_iconst (v := 0) hx hb dX9_addFlow_14 (by decide) ?_
  refine lv_iload_n hx hb dX9_addFlow_15 rfl (lv_at hl 0 rfl) ?_
  have j_6 : (0 : Int32).toNatClampNeg = 0 := m_cl (n := 6) rfl (by decide) (by decide)
  obtain ⟨ws9, k9, hPw, hDw, hk9, -, hbk⟩ := hP.cutc (e := .inl (cy 0, 6, .inl (fun _ => 0))) 3 rfl
  refine va_iast hx hb hK hPw hDw hS k9 0 hk9 rfl (m_in (n := 6) rfl (by decide) (by decide)) dX9_addFlow_16 (fun H locs hPw hDw hS => ?_)
  rw [j_6] at hPw hDw
  have hP : ms (dC, dI) vwCl A [(fun q e => TW cy K (some s0) a (((0 : Int32), κr)) τ q e ∨ oW ob (K 0 0) tp q e), cel gp (gO ob bs qf (d + 1) nd nl nf), rwW cy 10 6 (qf 9) fr9 fv nf, cel a_5 (.inl (cy 0, 6, .inl (upd (fun _ => 0) 0 (nI z_2))))] H := hbk _ _ hPw hDw
  clear hbk hPw hDw hk9
  refine lv_dup hx hb dX9_addFlow_17 rfl ?_
  refine lv_iconst (v := 1) hx hb dX9_addFlow_18 (by decide) ?_
  refine lv_iload_n hx hb dX9_addFlow_19 rfl (lv_at hl 0 rfl) ?_
  refine lv_iconst (v := 1) hx hb dX9_addFlow_20 (by decide) ?_
  refine lv_iadd hx hb dX9_addFlow_21 ?_
  refine W.eq (g2 := F0 m 22 ls [.int (nI (z_2 + 1)), .int 1, .ref a_5, .ref a_5]) (by rw [nI_1]) ?_
  refine lv_aload_n hx hb dX9_addFlow_22 rfl (lv_at hl 1 rfl) ?_
  refine lv_aload_n hx hb dX9_addFlow_23 rfl (lv_at hl 1 rfl) ?_
  refine va_get (D := (dC, dI)) (ws := [(gp, .inr (9, [.ref ob, .ref bs, .int (nI (d + 1)), .int (nI nd), .int 0, .int 1, .int (nI nl), .ref (qf 0), .ref (qf 1), .ref (qf 2), .ref (qf 3), .ref (qf 4), .ref (qf 5), .ref (qf 6), .ref (qf 7), .ref (qf 8), .int (nI nf), .ref (qf 9), .int 0, .ref (qf 10), .ref (qf 11), .ref (qf 12), .ref (qf 13), .ref (qf 14), .ref (qf 15)]))]) (ci := 9) (v := .int (nI nd)) (C := RX9) (T := TX9) (N := 25) hx hb hts tl_X9 hown hK (hP.one 1 rfl cel_in) 0 rfl rfl 3 (by decide) (hts _ tw_938) (fun _ h9 => h9) rfl dX9_addFlow_24 ?_
  refine lv_iconst (v := 1) hx hb dX9_addFlow_27 (by decide) ?_
  refine lv_isub hx hb dX9_addFlow_28 ?_
  refine W.eq (g2 := F0 m 29 ls [.int (nI (nd - 1)), .ref gp, .int (nI (z_2 + 1)), .int 1, .ref a_5, .ref a_5]) (by rw [show (1 : Int32) = nI 1 from rfl, pk_sub (by omega : 1 ≤ nd)]) ?_
  have hPc : ms (dC, dI) vwCl A ([cel gp (gO ob bs qf (d + 1) nd nl nf)] ++ [(fun q e => TW cy K (some s0) a (((0 : Int32), κr)) τ q e ∨ oW ob (K 0 0) tp q e), rwW cy 10 6 (qf 9) fr9 fv nf, cel a_5 (.inl (cy 0, 6, .inl (upd (fun _ => 0) 0 (nI z_2))))]) H := hP.sel [1, 0, 2, 3] rfl (by decide)
  have hFc := g_free hPc hS hA
  refine va_calli (va_runV (As := [.int (nI (nd - 1))]) (rest := [.int (nI (z_2 + 1)), .int 1, .ref a_5, .ref a_5]) ⟨hx, hb, hml, hown, hts⟩ (c_draw l dC dI cy bs Ls xs gp ob qf (d + 1) nd nl nf (nd - 1) H.size (by first | assumption | omega) (by first | assumption | omega) (by first | assumption | omega)) (tp_cwV 1 hts tw_1031 tw_1016 tw_1017 tw_19 tw_1018 rfl rfl (by decide +kernel) ⟨Nat.le_of_ble_eq_true rfl, Nat.le_of_ble_eq_true rfl⟩) ⟨g_blind, va_recv hK (hP.one (e := .inr (9, [.ref ob, .ref bs, .int (nI (d + 1)), .int (nI nd), .int 0, .int 1, .int (nI nl), .ref (qf 0), .ref (qf 1), .ref (qf 2), .ref (qf 3), .ref (qf 4), .ref (qf 5), .ref (qf 6), .ref (qf 7), .ref (qf 8), .int (nI nf), .ref (qf 9), .int 0, .ref (qf 10), .ref (qf 11), .ref (qf 12), .ref (qf 13), .ref (qf 14), .ref (qf 15)])) 1 rfl cel_in) (ci := 9) (q0 := 0) rfl rfl, fun U hU hW => ⟨rfl, g_pay hK hPc hE hX hbl hbL hbA hS U hU hW⟩⟩ rfl rfl hl.1 rfl (lv_room (Nat.le_of_ble_eq_true rfl)) dX9_addFlow_29 ⟨(by show 0 + 0 + 1 + 0 ≤ 1; omega), (by show 0 + 0 + 6 + 0 ≤ 6; omega)⟩) hS (fun q _ h => hFc q h) hFc (fun r_7 u t H1 locs ht hvm hpo hB hz1 hk1 hS => ?_)
  obtain rfl := hpo
  obtain ⟨z_8, f_9, f_10, hP1⟩ := hB
  rw [ht] at hP1
  have hPj := hPc.calls hk1 hFc hP1
  have hP : ms (dC, dI) vwCl A [(fun q e => TW cy K (some s0) a (((0 : Int32), κr)) τ q e ∨ oW ob (K 0 0) tp q e), cel gp (gO ob bs qf (d + 1 + 1) nd nl nf), rwW cy 10 6 (qf 9) fr9 fv nf, cel a_5 (.inl (cy 0, 6, .inl (upd (fun _ => 0) 0 (nI z_2))))] H1 := hPj.sel [1, 0, 2, 3] rfl (by decide)
  clear hPj hPc hP1 hk1 hFc
  generalize H1 = H at hP hS ⊢
  subst f_10
  have qG := f_9
  refine lv_iadd hx hb dX9_addFlow_32 ?_
  refine W.eq (g2 := F0 m 33 ls [.int (nI (z_2 + 1 + z_8)), .int 1, .ref a_5, .ref a_5]) (by rw [nI_add]) ?_
  refine lv_aload_n hx hb dX9_addFlow_33 rfl (lv_at hl 1 rfl) ?_
  refine va_get (D := (dC, dI)) (ws := [(gp, .inr (9, [.ref ob, .ref bs, .int (nI (d + 1 + 1)), .int (nI nd), .int 0, .int 1, .int (nI nl), .ref (qf 0), .ref (qf 1), .ref (qf 2), .ref (qf 3), .ref (qf 4), .ref (qf 5), .ref (qf 6), .ref (qf 7), .ref (qf 8), .int (nI nf), .ref (qf 9), .int 0, .ref (qf 10), .ref (qf 11), .ref (qf 12), .ref (qf 13), .ref (qf 14), .ref (qf 15)]))]) (ci := 9) (v := .int (nI nd)) (C := RX9) (T := TX9) (N := 25) hx hb hts tl_X9 hown hK (hP.one 1 rfl cel_in) 0 rfl rfl 3 (by decide) (hts _ tw_938) (fun _ h9 => h9) rfl dX9_addFlow_34 ?_
  refine lv_irem hx hb dX9_addFlow_37 (nI_ne0 (by omega) (by omega)) ?_
  refine W.eq (g2 := F0 m 38 ls [.int (nI ((z_2 + 1 + z_8) % nd)), .int 1, .ref a_5, .ref a_5]) (by rw [pk_rem (by omega) (by omega) (by omega)]) ?_
  have j_11 : (1 : Int32).toNatClampNeg = 1 := m_cl (n := 6) rfl (by decide) (by decide)
  obtain ⟨ws9, k9, hPw, hDw, hk9, -, hbk⟩ := hP.cutc (e := .inl (cy 0, 6, .inl (upd (fun _ => 0) 0 (nI z_2)))) 3 rfl
  refine va_iast hx hb hK hPw hDw hS k9 0 hk9 rfl (m_in (n := 6) rfl (by decide) (by decide)) dX9_addFlow_38 (fun H locs hPw hDw hS => ?_)
  rw [j_11] at hPw hDw
  have hP : ms (dC, dI) vwCl A [(fun q e => TW cy K (some s0) a (((0 : Int32), κr)) τ q e ∨ oW ob (K 0 0) tp q e), cel gp (gO ob bs qf (d + 1 + 1) nd nl nf), rwW cy 10 6 (qf 9) fr9 fv nf, cel a_5 (.inl (cy 0, 6, .inl (upd (upd (fun _ => 0) 0 (nI z_2)) 1 (nI ((z_2 + 1 + z_8) % nd)))))] H := hbk _ _ hPw hDw
  clear hbk hPw hDw hk9
  refine lv_dup hx hb dX9_addFlow_39 rfl ?_
  refine lv_iconst (v := 2) hx hb dX9_addFlow_40 (by decide) ?_
  refine lv_iload_n hx hb dX9_addFlow_41 rfl (lv_at hl 2 rfl) ?_
  have j_12 : (2 : Int32).toNatClampNeg = 2 := m_cl (n := 6) rfl (by decide) (by decide)
  obtain ⟨ws9, k9, hPw, hDw, hk9, -, hbk⟩ := hP.cutc (e := .inl (cy 0, 6, .inl (upd (upd (fun _ => 0) 0 (nI z_2)) 1 (nI ((z_2 + 1 + z_8) % nd))))) 3 rfl
  refine va_iast hx hb hK hPw hDw hS k9 0 hk9 rfl (m_in (n := 6) rfl (by decide) (by decide)) dX9_addFlow_42 (fun H locs hPw hDw hS => ?_)
  rw [j_12] at hPw hDw
  have hP : ms (dC, dI) vwCl A [(fun q e => TW cy K (some s0) a (((0 : Int32), κr)) τ q e ∨ oW ob (K 0 0) tp q e), cel gp (gO ob bs qf (d + 1 + 1) nd nl nf), rwW cy 10 6 (qf 9) fr9 fv nf, cel a_5 (.inl (cy 0, 6, .inl (upd (upd (upd (fun _ => 0) 0 (nI z_2)) 1 (nI ((z_2 + 1 + z_8) % nd))) 2 (nI kn))))] H := hbk _ _ hPw hDw
  clear hbk hPw hDw hk9
  refine lv_dup hx hb dX9_addFlow_43 rfl ?_
  refine lv_iconst (v := 3) hx hb dX9_addFlow_44 (by decide) ?_
  refine lv_aload_n hx hb dX9_addFlow_45 rfl (lv_at hl 1 rfl) ?_
  refine va_get (D := (dC, dI)) (ws := [(gp, .inr (9, [.ref ob, .ref bs, .int (nI (d + 1 + 1)), .int (nI nd), .int 0, .int 1, .int (nI nl), .ref (qf 0), .ref (qf 1), .ref (qf 2), .ref (qf 3), .ref (qf 4), .ref (qf 5), .ref (qf 6), .ref (qf 7), .ref (qf 8), .int (nI nf), .ref (qf 9), .int 0, .ref (qf 10), .ref (qf 11), .ref (qf 12), .ref (qf 13), .ref (qf 14), .ref (qf 15)]))]) (ci := 9) (v := .int 0) (C := RX9) (T := TX9) (N := 25) hx hb hts tl_X9 hown hK (hP.one 1 rfl cel_in) 0 rfl rfl 4 (by decide) (hts _ tw_939) (fun _ h9 => h9) rfl dX9_addFlow_46 ?_
  refine lv_aload_n hx hb dX9_addFlow_49 rfl (lv_at hl 1 rfl) ?_
  refine lv_iconst (v := 5) hx hb dX9_addFlow_50 (by decide) ?_
  have hPc : ms (dC, dI) vwCl A ([cel gp (gO ob bs qf (d + 1 + 1) nd nl nf)] ++ [(fun q e => TW cy K (some s0) a (((0 : Int32), κr)) τ q e ∨ oW ob (K 0 0) tp q e), rwW cy 10 6 (qf 9) fr9 fv nf, cel a_5 (.inl (cy 0, 6, .inl (upd (upd (upd (fun _ => 0) 0 (nI z_2)) 1 (nI ((z_2 + 1 + z_8) % nd))) 2 (nI kn))))]) H := hP.sel [1, 0, 2, 3] rfl (by decide)
  have hFc := g_free hPc hS hA
  refine va_calli (va_runV (As := [.int 5]) (rest := [.int 0, .int 3, .ref a_5, .ref a_5]) ⟨hx, hb, hml, hown, hts⟩ (c_draw l dC dI cy bs Ls xs gp ob qf (d + 1 + 1) nd nl nf 5 H.size (by first | assumption | omega) (by first | assumption | omega) (by first | assumption | omega)) (tp_cwV 1 hts tw_1031 tw_1016 tw_1017 tw_19 tw_1018 rfl rfl (by decide +kernel) ⟨Nat.le_of_ble_eq_true rfl, Nat.le_of_ble_eq_true rfl⟩) ⟨g_blind, va_recv hK (hP.one (e := .inr (9, [.ref ob, .ref bs, .int (nI (d + 1 + 1)), .int (nI nd), .int 0, .int 1, .int (nI nl), .ref (qf 0), .ref (qf 1), .ref (qf 2), .ref (qf 3), .ref (qf 4), .ref (qf 5), .ref (qf 6), .ref (qf 7), .ref (qf 8), .int (nI nf), .ref (qf 9), .int 0, .ref (qf 10), .ref (qf 11), .ref (qf 12), .ref (qf 13), .ref (qf 14), .ref (qf 15)])) 1 rfl cel_in) (ci := 9) (q0 := 0) rfl rfl, fun U hU hW => ⟨rfl, g_pay hK hPc hE hX hbl hbL hbA hS U hU hW⟩⟩ rfl rfl hl.1 rfl (lv_room (Nat.le_of_ble_eq_true rfl)) dX9_addFlow_51 ⟨(by show 0 + 0 + 1 + 0 + 0 ≤ 1; omega), (by show 0 + 0 + 6 + 0 + 0 ≤ 6; omega)⟩) hS (fun q _ h => hFc q h) hFc (fun r_13 u t H1 locs ht hvm hpo hB hz1 hk1 hS => ?_)
  obtain rfl := hpo
  obtain ⟨z_14, f_15, f_16, hP1⟩ := hB
  rw [ht] at hP1
  have hPj := hPc.calls hk1 hFc hP1
  have hP : ms (dC, dI) vwCl A [(fun q e => TW cy K (some s0) a (((0 : Int32), κr)) τ q e ∨ oW ob (K 0 0) tp q e), cel gp (gO ob bs qf (d + 1 + 1 + 1) nd nl nf), rwW cy 10 6 (qf 9) fr9 fv nf, cel a_5 (.inl (cy 0, 6, .inl (upd (upd (upd (fun _ => 0) 0 (nI z_2)) 1 (nI ((z_2 + 1 + z_8) % nd))) 2 (nI kn))))] H1 := hPj.sel [1, 0, 2, 3] rfl (by decide)
  clear hPj hPc hP1 hk1 hFc
  generalize H1 = H at hP hS ⊢
  subst f_16
  have qS := f_15
  refine lv_iadd hx hb dX9_addFlow_54 ?_
  refine W.eq (g2 := F0 m 55 ls [.int (nI z_14), .int 3, .ref a_5, .ref a_5]) (by rw [show (0 : Int32) = nI 0 from rfl, nI_add, Nat.zero_add]) ?_
  have j_17 : (3 : Int32).toNatClampNeg = 3 := m_cl (n := 6) rfl (by decide) (by decide)
  obtain ⟨ws9, k9, hPw, hDw, hk9, -, hbk⟩ := hP.cutc (e := .inl (cy 0, 6, .inl (upd (upd (upd (fun _ => 0) 0 (nI z_2)) 1 (nI ((z_2 + 1 + z_8) % nd))) 2 (nI kn)))) 3 rfl
  refine va_iast hx hb hK hPw hDw hS k9 0 hk9 rfl (m_in (n := 6) rfl (by decide) (by decide)) dX9_addFlow_55 (fun H locs hPw hDw hS => ?_)
  rw [j_17] at hPw hDw
  have hP : ms (dC, dI) vwCl A [(fun q e => TW cy K (some s0) a (((0 : Int32), κr)) τ q e ∨ oW ob (K 0 0) tp q e), cel gp (gO ob bs qf (d + 1 + 1 + 1) nd nl nf), rwW cy 10 6 (qf 9) fr9 fv nf, cel a_5 (.inl (cy 0, 6, .inl (upd (upd (upd (upd (fun _ => 0) 0 (nI z_2)) 1 (nI ((z_2 + 1 + z_8) % nd))) 2 (nI kn)) 3 (nI z_14))))] H := hbk _ _ hPw hDw
  clear hbk hPw hDw hk9
  refine lv_dup hx hb dX9_addFlow_56 rfl ?_
  refine lv_iconst (v := 4) hx hb dX9_addFlow_57 (by decide) ?_
  refine lv_iconst (v := 1) hx hb dX9_addFlow_58 (by decide) ?_
  refine lv_aload_n hx hb dX9_addFlow_59 rfl (lv_at hl 1 rfl) ?_
  refine lv_iconst (v := 4) hx hb dX9_addFlow_60 (by decide) ?_
  have hPc : ms (dC, dI) vwCl A ([cel gp (gO ob bs qf (d + 1 + 1 + 1) nd nl nf)] ++ [(fun q e => TW cy K (some s0) a (((0 : Int32), κr)) τ q e ∨ oW ob (K 0 0) tp q e), rwW cy 10 6 (qf 9) fr9 fv nf, cel a_5 (.inl (cy 0, 6, .inl (upd (upd (upd (upd (fun _ => 0) 0 (nI z_2)) 1 (nI ((z_2 + 1 + z_8) % nd))) 2 (nI kn)) 3 (nI z_14))))]) H := hP.sel [1, 0, 2, 3] rfl (by decide)
  have hFc := g_free hPc hS hA
  refine va_calli (va_runV (As := [.int 4]) (rest := [.int 1, .int 4, .ref a_5, .ref a_5]) ⟨hx, hb, hml, hown, hts⟩ (c_draw l dC dI cy bs Ls xs gp ob qf (d + 1 + 1 + 1) nd nl nf 4 H.size (by first | assumption | omega) (by first | assumption | omega) (by first | assumption | omega)) (tp_cwV 1 hts tw_1031 tw_1016 tw_1017 tw_19 tw_1018 rfl rfl (by decide +kernel) ⟨Nat.le_of_ble_eq_true rfl, Nat.le_of_ble_eq_true rfl⟩) ⟨g_blind, va_recv hK (hP.one (e := .inr (9, [.ref ob, .ref bs, .int (nI (d + 1 + 1 + 1)), .int (nI nd), .int 0, .int 1, .int (nI nl), .ref (qf 0), .ref (qf 1), .ref (qf 2), .ref (qf 3), .ref (qf 4), .ref (qf 5), .ref (qf 6), .ref (qf 7), .ref (qf 8), .int (nI nf), .ref (qf 9), .int 0, .ref (qf 10), .ref (qf 11), .ref (qf 12), .ref (qf 13), .ref (qf 14), .ref (qf 15)])) 1 rfl cel_in) (ci := 9) (q0 := 0) rfl rfl, fun U hU hW => ⟨rfl, g_pay hK hPc hE hX hbl hbL hbA hS U hU hW⟩⟩ rfl rfl hl.1 rfl (lv_room (Nat.le_of_ble_eq_true rfl)) dX9_addFlow_61 ⟨(by show 0 + 0 + 1 + 0 + 0 + 0 ≤ 1; omega), (by show 0 + 0 + 6 + 0 + 0 + 0 ≤ 6; omega)⟩) hS (fun q _ h => hFc q h) hFc (fun r_18 u t H1 locs ht hvm hpo hB hz1 hk1 hS => ?_)
  obtain rfl := hpo
  obtain ⟨z_19, f_20, f_21, hP1⟩ := hB
  rw [ht] at hP1
  have hPj := hPc.calls hk1 hFc hP1
  have hP : ms (dC, dI) vwCl A [(fun q e => TW cy K (some s0) a (((0 : Int32), κr)) τ q e ∨ oW ob (K 0 0) tp q e), cel gp (gO ob bs qf (d + 1 + 1 + 1 + 1) nd nl nf), rwW cy 10 6 (qf 9) fr9 fv nf, cel a_5 (.inl (cy 0, 6, .inl (upd (upd (upd (upd (fun _ => 0) 0 (nI z_2)) 1 (nI ((z_2 + 1 + z_8) % nd))) 2 (nI kn)) 3 (nI z_14))))] H1 := hPj.sel [1, 0, 2, 3] rfl (by decide)
  clear hPj hPc hP1 hk1 hFc
  generalize H1 = H at hP hS ⊢
  subst f_21
  have qP := f_20
  refine lv_iadd hx hb dX9_addFlow_64 ?_
  refine W.eq (g2 := F0 m 65 ls [.int (nI (1 + z_19)), .int 4, .ref a_5, .ref a_5]) (by rw [show (1 : Int32) = nI 1 from rfl, nI_add]) ?_
  have j_22 : (4 : Int32).toNatClampNeg = 4 := m_cl (n := 6) rfl (by decide) (by decide)
  obtain ⟨ws9, k9, hPw, hDw, hk9, -, hbk⟩ := hP.cutc (e := .inl (cy 0, 6, .inl (upd (upd (upd (upd (fun _ => 0) 0 (nI z_2)) 1 (nI ((z_2 + 1 + z_8) % nd))) 2 (nI kn)) 3 (nI z_14)))) 3 rfl
  refine va_iast hx hb hK hPw hDw hS k9 0 hk9 rfl (m_in (n := 6) rfl (by decide) (by decide)) dX9_addFlow_65 (fun H locs hPw hDw hS => ?_)
  rw [j_22] at hPw hDw
  have hP : ms (dC, dI) vwCl A [(fun q e => TW cy K (some s0) a (((0 : Int32), κr)) τ q e ∨ oW ob (K 0 0) tp q e), cel gp (gO ob bs qf (d + 1 + 1 + 1 + 1) nd nl nf), rwW cy 10 6 (qf 9) fr9 fv nf, cel a_5 (.inl (cy 0, 6, .inl (upd (upd (upd (upd (upd (fun _ => 0) 0 (nI z_2)) 1 (nI ((z_2 + 1 + z_8) % nd))) 2 (nI kn)) 3 (nI z_14)) 4 (nI (1 + z_19)))))] H := hbk _ _ hPw hDw
  clear hbk hPw hDw hk9
  refine lv_dup hx hb dX9_addFlow_66 rfl ?_
  refine lv_iconst (v := 5) hx hb dX9_addFlow_67 (by decide) ?_
  refine lv_iconst (v := 1) hx hb dX9_addFlow_68 (by decide) ?_
  refine lv_aload_n hx hb dX9_addFlow_69 rfl (lv_at hl 1 rfl) ?_
  refine lv_bipush (v := 6) hx hb dX9_addFlow_70 (by decide) ?_
  have hPc : ms (dC, dI) vwCl A ([cel gp (gO ob bs qf (d + 1 + 1 + 1 + 1) nd nl nf)] ++ [(fun q e => TW cy K (some s0) a (((0 : Int32), κr)) τ q e ∨ oW ob (K 0 0) tp q e), rwW cy 10 6 (qf 9) fr9 fv nf, cel a_5 (.inl (cy 0, 6, .inl (upd (upd (upd (upd (upd (fun _ => 0) 0 (nI z_2)) 1 (nI ((z_2 + 1 + z_8) % nd))) 2 (nI kn)) 3 (nI z_14)) 4 (nI (1 + z_19)))))]) H := hP.sel [1, 0, 2, 3] rfl (by decide)
  have hFc := g_free hPc hS hA
  refine va_calli (va_runV (As := [.int 6]) (rest := [.int 1, .int 5, .ref a_5, .ref a_5]) ⟨hx, hb, hml, hown, hts⟩ (c_draw l dC dI cy bs Ls xs gp ob qf (d + 1 + 1 + 1 + 1) nd nl nf 6 H.size (by first | assumption | omega) (by first | assumption | omega) (by first | assumption | omega)) (tp_cwV 1 hts tw_1031 tw_1016 tw_1017 tw_19 tw_1018 rfl rfl (by decide +kernel) ⟨Nat.le_of_ble_eq_true rfl, Nat.le_of_ble_eq_true rfl⟩) ⟨g_blind, va_recv hK (hP.one (e := .inr (9, [.ref ob, .ref bs, .int (nI (d + 1 + 1 + 1 + 1)), .int (nI nd), .int 0, .int 1, .int (nI nl), .ref (qf 0), .ref (qf 1), .ref (qf 2), .ref (qf 3), .ref (qf 4), .ref (qf 5), .ref (qf 6), .ref (qf 7), .ref (qf 8), .int (nI nf), .ref (qf 9), .int 0, .ref (qf 10), .ref (qf 11), .ref (qf 12), .ref (qf 13), .ref (qf 14), .ref (qf 15)])) 1 rfl cel_in) (ci := 9) (q0 := 0) rfl rfl, fun U hU hW => ⟨rfl, g_pay hK hPc hE hX hbl hbL hbA hS U hU hW⟩⟩ rfl rfl hl.1 rfl (lv_room (Nat.le_of_ble_eq_true rfl)) dX9_addFlow_72 ⟨(by show 0 + 0 + 1 + 0 + 0 + 0 + 0 ≤ 1; omega), (by show 0 + 0 + 6 + 0 + 0 + 0 + 0 ≤ 6; omega)⟩) hS (fun q _ h => hFc q h) hFc (fun r_23 u t H1 locs ht hvm hpo hB hz1 hk1 hS => ?_)
  obtain rfl := hpo
  obtain ⟨z_24, f_25, f_26, hP1⟩ := hB
  rw [ht] at hP1
  have hPj := hPc.calls hk1 hFc hP1
  have hP : ms (dC, dI) vwCl A [(fun q e => TW cy K (some s0) a (((0 : Int32), κr)) τ q e ∨ oW ob (K 0 0) tp q e), cel gp (gO ob bs qf (d + 1 + 1 + 1 + 1 + 1) nd nl nf), rwW cy 10 6 (qf 9) fr9 fv nf, cel a_5 (.inl (cy 0, 6, .inl (upd (upd (upd (upd (upd (fun _ => 0) 0 (nI z_2)) 1 (nI ((z_2 + 1 + z_8) % nd))) 2 (nI kn)) 3 (nI z_14)) 4 (nI (1 + z_19)))))] H1 := hPj.sel [1, 0, 2, 3] rfl (by decide)
  clear hPj hPc hP1 hk1 hFc
  generalize H1 = H at hP hS ⊢
  subst f_26
  have qM := f_25
  refine lv_iadd hx hb dX9_addFlow_75 ?_
  refine W.eq (g2 := F0 m 76 ls [.int (nI (1 + z_24)), .int 5, .ref a_5, .ref a_5]) (by rw [show (1 : Int32) = nI 1 from rfl, nI_add]) ?_
  have j_27 : (5 : Int32).toNatClampNeg = 5 := m_cl (n := 6) rfl (by decide) (by decide)
  obtain ⟨ws9, k9, hPw, hDw, hk9, -, hbk⟩ := hP.cutc (e := .inl (cy 0, 6, .inl (upd (upd (upd (upd (upd (fun _ => 0) 0 (nI z_2)) 1 (nI ((z_2 + 1 + z_8) % nd))) 2 (nI kn)) 3 (nI z_14)) 4 (nI (1 + z_19))))) 3 rfl
  refine va_iast hx hb hK hPw hDw hS k9 0 hk9 rfl (m_in (n := 6) rfl (by decide) (by decide)) dX9_addFlow_76 (fun H locs hPw hDw hS => ?_)
  rw [j_27] at hPw hDw
  have hP : ms (dC, dI) vwCl A [(fun q e => TW cy K (some s0) a (((0 : Int32), κr)) τ q e ∨ oW ob (K 0 0) tp q e), cel gp (gO ob bs qf (d + 1 + 1 + 1 + 1 + 1) nd nl nf), rwW cy 10 6 (qf 9) fr9 fv nf, cel a_5 (.inl (cy 0, 6, .inl (upd (upd (upd (upd (upd (upd (fun _ => 0) 0 (nI z_2)) 1 (nI ((z_2 + 1 + z_8) % nd))) 2 (nI kn)) 3 (nI z_14)) 4 (nI (1 + z_19))) 5 (nI (1 + z_24)))))] H := hbk _ _ hPw hDw
  clear hbk hPw hDw hk9
  refine lv_astore_n (lv' := [(3, .ref a_5), (2, .int (nI z_2)), (0, .ref gp), (1, .int (nI kn))]) hx hb dX9_addFlow_77 rfl hl (by decide) rfl (fun ls hl => ?_)
  refine lv_aload_n hx hb dX9_addFlow_78 rfl (lv_at hl 2 rfl) ?_
  refine va_get (D := (dC, dI)) (ws := [(gp, .inr (9, [.ref ob, .ref bs, .int (nI (d + 1 + 1 + 1 + 1 + 1)), .int (nI nd), .int 0, .int 1, .int (nI nl), .ref (qf 0), .ref (qf 1), .ref (qf 2), .ref (qf 3), .ref (qf 4), .ref (qf 5), .ref (qf 6), .ref (qf 7), .ref (qf 8), .int (nI nf), .ref (qf 9), .int 0, .ref (qf 10), .ref (qf 11), .ref (qf 12), .ref (qf 13), .ref (qf 14), .ref (qf 15)]))]) (ci := 9) (v := .ref (qf 9)) (C := RX9) (T := TX9) (N := 25) hx hb hts tl_X9 hown hK (hP.one 1 rfl cel_in) 0 rfl rfl 17 (by decide) (hts _ tw_955) (fun _ h9 => h9) rfl dX9_addFlow_79 ?_
  refine lv_aload_n hx hb dX9_addFlow_82 rfl (lv_at hl 2 rfl) ?_
  refine va_get (D := (dC, dI)) (ws := [(gp, .inr (9, [.ref ob, .ref bs, .int (nI (d + 1 + 1 + 1 + 1 + 1)), .int (nI nd), .int 0, .int 1, .int (nI nl), .ref (qf 0), .ref (qf 1), .ref (qf 2), .ref (qf 3), .ref (qf 4), .ref (qf 5), .ref (qf 6), .ref (qf 7), .ref (qf 8), .int (nI nf), .ref (qf 9), .int 0, .ref (qf 10), .ref (qf 11), .ref (qf 12), .ref (qf 13), .ref (qf 14), .ref (qf 15)]))]) (ci := 9) (v := .int (nI nf)) (C := RX9) (T := TX9) (N := 25) hx hb hts tl_X9 hown hK (hP.one 1 rfl cel_in) 0 rfl rfl 16 (by decide) (hts _ tw_954) (fun _ h9 => h9) rfl dX9_addFlow_83 ?_
  refine lv_aload_n hx hb dX9_addFlow_86 rfl (lv_at hl 0 rfl) ?_
  have hneA := rw_ne (i := 2) hP rfl
  have hne := rw_ne (i := 2) hP rfl
  have j_28 : (nI nf : Int32).toNatClampNeg = nf := m_cl (n := 10) rfl (by omega) (by decide)
  obtain ⟨ws9, k9, hPw, hDw, hk9, hin9, hbk⟩ := hP.cut (e := arQ (cy 8) 10 (fun j => if j < nf then some (fr9 j) else none)) 2 rfl (Or.inl ⟨rfl, rfl⟩)
  obtain ⟨k8, hk8⟩ := hin9 _ _ (any_in (i := 3) rfl (cel_in (a := a_5) (e := .inl (cy 0, 6, .inl (upd (upd (upd (upd (upd (upd (fun _ => 0) 0 (nI z_2)) 1 (nI ((z_2 + 1 + z_8) % nd))) 2 (nI kn)) 3 (nI z_14)) 4 (nI (1 + z_19))) 5 (nI (1 + z_24)))))))
  refine m_astA hx hb hK hPw hDw hS k9 8 k8 0 hk9 rfl hk8 rfl (hE.2.2.2 _ (List.mem_of_getElem? (i := 0) rfl)) rfl (fun h => h) (m_in (n := 10) rfl (by omega) (by decide)) dX9_addFlow_87 (fun H locs hPw hDw hS => ?_)
  rw [j_28] at hPw hDw
  have hP : ms (dC, dI) vwCl A [(fun q e => TW cy K (some s0) a (((0 : Int32), κr)) τ q e ∨ oW ob (K 0 0) tp q e), cel gp (gO ob bs qf (d + 1 + 1 + 1 + 1 + 1) nd nl nf), (mset (rwW cy 10 6 (qf 9) fr9 fv nf) (qf 9) (arQ (cy 8) 10 (va_up (fun j => if j < nf then some (fr9 j) else none) nf (some a_5)))), cel a_5 (.inl (cy 0, 6, .inl (upd (upd (upd (upd (upd (upd (fun _ => 0) 0 (nI z_2)) 1 (nI ((z_2 + 1 + z_8) % nd))) 2 (nI kn)) 3 (nI z_14)) 4 (nI (1 + z_19))) 5 (nI (1 + z_24)))))] H := hbk _ _ hPw hDw
  clear hbk hPw hDw hk9 hin9 hk8
  refine lv_aload_n hx hb dX9_addFlow_88 rfl (lv_at hl 2 rfl) ?_
  refine va_get (D := (dC, dI)) (ws := [(gp, .inr (9, [.ref ob, .ref bs, .int (nI (d + 1 + 1 + 1 + 1 + 1)), .int (nI nd), .int 0, .int 1, .int (nI nl), .ref (qf 0), .ref (qf 1), .ref (qf 2), .ref (qf 3), .ref (qf 4), .ref (qf 5), .ref (qf 6), .ref (qf 7), .ref (qf 8), .int (nI nf), .ref (qf 9), .int 0, .ref (qf 10), .ref (qf 11), .ref (qf 12), .ref (qf 13), .ref (qf 14), .ref (qf 15)]))]) (ci := 9) (v := .ref ob) (C := RX9) (T := TX9) (N := 25) hx hb hts tl_X9 hown hK (hP.one 1 rfl cel_in) 0 rfl rfl 0 (by decide) (hts _ tw_933) (fun _ h9 => h9) rfl dX9_addFlow_89 ?_
  refine lv_aload_n hx hb dX9_addFlow_92 rfl (lv_at hl 0 rfl) ?_
  refine lv_iconst (v := 0) hx hb dX9_addFlow_93 (by decide) ?_
  have j_29 : (0 : Int32).toNatClampNeg = 0 := m_cl (n := 6) rfl (by decide) (by decide)
  refine va_iald hx hb hK (ws := [(a_5, .inl (cy 0, 6, .inl (upd (upd (upd (upd (upd (upd (fun _ => 0) 0 (nI z_2)) 1 (nI ((z_2 + 1 + z_8) % nd))) 2 (nI kn)) 3 (nI z_14)) 4 (nI (1 + z_19))) 5 (nI (1 + z_24)))))]) (hP.one 3 rfl cel_in) 0 0 rfl rfl (m_in (n := 6) rfl (by decide) (by decide)) dX9_addFlow_94 ?_
  refine W.eq (g2 := F0 m 95 ls [.int ((upd (upd (upd (upd (upd (upd (fun _ => 0) 0 (nI z_2)) 1 (nI ((z_2 + 1 + z_8) % nd))) 2 (nI kn)) 3 (nI z_14)) 4 (nI (1 + z_19))) 5 (nI (1 + z_24))) 0), .ref ob]) (by rw [j_29]) ?_
  refine W.eq (g2 := F0 m 95 ls [.int (nI z_2), .ref ob]) rfl ?_
  refine lv_aload_n hx hb dX9_addFlow_95 rfl (lv_at hl 0 rfl) ?_
  refine lv_iconst (v := 1) hx hb dX9_addFlow_96 (by decide) ?_
  have j_30 : (1 : Int32).toNatClampNeg = 1 := m_cl (n := 6) rfl (by decide) (by decide)
  refine va_iald hx hb hK (ws := [(a_5, .inl (cy 0, 6, .inl (upd (upd (upd (upd (upd (upd (fun _ => 0) 0 (nI z_2)) 1 (nI ((z_2 + 1 + z_8) % nd))) 2 (nI kn)) 3 (nI z_14)) 4 (nI (1 + z_19))) 5 (nI (1 + z_24)))))]) (hP.one 3 rfl cel_in) 0 0 rfl rfl (m_in (n := 6) rfl (by decide) (by decide)) dX9_addFlow_97 ?_
  refine W.eq (g2 := F0 m 98 ls [.int ((upd (upd (upd (upd (upd (upd (fun _ => 0) 0 (nI z_2)) 1 (nI ((z_2 + 1 + z_8) % nd))) 2 (nI kn)) 3 (nI z_14)) 4 (nI (1 + z_19))) 5 (nI (1 + z_24))) 1), .int (nI z_2), .ref ob]) (by rw [j_30]) ?_
  refine W.eq (g2 := F0 m 98 ls [.int (nI ((z_2 + 1 + z_8) % nd)), .int (nI z_2), .ref ob]) rfl ?_
  refine lv_iload_n hx hb dX9_addFlow_98 rfl (lv_at hl 3 rfl) ?_
  refine lv_aload_n hx hb dX9_addFlow_99 rfl (lv_at hl 0 rfl) ?_
  refine lv_iconst (v := 3) hx hb dX9_addFlow_100 (by decide) ?_
  have j_31 : (3 : Int32).toNatClampNeg = 3 := m_cl (n := 6) rfl (by decide) (by decide)
  refine va_iald hx hb hK (ws := [(a_5, .inl (cy 0, 6, .inl (upd (upd (upd (upd (upd (upd (fun _ => 0) 0 (nI z_2)) 1 (nI ((z_2 + 1 + z_8) % nd))) 2 (nI kn)) 3 (nI z_14)) 4 (nI (1 + z_19))) 5 (nI (1 + z_24)))))]) (hP.one 3 rfl cel_in) 0 0 rfl rfl (m_in (n := 6) rfl (by decide) (by decide)) dX9_addFlow_101 ?_
  refine W.eq (g2 := F0 m 102 ls [.int ((upd (upd (upd (upd (upd (upd (fun _ => 0) 0 (nI z_2)) 1 (nI ((z_2 + 1 + z_8) % nd))) 2 (nI kn)) 3 (nI z_14)) 4 (nI (1 + z_19))) 5 (nI (1 + z_24))) 3), .int (nI kn), .int (nI ((z_2 + 1 + z_8) % nd)), .int (nI z_2), .ref ob]) (by rw [j_31]) ?_
  refine W.eq (g2 := F0 m 102 ls [.int (nI z_14), .int (nI kn), .int (nI ((z_2 + 1 + z_8) % nd)), .int (nI z_2), .ref ob]) rfl ?_
  refine lv_aload_n hx hb dX9_addFlow_102 rfl (lv_at hl 0 rfl) ?_
  refine lv_iconst (v := 4) hx hb dX9_addFlow_103 (by decide) ?_
  have j_32 : (4 : Int32).toNatClampNeg = 4 := m_cl (n := 6) rfl (by decide) (by decide)
  refine va_iald hx hb hK (ws := [(a_5, .inl (cy 0, 6, .inl (upd (upd (upd (upd (upd (upd (fun _ => 0) 0 (nI z_2)) 1 (nI ((z_2 + 1 + z_8) % nd))) 2 (nI kn)) 3 (nI z_14)) 4 (nI (1 + z_19))) 5 (nI (1 + z_24)))))]) (hP.one 3 rfl cel_in) 0 0 rfl rfl (m_in (n := 6) rfl (by decide) (by decide)) dX9_addFlow_104 ?_
  refine W.eq (g2 := F0 m 105 ls [.int ((upd (upd (upd (upd (upd (upd (fun _ => 0) 0 (nI z_2)) 1 (nI ((z_2 + 1 + z_8) % nd))) 2 (nI kn)) 3 (nI z_14)) 4 (nI (1 + z_19))) 5 (nI (1 + z_24))) 4), .int (nI z_14), .int (nI kn), .int (nI ((z_2 + 1 + z_8) % nd)), .int (nI z_2), .ref ob]) (by rw [j_32]) ?_
  refine W.eq (g2 := F0 m 105 ls [.int (nI (1 + z_19)), .int (nI z_14), .int (nI kn), .int (nI ((z_2 + 1 + z_8) % nd)), .int (nI z_2), .ref ob]) rfl ?_
  refine lv_aload_n hx hb dX9_addFlow_105 rfl (lv_at hl 0 rfl) ?_
  refine lv_iconst (v := 5) hx hb dX9_addFlow_106 (by decide) ?_
  have j_33 : (5 : Int32).toNatClampNeg = 5 := m_cl (n := 6) rfl (by decide) (by decide)
  refine va_iald hx hb hK (ws := [(a_5, .inl (cy 0, 6, .inl (upd (upd (upd (upd (upd (upd (fun _ => 0) 0 (nI z_2)) 1 (nI ((z_2 + 1 + z_8) % nd))) 2 (nI kn)) 3 (nI z_14)) 4 (nI (1 + z_19))) 5 (nI (1 + z_24)))))]) (hP.one 3 rfl cel_in) 0 0 rfl rfl (m_in (n := 6) rfl (by decide) (by decide)) dX9_addFlow_107 ?_
  refine W.eq (g2 := F0 m 108 ls [.int ((upd (upd (upd (upd (upd (upd (fun _ => 0) 0 (nI z_2)) 1 (nI ((z_2 + 1 + z_8) % nd))) 2 (nI kn)) 3 (nI z_14)) 4 (nI (1 + z_19))) 5 (nI (1 + z_24))) 5), .int (nI (1 + z_19)), .int (nI z_14), .int (nI kn), .int (nI ((z_2 + 1 + z_8) % nd)), .int (nI z_2), .ref ob]) (by rw [j_33]) ?_
  refine W.eq (g2 := F0 m 108 ls [.int (nI (1 + z_24)), .int (nI (1 + z_19)), .int (nI z_14), .int (nI kn), .int (nI ((z_2 + 1 + z_8) % nd)), .int (nI z_2), .ref ob]) rfl ?_
  have hFc := m_free (C := (fun q e => TW cy K (some s0) a (((0 : Int32), κr)) τ q e ∨ oW ob (K 0 0) tp q e)) hP.1 hS hA (fun _ _ h => any_in (i := 0) rfl h)
  refine va_calli (va_runV (As := [.int (nI z_2), .int (nI ((z_2 + 1 + z_8) % nd)), .int (nI kn), .int (nI z_14), .int (nI (1 + z_19)), .int (nI (1 + z_24))]) (rest := []) ⟨hx, hb, hml, hown, hts⟩ (c_addFlow l dC dI cy K ((some s0)) a (((0 : Int32), κr)) τ ob tp 0 (nI z_2) (nI ((z_2 + 1 + z_8) % nd)) (nI kn) (nI z_14) (nI (1 + z_19)) (nI (1 + z_24)) H.size hT h0.2.2.2.2 (b0_nno h0.1 qF) (b0_nno h0.1 (Nat.mod_lt _ (by omega))) (fun h => md_ne2 qF qG ((nI_eq (by omega) (Nat.lt_of_lt_of_le (Nat.mod_lt _ (by omega)) (by omega))).mp h)) (nI_nlt (b := 0) (by omega) (by omega)) (nI_nlt (a := 1) (by omega) (by decide)) (by rw [h0.1.1]; exact nI_nlt (b := 0) (by omega) (by omega)) (by rw [h0.1.1]; exact nI_nlt (a := 500) (by omega) (by decide)) (nI_nlt (b := 1) (by omega) (by omega)) (nI_nlt (a := 30) (by omega) (by decide)) (nI_nlt (b := 1) (by omega) (by omega)) (nI_nlt (a := 40) (by omega) (by decide)) (by rw [h0.1.2.2.2.2.2.2.1, nI_toInt (by omega)]; omega)) (tp_cwV 6 hts tw_1071 tw_1072 tw_1073 tw_20 tw_1074 rfl rfl (by decide +kernel) ⟨Nat.le_of_ble_eq_true rfl, Nat.le_of_ble_eq_true rfl⟩) ⟨m_blind, va_recv hK (hP.one (e := .inr (8, [.ref (K 0 0), .ref tp])) 0 rfl (Or.inr oW_mem)) (ci := 8) (q0 := 0) rfl rfl, fun U hU hW => ⟨rfl, m_pay hK hP.1 hE (fun _ _ h => any_in (i := 0) rfl h) U hU hW⟩⟩ rfl rfl hl.1 rfl (lv_room (Nat.le_of_ble_eq_true rfl)) dX9_addFlow_108 ⟨(by show 0 + 0 + 1 + 0 + 0 + 0 + 0 + 0 ≤ 1; omega), (by show 0 + 0 + 6 + 0 + 0 + 0 + 0 + 0 ≤ 6; omega)⟩) hS (fun q _ h => hFc q h) hFc (fun r_34 u t H1 locs ht hvm hpo hB hz1 hk1 hS => ?_)
  obtain rfl := hpo
  obtain ⟨f_35, hP1⟩ := hB
  subst f_35
  rw [ht] at hP1
  have hP : ms (dC, dI) vwCl A [(fun q e => TW cy K (some s0) (U_flow a (nI z_2) (nI ((z_2 + 1 + z_8) % nd)) (nI kn) (nI z_14) (nI (1 + z_19)) (nI (1 + z_24))) (((0 : Int32), κr)) τ q e ∨ oW ob (K 0 0) tp q e), cel gp (gO ob bs qf (d + 1 + 1 + 1 + 1 + 1) nd nl nf), (mset (rwW cy 10 6 (qf 9) fr9 fv nf) (qf 9) (arQ (cy 8) 10 (va_up (fun j => if j < nf then some (fr9 j) else none) nf (some a_5)))), cel a_5 (.inl (cy 0, 6, .inl (upd (upd (upd (upd (upd (upd (fun _ => 0) 0 (nI z_2)) 1 (nI ((z_2 + 1 + z_8) % nd))) 2 (nI kn)) 3 (nI z_14)) 4 (nI (1 + z_19))) 5 (nI (1 + z_24)))))] H1 := hP.call 0 rfl hk1 hFc hP1
  clear hP1 hk1 hFc
  generalize H1 = H at hP hS ⊢
  refine lv_aload_n hx hb dX9_addFlow_111 rfl (lv_at hl 2 rfl) ?_
  refine lv_dup hx hb dX9_addFlow_112 rfl ?_
  refine va_get (D := (dC, dI)) (ws := [(gp, .inr (9, [.ref ob, .ref bs, .int (nI (d + 1 + 1 + 1 + 1 + 1)), .int (nI nd), .int 0, .int 1, .int (nI nl), .ref (qf 0), .ref (qf 1), .ref (qf 2), .ref (qf 3), .ref (qf 4), .ref (qf 5), .ref (qf 6), .ref (qf 7), .ref (qf 8), .int (nI nf), .ref (qf 9), .int 0, .ref (qf 10), .ref (qf 11), .ref (qf 12), .ref (qf 13), .ref (qf 14), .ref (qf 15)]))]) (ci := 9) (v := .int (nI nf)) (C := RX9) (T := TX9) (N := 25) hx hb hts tl_X9 hown hK (hP.one 1 rfl cel_in) 0 rfl rfl 16 (by decide) (hts _ tw_954) (fun _ h9 => h9) rfl dX9_addFlow_113 ?_
  refine lv_dup_x1 hx hb dX9_addFlow_116 rfl rfl ?_
  refine lv_iconst (v := 1) hx hb dX9_addFlow_117 (by decide) ?_
  refine lv_iadd hx hb dX9_addFlow_118 ?_
  refine W.eq (g2 := F0 m 119 ls [.int (nI (nf + 1)), .ref gp, .int (nI nf), .int (a 0 0 3)]) (by rw [nI_1]) ?_
  obtain ⟨ws9, k9, hPw, hDw, hk9, -, hbk⟩ := hP.cutc 1 rfl
  refine va_put (D := (dC, dI)) (ci := 9) (v := .int (nI (nf + 1))) (ty := .int) (C := RX9) (T := TX9) (N := 25) hx hb hts tl_X9 tyX9 tyX9_ok nmX9 hown hK hPw hDw hS k9 hk9 rfl 16 (by decide) (hts _ tw_954) (fun _ h9 => h9) rfl (by decide +kernel) rfl rfl (Nat.le_of_ble_eq_true rfl) dX9_addFlow_119 (fun H locs hPw hDw hS => ?_)
  have hP : ms (dC, dI) vwCl A [(fun q e => TW cy K (some s0) (U_flow a (nI z_2) (nI ((z_2 + 1 + z_8) % nd)) (nI kn) (nI z_14) (nI (1 + z_19)) (nI (1 + z_24))) (((0 : Int32), κr)) τ q e ∨ oW ob (K 0 0) tp q e), cel gp (gO ob bs qf (d + 1 + 1 + 1 + 1 + 1) nd nl (nf + 1)), (mset (rwW cy 10 6 (qf 9) fr9 fv nf) (qf 9) (arQ (cy 8) 10 (va_up (fun j => if j < nf then some (fr9 j) else none) nf (some a_5)))), cel a_5 (.inl (cy 0, 6, .inl (upd (upd (upd (upd (upd (upd (fun _ => 0) 0 (nI z_2)) 1 (nI ((z_2 + 1 + z_8) % nd))) 2 (nI kn)) 3 (nI z_14)) 4 (nI (1 + z_19))) 5 (nI (1 + z_24)))))] H := hbk _ _ hPw hDw
  clear hbk hPw hDw hk9
  refine lv_icmp_ne (tgt := 129) hx hb dX9_addFlow_122 (by decide) (fun c_36 => absurd h0.1.2.2.2.2.2.2.1 c_36) (fun _ => ?_)
  refine lv_iconst (v := 1) hx hb dX9_addFlow_125 (by decide) ?_
  refine lv_goto (tgt := 130) hx hb dX9_addFlow_126 (by decide) ?_
  have hP := hP.sel [2, 3, 0, 1] rfl (by decide)
  have hP := rw_add hneA hP
  refine W.widen (k := 1) (n := 6) (by show 0 + 0 + 1 + 0 + 0 + 0 + 0 + 0 + 0 ≤ 1; omega) (by show 0 + 0 + 6 + 0 + 0 + 0 + 0 + 0 + 0 ≤ 6; omega) ?_
  have g_37 : (1 : Int32) = 1 := rfl
  have g_38 : Bld (U_flow a (nI z_2) (nI ((z_2 + 1 + z_8) % nd)) (nI kn) (nI z_14) (nI (1 + z_19)) (nI (1 + z_24))) nd nl lv pl (nf + 1) (up2 fv nf (rw6 z_2 ((z_2 + 1 + z_8) % nd) kn z_14 (1 + z_19) (1 + z_24))) := Bld.flow a nd nl lv pl nf fv _ _ _ _ _ _ kB knf qF (Nat.mod_lt _ (by omega)) (md_ne2 qF qG) (by omega) (by omega) (by omega) (by omega) (by omega) (by omega)
  have hP : ms (dC, dI) vwCl A [(fun q e => TW cy K (some s0) (U_flow a (nI z_2) (nI ((z_2 + 1 + z_8) % nd)) (nI kn) (nI z_14) (nI (1 + z_19)) (nI (1 + z_24))) (((0 : Int32), κr)) τ q e ∨ oW ob (K 0 0) tp q e), cel gp (gO ob bs qf (d + 5) nd nl (nf + 1)), rwW cy 10 6 (qf 9) (up2 fr9 nf a_5) (up2 fv nf (rw6 z_2 ((z_2 + 1 + z_8) % nd) kn z_14 (1 + z_19) (1 + z_24))) (nf + 1)] H := hP.sel [1, 2, 0] rfl (by decide)
  exact W.zret (v := 1) hx hb hr rfl (fun t ht hW => ⟨⟨1, 1, rfl, rfl, ⟨(U_flow a (nI z_2) (nI ((z_2 + 1 + z_8) % nd)) (nI kn) (nI z_14) (nI (1 + z_19)) (nI (1 + z_24))), (up2 fr9 nf a_5), (up2 fv nf (rw6 z_2 ((z_2 + 1 + z_8) % nd) kn z_14 (1 + z_19) (1 + z_24))), g_37, g_38, by show ms _ _ _ _ t.heap; rw [ht]; exact hP⟩⟩, hS.F ht⟩) hS.2.2 dX9_addFlow_130
