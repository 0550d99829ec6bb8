theorem tw_581 : Cond.methodLink RX9 1 ⟨"java/lang/Object", "<init>", "()V"⟩ ∈ tp_all := tp_mem 581 (by decide +kernel) rfl
theorem tw_582 : Cond.classLink RX9 7 RX8 ∈ tp_all := tp_mem 582 (by decide +kernel) rfl
theorem tw_125 : Cond.instantiable RX8 2 ∈ tp_all := tp_mem 125 (by decide +kernel) rfl
theorem tw_583 : Cond.methodLink RX9 9 yX8_init ∈ tp_all := tp_mem 583 (by decide +kernel) rfl
theorem tw_584 : Cond.instanceMethod yX8_init ∈ tp_all := tp_mem 584 (by decide +kernel) rfl
theorem tw_585 : Cond.code yX8_init cX8_init 1 none ∈ tp_all := tp_mem 585 (by decide +kernel) rfl
theorem tw_940 : Cond.fieldLink RX9 16 "TurnpikeLaw$Roads" "refresh" "I" ∈ tp_all := tp_mem 940 (by decide +kernel) rfl
theorem tw_1014 : Cond.arrayClass .boolean ∈ tp_all := tp_mem 1014 (by decide +kernel) rfl
theorem tw_948 : Cond.fieldLink RX9 35 "TurnpikeLaw$Roads" "isShut" "[Z" ∈ tp_all := tp_mem 948 (by decide +kernel) rfl
theorem tw_930 : Cond.classLink RX9 39 "[[I" ∈ tp_all := tp_mem 930 (by decide +kernel) rfl
theorem tw_949 : Cond.fieldLink RX9 40 "TurnpikeLaw$Roads" "on" "[[I" ∈ tp_all := tp_mem 949 (by decide +kernel) rfl
theorem tw_950 : Cond.fieldLink RX9 43 "TurnpikeLaw$Roads" "waiting" "[[I" ∈ tp_all := tp_mem 950 (by decide +kernel) rfl
theorem tw_951 : Cond.fieldLink RX9 46 "TurnpikeLaw$Roads" "count" "[[I" ∈ tp_all := tp_mem 951 (by decide +kernel) rfl
theorem tw_952 : Cond.fieldLink RX9 49 "TurnpikeLaw$Roads" "turned" "[[I" ∈ tp_all := tp_mem 952 (by decide +kernel) rfl
theorem tw_957 : Cond.fieldLink RX9 55 "TurnpikeLaw$Roads" "vehicle" "[[I" ∈ tp_all := tp_mem 957 (by decide +kernel) rfl
theorem tw_958 : Cond.fieldLink RX9 58 "TurnpikeLaw$Roads" "gone" "[[I" ∈ tp_all := tp_mem 958 (by decide +kernel) rfl
theorem tw_959 : Cond.fieldLink RX9 61 "TurnpikeLaw$Roads" "way" "[[I" ∈ tp_all := tp_mem 959 (by decide +kernel) rfl
theorem tw_931 : Cond.classLink RX9 64 "[[[I" ∈ tp_all := tp_mem 931 (by decide +kernel) rfl
theorem tw_962 : Cond.fieldLink RX9 72 "TurnpikeLaw$Roads" "ticks" "[I" ∈ tp_all := tp_mem 962 (by decide +kernel) rfl
theorem dX9_init_0 : decode cX9_init 0 = .ok (.aload_n 0, 1) := by decide +kernel
theorem dX9_init_1 : decode cX9_init 1 = .ok (.invokespecial 1, 3) := by decide +kernel
theorem dX9_init_4 : decode cX9_init 4 = .ok (.aload_n 0, 1) := by decide +kernel
theorem dX9_init_5 : decode cX9_init 5 = .ok (.new 7, 3) := by decide +kernel
theorem dX9_init_8 : decode cX9_init 8 = .ok (.dup, 1) := by decide +kernel
theorem dX9_init_9 : decode cX9_init 9 = .ok (.invokespecial 9, 3) := by decide +kernel
theorem dX9_init_12 : decode cX9_init 12 = .ok (.putfield 10, 3) := by decide +kernel
theorem dX9_init_15 : decode cX9_init 15 = .ok (.aload_n 0, 1) := by decide +kernel
theorem dX9_init_16 : decode cX9_init 16 = .ok (.iconst 1, 1) := by decide +kernel
theorem dX9_init_17 : decode cX9_init 17 = .ok (.putfield 16, 3) := by decide +kernel
theorem dX9_init_20 : decode cX9_init 20 = .ok (.aload_n 0, 1) := by decide +kernel
theorem dX9_init_21 : decode cX9_init 21 = .ok (.bipush 24, 2) := by decide +kernel
theorem dX9_init_23 : decode cX9_init 23 = .ok (.anewarray 20, 3) := by decide +kernel
theorem dX9_init_26 : decode cX9_init 26 = .ok (.putfield 22, 3) := by decide +kernel
theorem dX9_init_29 : decode cX9_init 29 = .ok (.aload_n 0, 1) := by decide +kernel
theorem dX9_init_30 : decode cX9_init 30 = .ok (.bipush 24, 2) := by decide +kernel
theorem dX9_init_32 : decode cX9_init 32 = .ok (.newarray .int, 2) := by decide +kernel
theorem dX9_init_34 : decode cX9_init 34 = .ok (.putfield 26, 3) := by decide +kernel
theorem dX9_init_37 : decode cX9_init 37 = .ok (.aload_n 0, 1) := by decide +kernel
theorem dX9_init_38 : decode cX9_init 38 = .ok (.bipush 24, 2) := by decide +kernel
theorem dX9_init_40 : decode cX9_init 40 = .ok (.newarray .int, 2) := by decide +kernel
theorem dX9_init_42 : decode cX9_init 42 = .ok (.putfield 29, 3) := by decide +kernel
theorem dX9_init_45 : decode cX9_init 45 = .ok (.aload_n 0, 1) := by decide +kernel
theorem dX9_init_46 : decode cX9_init 46 = .ok (.bipush 24, 2) := by decide +kernel
theorem dX9_init_48 : decode cX9_init 48 = .ok (.newarray .int, 2) := by decide +kernel
theorem dX9_init_50 : decode cX9_init 50 = .ok (.putfield 32, 3) := by decide +kernel
theorem dX9_init_53 : decode cX9_init 53 = .ok (.aload_n 0, 1) := by decide +kernel
theorem dX9_init_54 : decode cX9_init 54 = .ok (.bipush 24, 2) := by decide +kernel
theorem dX9_init_56 : decode cX9_init 56 = .ok (.newarray .boolean, 2) := by decide +kernel
theorem dX9_init_58 : decode cX9_init 58 = .ok (.putfield 35, 3) := by decide +kernel
theorem dX9_init_61 : decode cX9_init 61 = .ok (.aload_n 0, 1) := by decide +kernel
theorem dX9_init_62 : decode cX9_init 62 = .ok (.bipush 24, 2) := by decide +kernel
theorem dX9_init_64 : decode cX9_init 64 = .ok (.iconst 0, 1) := by decide +kernel
theorem dX9_init_65 : decode cX9_init 65 = .ok (.multianewarray 39 2, 4) := by decide +kernel
theorem dX9_init_69 : decode cX9_init 69 = .ok (.putfield 40, 3) := by decide +kernel
theorem dX9_init_72 : decode cX9_init 72 = .ok (.aload_n 0, 1) := by decide +kernel
theorem dX9_init_73 : decode cX9_init 73 = .ok (.bipush 12, 2) := by decide +kernel
theorem dX9_init_75 : decode cX9_init 75 = .ok (.iconst 0, 1) := by decide +kernel
theorem dX9_init_76 : decode cX9_init 76 = .ok (.multianewarray 39 2, 4) := by decide +kernel
theorem dX9_init_80 : decode cX9_init 80 = .ok (.putfield 43, 3) := by decide +kernel
theorem dX9_init_83 : decode cX9_init 83 = .ok (.aload_n 0, 1) := by decide +kernel
theorem dX9_init_84 : decode cX9_init 84 = .ok (.bipush 24, 2) := by decide +kernel
theorem dX9_init_86 : decode cX9_init 86 = .ok (.iconst 4, 1) := by decide +kernel
theorem dX9_init_87 : decode cX9_init 87 = .ok (.multianewarray 39 2, 4) := by decide +kernel
theorem dX9_init_91 : decode cX9_init 91 = .ok (.putfield 46, 3) := by decide +kernel
theorem dX9_init_94 : decode cX9_init 94 = .ok (.aload_n 0, 1) := by decide +kernel
theorem dX9_init_95 : decode cX9_init 95 = .ok (.bipush 24, 2) := by decide +kernel
theorem dX9_init_97 : decode cX9_init 97 = .ok (.bipush 24, 2) := by decide +kernel
theorem dX9_init_99 : decode cX9_init 99 = .ok (.multianewarray 39 2, 4) := by decide +kernel
theorem dX9_init_103 : decode cX9_init 103 = .ok (.putfield 49, 3) := by decide +kernel
theorem dX9_init_106 : decode cX9_init 106 = .ok (.aload_n 0, 1) := by decide +kernel
theorem dX9_init_107 : decode cX9_init 107 = .ok (.bipush 10, 2) := by decide +kernel
theorem dX9_init_109 : decode cX9_init 109 = .ok (.anewarray 20, 3) := by decide +kernel
theorem dX9_init_112 : decode cX9_init 112 = .ok (.putfield 52, 3) := by decide +kernel
theorem dX9_init_115 : decode cX9_init 115 = .ok (.aload_n 0, 1) := by decide +kernel
theorem dX9_init_116 : decode cX9_init 116 = .ok (.sipush 200, 3) := by decide +kernel
theorem dX9_init_119 : decode cX9_init 119 = .ok (.anewarray 20, 3) := by decide +kernel
theorem dX9_init_122 : decode cX9_init 122 = .ok (.putfield 55, 3) := by decide +kernel
theorem dX9_init_125 : decode cX9_init 125 = .ok (.aload_n 0, 1) := by decide +kernel
theorem dX9_init_126 : decode cX9_init 126 = .ok (.sipush 200, 3) := by decide +kernel
theorem dX9_init_129 : decode cX9_init 129 = .ok (.iconst 0, 1) := by decide +kernel
theorem dX9_init_130 : decode cX9_init 130 = .ok (.multianewarray 39 2, 4) := by decide +kernel
theorem dX9_init_134 : decode cX9_init 134 = .ok (.putfield 58, 3) := by decide +kernel
theorem dX9_init_137 : decode cX9_init 137 = .ok (.aload_n 0, 1) := by decide +kernel
theorem dX9_init_138 : decode cX9_init 138 = .ok (.sipush 200, 3) := by decide +kernel
theorem dX9_init_141 : decode cX9_init 141 = .ok (.iconst 0, 1) := by decide +kernel
theorem dX9_init_142 : decode cX9_init 142 = .ok (.multianewarray 39 2, 4) := by decide +kernel
theorem dX9_init_146 : decode cX9_init 146 = .ok (.putfield 61, 3) := by decide +kernel
theorem dX9_init_149 : decode cX9_init 149 = .ok (.aload_n 0, 1) := by decide +kernel
theorem dX9_init_150 : decode cX9_init 150 = .ok (.bipush 12, 2) := by decide +kernel
theorem dX9_init_152 : decode cX9_init 152 = .ok (.iconst 0, 1) := by decide +kernel
theorem dX9_init_153 : decode cX9_init 153 = .ok (.multianewarray 64 2, 4) := by decide +kernel
theorem dX9_init_157 : decode cX9_init 157 = .ok (.putfield 66, 3) := by decide +kernel
theorem dX9_init_160 : decode cX9_init 160 = .ok (.aload_n 0, 1) := by decide +kernel
theorem dX9_init_161 : decode cX9_init 161 = .ok (.bipush 12, 2) := by decide +kernel
theorem dX9_init_163 : decode cX9_init 163 = .ok (.newarray .int, 2) := by decide +kernel
theorem dX9_init_165 : decode cX9_init 165 = .ok (.putfield 69, 3) := by decide +kernel
theorem dX9_init_168 : decode cX9_init 168 = .ok (.aload_n 0, 1) := by decide +kernel
theorem dX9_init_169 : decode cX9_init 169 = .ok (.bipush 12, 2) := by decide +kernel
theorem dX9_init_171 : decode cX9_init 171 = .ok (.newarray .int, 2) := by decide +kernel
theorem dX9_init_173 : decode cX9_init 173 = .ok (.putfield 72, 3) := by decide +kernel
theorem dX9_init_176 : decode cX9_init 176 = .ok (.aload_n 0, 1) := by decide +kernel
theorem dX9_init_177 : decode cX9_init 177 = .ok (.aload_n 1, 1) := by decide +kernel
theorem dX9_init_178 : decode cX9_init 178 = .ok (.putfield 75, 3) := by decide +kernel
theorem dX9_init_181 : decode cX9_init 181 = .ok (.aload_n 0, 1) := by decide +kernel
theorem dX9_init_182 : decode cX9_init 182 = .ok (.iload_n 2, 1) := by decide +kernel
theorem dX9_init_183 : decode cX9_init 183 = .ok (.putfield 78, 3) := by decide +kernel
theorem dX9_init_186 : decode cX9_init 186 = .ok (.return_, 1) := by decide +kernel
set_option maxRecDepth 100000 in
set_option maxHeartbeats 4000000 in
/-- TurnpikeLaw.Roads.<init> -/
theorem c_law_init (l : Launch) (dC : Nat → ClassId) (dI : Nat → Nat → Nat) (cy : Nat → ClassId) (bs Ls : Nat) (xs : Nat → Int32) (gp : Nat) (d : Nat) (sz : Nat) : Met l yX9_init (tp_w yX9_init cX9_init 3 none) ({ frames := 6, cells := 2209, slots := 23298, locals := 118 }) (va_Pc [.ref gp, .ref bs, .int (nI d)] (gPre dC dI cy bs Ls xs [cel gp (.inr (9, [.null, .null, .int 0, .int 0, .int 0, .int 0, .int 0, .null, .null, .null, .null, .null, .null, .null, .null, .null, .int 0, .null, .int 0, .null, .null, .null, .null, .null, .null]))] sz)) (va_Qv (fun _ : Unit => True) (fun (_ : Unit) (t : State) => ∃ (ob : Nat), ∃ (s0 : Nat), ∃ (Lt : Lay), ∃ (K : Lay), ∃ (τ : Tau), ∃ (qf : Nat → Nat), ∃ (pr : Nat → Nat), ∃ (x1 : Nat → Int32), ∃ (x2 : Nat → Int32), ∃ (x3 : Nat → Int32), ∃ (x4 : Nat → Int32), (TL K (some s0) τ) ∧ (τ.2.2 = (fun _ => 1, fun _ _ => 0)) ∧ (TL Lt none TZ) ∧ (AP Lt K (some s0) τ) ∧ ms (dC, dI) vwCl (mA (anyP [cel gp (.inr (9, [.null, .null, .int 0, .int 0, .int 0, .int 0, .int 0, .null, .null, .null, .null, .null, .null, .null, .null, .null, .int 0, .null, .int 0, .null, .null, .null, .null, .null, .null]))]) sz) [(fun q e => TW cy K (some s0) St0 K0 τ q e ∨ oW ob (K 0 0) (Lt 0 0) q e), cel gp (gO ob bs qf d 0 0 0), rwW cy 24 5 (qf 0) ((fun _ => 0)) ((fun _ _ => 0)) 0, cel (qf 1) (.inl (cy 0, 24, .inl (x1))), cel (qf 2) (.inl (cy 0, 24, .inl (x2))), cel (qf 3) (.inl (cy 0, 24, .inl (x3))), cel (qf 14) (.inl (cy 0, 12, .inl (x4))), rwW cy 10 6 (qf 9) ((fun _ => 0)) ((fun _ _ => 0)) 0, cel (qf 13) (arQ (cy 10) 12 (fun n => some (pr n))), prW cy pr ((fun _ => 0)) ((fun _ _ => 0)), peW cy ((fun _ => 0)) ((fun _ _ => 0)) ((fun _ _ _ => 0)), (TW cy Lt none St0 K0 TZ)] t.heap) (mA (anyP [cel gp (.inr (9, [.null, .null, .int 0, .int 0, .int 0, .int 0, .int 0, .null, .null, .null, .null, .null, .null, .null, .null, .null, .int 0, .null, .int 0, .null, .null, .null, .null, .null, .null]))]) sz)) (2209) (23298) (mA (anyP [cel gp (.inr (9, [.null, .null, .int 0, .int 0, .int 0, .int 0, .int 0, .null, .null, .null, .null, .null, .null, .null, .null, .null, .int 0, .null, .int 0, .null, .null, .null, .null, .null, .null]))]) sz) := by
  refine Met.ofW (cc := cX9_init) (maxL := 3) (ret := none) (by decide) rfl ?_
  intro p e s m args below meth c s₁ B hml hv
  obtain ⟨rfl, hsz, hP, hK, hE, hX, hbl, hbL, hbn⟩ := hv
  have hx := B.exec
  have hb := B.bytes
  have hr := B.returns
  have hts0 := atoms_spec (ws := tp_w yX9_init cX9_init 3 none) B.pre
  have hts : ∀ w ∈ tp_all, w.before _ s = true := fun w h => hts0 w (List.mem_cons_of_mem _ h)
  have hown : s.vm.findClass RX9 = some m.cls := findClass_of_methodNamed B.named
  have hlocks := B.notSynchronized
  subst hsz
  have hP := hP.self s.heap.size
  have hbA : ¬ mA (anyP [cel gp (.inr (9, [.null, .null, .int 0, .int 0, .int 0, .int 0, .int 0, .null, .null, .null, .null, .null, .null, .null, .null, .null, .int 0, .null, .int 0, .null, .null, .null, .null, .null, .null]))]) s.heap.size bs := by
    rintro (⟨e9, he⟩ | h9)
    · exact hbn e9 he
    · omega
  generalize hAe : mA (anyP [cel gp (.inr (9, [.null, .null, .int 0, .int 0, .int 0, .int 0, .int 0, .null, .null, .null, .null, .null, .null, .null, .null, .null, .int 0, .null, .int 0, .null, .null, .null, .null, .null, .null]))]) s.heap.size = A at hP hbA ⊢
  have hA : ∀ q : Nat, s.heap.size ≤ q → A q := fun q h => by rw [← hAe]; exact Or.inr h
  have hS : va_S A s.heap s.heap [] := va_S.rf
  have hl9 := lv_entry ([.ref gp, .ref bs, .int (nI d)]) (n := 3) (Nat.le_of_ble_eq_true rfl)
  rw [lg_entry_eq]
  generalize (lg_sl ([.ref gp, .ref bs, .int (nI d)]) ++ List.replicate (3 - (lg_sl ([.ref gp, .ref bs, .int (nI d)])).length) Slot.unset).toArray = ls at hl9 ⊢
  have hl : lv_has ls 3 [(0, .ref gp), (1, .ref bs), (2, .int (nI d))] := hl9
  have hin : meth.name = "<init>" := (name_of_methodNamed B.named B.method).1
  refine lv_aload_n hx hb dX9_init_0 rfl (lv_at hl 0 rfl) ?_
  refine W.objInit hx hb hown (hts _ tw_581) (hts _ tw_74) (hts _ tw_75) rfl (by rw [hml]; exact hl.1) rfl dX9_init_1 (Nat.le_of_ble_eq_true rfl) (Nat.le_of_ble_eq_true rfl) ?_
  refine W.eq (g2 := F0 m 4 ls []) rfl ?_
  refine lv_aload_n hx hb dX9_init_4 rfl (lv_at hl 0 rfl) ?_
  obtain ⟨ws9, hPw, hDw, -, hbk⟩ := hP.push
  have h8 : tp_dv 2 tyX8 [.null, .null] = true := by decide +kernel
  refine va_new (ci := 8) (fs := [.null, .null]) (C := RX8) (T := TX8) (N := 2) hx hb hts tl_X8 tyX8 tyX8_ok hown (hts _ tw_582) (hts _ tw_125) (hts _ tw_20) hK hPw hDw hS hA rfl (fun j hj => tp_dv_ok h8 j hj) (by show 0 + 1 ≤ 2209; omega) (by show 0 + 2 ≤ 23298; omega) dX9_init_5 (fun ob H hPw hDw hS => ?_)
  have hP : ms (dC, dI) vwCl A [cel gp (.inr (9, [.null, .null, .int 0, .int 0, .int 0, .int 0, .int 0, .null, .null, .null, .null, .null, .null, .null, .null, .null, .int 0, .null, .int 0, .null, .null, .null, .null, .null, .null])), cel ob (.inr (8, [.null, .null]))] H := hbk _ _ _ hPw hDw
  clear hbk hPw hDw
  refine lv_dup hx hb dX9_init_8 rfl ?_
  have hP : ms (dC, dI) vwCl A [cel gp (.inr (9, [.null, .null, .int 0, .int 0, .int 0, .int 0, .int 0, .null, .null, .null, .null, .null, .null, .null, .null, .null, .int 0, .null, .int 0, .null, .null, .null, .null, .null, .null])), cw [(ob, .inr (8, [.null, .null]))]] H := hP.sub 1 rfl (fun q e h => by cases List.mem_singleton.mp h; exact ⟨rfl, rfl⟩)
  have hFc : ∀ q, va_A [(ob, .inr (8, [.null, .null]))] H.size q → A q := fun q h => m_free (C := cw [(ob, .inr (8, [.null, .null]))]) hP.1 hS hA (fun _ _ h => any_in (i := 1) rfl h) q (mA_va.mp h)
  refine va_callv (va_runI (As := []) (rest := [.ref ob, .ref gp]) ⟨hx, hb, hml, hown, hts⟩ (k_Turnpike l dC dI cy ob H.size) (tp_cwI 0 hts tw_583 tw_584 tw_20 tw_585 rfl rfl rfl (by decide +kernel) ⟨Nat.le_of_ble_eq_true rfl, Nat.le_of_ble_eq_true rfl⟩) ⟨m_blind, fun U hU hW => ⟨rfl, m_pay hK hP.1 hE (fun _ _ h => any_in (i := 1) rfl h) U hU hW⟩⟩ rfl rfl hl.1 rfl (lv_room (Nat.le_of_ble_eq_true rfl)) dX9_init_9 ⟨(by show 0 + 1 + 1696 ≤ 2209; omega), (by show 0 + 2 + 21774 ≤ 23298; omega)⟩) hS (fun q _ h => hFc q h) hFc (fun u t H1 locs ht hvm hpo hB hz1 hk1 hS => ?_)
  obtain ⟨s0, Lt, K, τ, hTn, hτ, hTt, hAP, hP1⟩ := hB
  rw [ht] at hP1
  have hP2 := hP.call 1 rfl (fun q hq hn => hk1 q hq fun h9 => hn (mA_va.mp h9)) (fun q h => hFc q (mA_va.mpr h)) (hP1.weak fun q e _ h => mA_va.mp h)
  clear hP
  have hP := hP2
  clear hP2 hP1 hk1 hFc
  generalize H1 = H at hP hS ⊢
  have hP : ms (dC, dI) vwCl A [cel gp (.inr (9, [.null, .null, .int 0, .int 0, .int 0, .int 0, .int 0, .null, .null, .null, .null, .null, .null, .null, .null, .null, .int 0, .null, .int 0, .null, .null, .null, .null, .null, .null])), (fun q e => TW cy Lt none St0 K0 TZ q e ∨ TW cy K (some s0) St0 K0 τ q e ∨ oW ob (K 0 0) (Lt 0 0) q e)] H := hP
  have hP3 := (hP.sel [1, 0] rfl (by decide)).split (P := TW cy Lt none St0 K0 TZ) (Q := (fun q e => TW cy K (some s0) St0 K0 τ q e ∨ oW ob (K 0 0) (Lt 0 0) q e)) (fun q e y h1 h2 => by
      rcases h2 with h2 | h2
      · exact ap_dis hAP h2 h1
      · exact ow_dis (hP.part 1 rfl) (fun _ _ h => Or.inl h) (fun _ _ h => Or.inr (Or.inr h)) h2 h1)
  have hP : ms (dC, dI) vwCl A [cel gp (.inr (9, [.null, .null, .int 0, .int 0, .int 0, .int 0, .int 0, .null, .null, .null, .null, .null, .null, .null, .null, .null, .int 0, .null, .int 0, .null, .null, .null, .null, .null, .null])), (fun q e => TW cy K (some s0) St0 K0 τ q e ∨ oW ob (K 0 0) (Lt 0 0) q e), (TW cy Lt none St0 K0 TZ)] H := hP3.sel [2, 1, 0] rfl (by decide)
  clear hP3
  obtain ⟨ws9, k9, hPw, hDw, hk9, -, hbk⟩ := hP.cutc 0 rfl
  refine va_putF (D := (dC, dI)) (ci := 9) (v := .ref ob) (ty := (.object "Turnpike")) (C := RX9) (T := TX9) (N := 25) hx hb hts tl_X9 tyX9 tyX9_ok nmX9 hown hK hPw hDw hS k9 hk9 rfl 0 (by decide) (hts _ tw_933) (fun _ h9 => h9) rfl hin rfl (by decide +kernel) rfl rfl (Nat.le_of_ble_eq_true rfl) dX9_init_12 (fun H locs hPw hDw hS => ?_)
  have hP : ms (dC, dI) vwCl A [cel gp (.inr (9, [.ref ob, .null, .int 0, .int 0, .int 0, .int 0, .int 0, .null, .null, .null, .null, .null, .null, .null, .null, .null, .int 0, .null, .int 0, .null, .null, .null, .null, .null, .null])), (fun q e => TW cy K (some s0) St0 K0 τ q e ∨ oW ob (K 0 0) (Lt 0 0) q e), (TW cy Lt none St0 K0 TZ)] H := hbk _ _ hPw hDw
  clear hbk hPw hDw hk9
  refine lv_aload_n hx hb dX9_init_15 rfl (lv_at hl 0 rfl) ?_
  refine lv_iconst (v := 1) hx hb dX9_init_16 (by decide) ?_
  obtain ⟨ws9, k9, hPw, hDw, hk9, -, hbk⟩ := hP.cutc 0 rfl
  refine va_put (D := (dC, dI)) (ci := 9) (v := .int 1) (ty := .int) (C := RX9) (T := TX9) (N := 25) hx hb hts tl_X9 tyX9 tyX9_ok nmX9 hown hK hPw hDw hS k9 hk9 rfl 5 (by decide) (hts _ tw_940) (fun _ h9 => h9) rfl (by decide +kernel) rfl rfl (Nat.le_of_ble_eq_true rfl) dX9_init_17 (fun H locs hPw hDw hS => ?_)
  have hP : ms (dC, dI) vwCl A [cel gp (.inr (9, [.ref ob, .null, .int 0, .int 0, .int 0, .int 1, .int 0, .null, .null, .null, .null, .null, .null, .null, .null, .null, .int 0, .null, .int 0, .null, .null, .null, .null, .null, .null])), (fun q e => TW cy K (some s0) St0 K0 τ q e ∨ oW ob (K 0 0) (Lt 0 0) q e), (TW cy Lt none St0 K0 TZ)] H := hbk _ _ hPw hDw
  clear hbk hPw hDw hk9
  refine lv_aload_n hx hb dX9_init_20 rfl (lv_at hl 0 rfl) ?_
  refine lv_bipush (v := 24) hx hb dX9_init_21 (by decide) ?_
  obtain ⟨ws9, hPw, hDw, -, hbk⟩ := hP.push
  refine m_newqA hx hb (ty := .int) (N' := 24) hown (by rw [k_s1I]; exact hts _ tw_929) (hE.2.2.2 _ (List.mem_of_getElem? (i := 0) rfl)) hK hPw hDw hS hA (by decide) (by decide) (Nat.le_of_ble_eq_true rfl) (by show 0 + 1 + 1696 + 1 ≤ 2209; omega) (by show 0 + 2 + 21774 + 24 ≤ 23298; omega) dX9_init_23 (fun q0 k9 H hK9 hPw hDw hS => ?_)
  obtain rfl : k9 = cy 8 := tp_one hK9 11 8 rfl rfl
  have hP : ms (dC, dI) vwCl A [cel gp (.inr (9, [.ref ob, .null, .int 0, .int 0, .int 0, .int 1, .int 0, .null, .null, .null, .null, .null, .null, .null, .null, .null, .int 0, .null, .int 0, .null, .null, .null, .null, .null, .null])), (fun q e => TW cy K (some s0) St0 K0 τ q e ∨ oW ob (K 0 0) (Lt 0 0) q e), (TW cy Lt none St0 K0 TZ), cel q0 (arQ (cy 8) 24 (fun _ => none))] H := hbk _ _ _ hPw hDw
  clear hbk hPw hDw hK9
  obtain ⟨ws9, k9, hPw, hDw, hk9, -, hbk⟩ := hP.cutc 0 rfl
  refine va_putF (D := (dC, dI)) (ci := 9) (v := .ref q0) (ty := (.array (.array .int))) (C := RX9) (T := TX9) (N := 25) hx hb hts tl_X9 tyX9 tyX9_ok nmX9 hown hK hPw hDw hS k9 hk9 rfl 7 (by decide) (hts _ tw_943) (fun _ h9 => h9) rfl hin rfl (by decide +kernel) rfl rfl (Nat.le_of_ble_eq_true rfl) dX9_init_26 (fun H locs hPw hDw hS => ?_)
  have hP : ms (dC, dI) vwCl A [cel gp (.inr (9, [.ref ob, .null, .int 0, .int 0, .int 0, .int 1, .int 0, .ref q0, .null, .null, .null, .null, .null, .null, .null, .null, .int 0, .null, .int 0, .null, .null, .null, .null, .null, .null])), (fun q e => TW cy K (some s0) St0 K0 τ q e ∨ oW ob (K 0 0) (Lt 0 0) q e), (TW cy Lt none St0 K0 TZ), cel q0 (arQ (cy 8) 24 (fun _ => none))] H := hbk _ _ hPw hDw
  clear hbk hPw hDw hk9
  refine lv_aload_n hx hb dX9_init_29 rfl (lv_at hl 0 rfl) ?_
  refine lv_bipush (v := 24) hx hb dX9_init_30 (by decide) ?_
  obtain ⟨ws9, hPw, hDw, -, hbk⟩ := hP.push
  refine va_newa hx hb (atype := .int) (hts _ tw_623) (ty := .int) rfl hK hPw hDw hS hA (a0 := (24, .inl (fun _ => 0))) (N' := 24) (fun _ => rfl) (by decide) (by decide) (Nat.le_of_ble_eq_true rfl) (by show 0 + 1 + 1696 + 1 + 1 ≤ 2209; omega) (by show 0 + 2 + 21774 + 24 + 24 ≤ 23298; omega) dX9_init_32 (fun q1 k9 H hK9 hPw hDw hS => ?_)
  obtain rfl : k9 = cy 0 := tp_one hK9 11 0 rfl rfl
  have hP : ms (dC, dI) vwCl A [cel gp (.inr (9, [.ref ob, .null, .int 0, .int 0, .int 0, .int 1, .int 0, .ref q0, .null, .null, .null, .null, .null, .null, .null, .null, .int 0, .null, .int 0, .null, .null, .null, .null, .null, .null])), (fun q e => TW cy K (some s0) St0 K0 τ q e ∨ oW ob (K 0 0) (Lt 0 0) q e), (TW cy Lt none St0 K0 TZ), cel q0 (arQ (cy 8) 24 (fun _ => none)), cel q1 (.inl (cy 0, 24, .inl (fun _ => 0)))] H := hbk _ _ _ hPw hDw
  clear hbk hPw hDw hK9
  obtain ⟨ws9, k9, hPw, hDw, hk9, -, hbk⟩ := hP.cutc 0 rfl
  refine va_putF (D := (dC, dI)) (ci := 9) (v := .ref q1) (ty := (.array .int)) (C := RX9) (T := TX9) (N := 25) hx hb hts tl_X9 tyX9 tyX9_ok nmX9 hown hK hPw hDw hS k9 hk9 rfl 8 (by decide) (hts _ tw_945) (fun _ h9 => h9) rfl hin rfl (by decide +kernel) rfl rfl (Nat.le_of_ble_eq_true rfl) dX9_init_34 (fun H locs hPw hDw hS => ?_)
  have hP : ms (dC, dI) vwCl A [cel gp (.inr (9, [.ref ob, .null, .int 0, .int 0, .int 0, .int 1, .int 0, .ref q0, .ref q1, .null, .null, .null, .null, .null, .null, .null, .int 0, .null, .int 0, .null, .null, .null, .null, .null, .null])), (fun q e => TW cy K (some s0) St0 K0 τ q e ∨ oW ob (K 0 0) (Lt 0 0) q e), (TW cy Lt none St0 K0 TZ), cel q0 (arQ (cy 8) 24 (fun _ => none)), cel q1 (.inl (cy 0, 24, .inl (fun _ => 0)))] H := hbk _ _ hPw hDw
  clear hbk hPw hDw hk9
  refine lv_aload_n hx hb dX9_init_37 rfl (lv_at hl 0 rfl) ?_
  refine lv_bipush (v := 24) hx hb dX9_init_38 (by decide) ?_
  obtain ⟨ws9, hPw, hDw, -, hbk⟩ := hP.push
  refine va_newa hx hb (atype := .int) (hts _ tw_623) (ty := .int) rfl hK hPw hDw hS hA (a0 := (24, .inl (fun _ => 0))) (N' := 24) (fun _ => rfl) (by decide) (by decide) (Nat.le_of_ble_eq_true rfl) (by show 0 + 1 + 1696 + 1 + 1 + 1 ≤ 2209; omega) (by show 0 + 2 + 21774 + 24 + 24 + 24 ≤ 23298; omega) dX9_init_40 (fun q2 k9 H hK9 hPw hDw hS => ?_)
  obtain rfl : k9 = cy 0 := tp_one hK9 11 0 rfl rfl
  have hP : ms (dC, dI) vwCl A [cel gp (.inr (9, [.ref ob, .null, .int 0, .int 0, .int 0, .int 1, .int 0, .ref q0, .ref q1, .null, .null, .null, .null, .null, .null, .null, .int 0, .null, .int 0, .null, .null, .null, .null, .null, .null])), (fun q e => TW cy K (some s0) St0 K0 τ q e ∨ oW ob (K 0 0) (Lt 0 0) q e), (TW cy Lt none St0 K0 TZ), cel q0 (arQ (cy 8) 24 (fun _ => none)), cel q1 (.inl (cy 0, 24, .inl (fun _ => 0))), cel q2 (.inl (cy 0, 24, .inl (fun _ => 0)))] H := hbk _ _ _ hPw hDw
  clear hbk hPw hDw hK9
  obtain ⟨ws9, k9, hPw, hDw, hk9, -, hbk⟩ := hP.cutc 0 rfl
  refine va_putF (D := (dC, dI)) (ci := 9) (v := .ref q2) (ty := (.array .int)) (C := RX9) (T := TX9) (N := 25) hx hb hts tl_X9 tyX9 tyX9_ok nmX9 hown hK hPw hDw hS k9 hk9 rfl 9 (by decide) (hts _ tw_946) (fun _ h9 => h9) rfl hin rfl (by decide +kernel) rfl rfl (Nat.le_of_ble_eq_true rfl) dX9_init_42 (fun H locs hPw hDw hS => ?_)
  have hP : ms (dC, dI) vwCl A [cel gp (.inr (9, [.ref ob, .null, .int 0, .int 0, .int 0, .int 1, .int 0, .ref q0, .ref q1, .ref q2, .null, .null, .null, .null, .null, .null, .int 0, .null, .int 0, .null, .null, .null, .null, .null, .null])), (fun q e => TW cy K (some s0) St0 K0 τ q e ∨ oW ob (K 0 0) (Lt 0 0) q e), (TW cy Lt none St0 K0 TZ), cel q0 (arQ (cy 8) 24 (fun _ => none)), cel q1 (.inl (cy 0, 24, .inl (fun _ => 0))), cel q2 (.inl (cy 0, 24, .inl (fun _ => 0)))] H := hbk _ _ hPw hDw
  clear hbk hPw hDw hk9
  refine lv_aload_n hx hb dX9_init_45 rfl (lv_at hl 0 rfl) ?_
  refine lv_bipush (v := 24) hx hb dX9_init_46 (by decide) ?_
  obtain ⟨ws9, hPw, hDw, -, hbk⟩ := hP.push
  refine va_newa hx hb (atype := .int) (hts _ tw_623) (ty := .int) rfl hK hPw hDw hS hA (a0 := (24, .inl (fun _ => 0))) (N' := 24) (fun _ => rfl) (by decide) (by decide) (Nat.le_of_ble_eq_true rfl) (by show 0 + 1 + 1696 + 1 + 1 + 1 + 1 ≤ 2209; omega) (by show 0 + 2 + 21774 + 24 + 24 + 24 + 24 ≤ 23298; omega) dX9_init_48 (fun q3 k9 H hK9 hPw hDw hS => ?_)
  obtain rfl : k9 = cy 0 := tp_one hK9 11 0 rfl rfl
  have hP : ms (dC, dI) vwCl A [cel gp (.inr (9, [.ref ob, .null, .int 0, .int 0, .int 0, .int 1, .int 0, .ref q0, .ref q1, .ref q2, .null, .null, .null, .null, .null, .null, .int 0, .null, .int 0, .null, .null, .null, .null, .null, .null])), (fun q e => TW cy K (some s0) St0 K0 τ q e ∨ oW ob (K 0 0) (Lt 0 0) q e), (TW cy Lt none St0 K0 TZ), cel q0 (arQ (cy 8) 24 (fun _ => none)), cel q1 (.inl (cy 0, 24, .inl (fun _ => 0))), cel q2 (.inl (cy 0, 24, .inl (fun _ => 0))), cel q3 (.inl (cy 0, 24, .inl (fun _ => 0)))] H := hbk _ _ _ hPw hDw
  clear hbk hPw hDw hK9
  obtain ⟨ws9, k9, hPw, hDw, hk9, -, hbk⟩ := hP.cutc 0 rfl
  refine va_putF (D := (dC, dI)) (ci := 9) (v := .ref q3) (ty := (.array .int)) (C := RX9) (T := TX9) (N := 25) hx hb hts tl_X9 tyX9 tyX9_ok nmX9 hown hK hPw hDw hS k9 hk9 rfl 10 (by decide) (hts _ tw_947) (fun _ h9 => h9) rfl hin rfl (by decide +kernel) rfl rfl (Nat.le_of_ble_eq_true rfl) dX9_init_50 (fun H locs hPw hDw hS => ?_)
  have hP : ms (dC, dI) vwCl A [cel gp (.inr (9, [.ref ob, .null, .int 0, .int 0, .int 0, .int 1, .int 0, .ref q0, .ref q1, .ref q2, .ref q3, .null, .null, .null, .null, .null, .int 0, .null, .int 0, .null, .null, .null, .null, .null, .null])), (fun q e => TW cy K (some s0) St0 K0 τ q e ∨ oW ob (K 0 0) (Lt 0 0) q e), (TW cy Lt none St0 K0 TZ), cel q0 (arQ (cy 8) 24 (fun _ => none)), cel q1 (.inl (cy 0, 24, .inl (fun _ => 0))), cel q2 (.inl (cy 0, 24, .inl (fun _ => 0))), cel q3 (.inl (cy 0, 24, .inl (fun _ => 0)))] H := hbk _ _ hPw hDw
  clear hbk hPw hDw hk9
  refine lv_aload_n hx hb dX9_init_53 rfl (lv_at hl 0 rfl) ?_
  refine lv_bipush (v := 24) hx hb dX9_init_54 (by decide) ?_
  obtain ⟨ws9, hPw, hDw, -, hbk⟩ := hP.push
  refine va_newa hx hb (atype := .boolean) (hts _ tw_1014) (ty := .boolean) rfl hK hPw hDw hS hA (a0 := (24, .inl (fun _ => 0))) (N' := 24) (fun _ => rfl) (by decide) (by decide) (Nat.le_of_ble_eq_true rfl) (by show 0 + 1 + 1696 + 1 + 1 + 1 + 1 + 1 ≤ 2209; omega) (by show 0 + 2 + 21774 + 24 + 24 + 24 + 24 + 24 ≤ 23298; omega) dX9_init_56 (fun q4 k9 H hK9 hPw hDw hS => ?_)
  obtain rfl : k9 = cy 2 := tp_one hK9 11 2 rfl rfl
  have hP : ms (dC, dI) vwCl A [cel gp (.inr (9, [.ref ob, .null, .int 0, .int 0, .int 0, .int 1, .int 0, .ref q0, .ref q1, .ref q2, .ref q3, .null, .null, .null, .null, .null, .int 0, .null, .int 0, .null, .null, .null, .null, .null, .null])), (fun q e => TW cy K (some s0) St0 K0 τ q e ∨ oW ob (K 0 0) (Lt 0 0) q e), (TW cy Lt none St0 K0 TZ), cel q0 (arQ (cy 8) 24 (fun _ => none)), cel q1 (.inl (cy 0, 24, .inl (fun _ => 0))), cel q2 (.inl (cy 0, 24, .inl (fun _ => 0))), cel q3 (.inl (cy 0, 24, .inl (fun _ => 0))), cel q4 (.inl (cy 2, 24, .inl (fun _ => 0)))] H := hbk _ _ _ hPw hDw
  clear hbk hPw hDw hK9
  have hP : ms (dC, dI) vwCl A [cel gp (.inr (9, [.ref ob, .null, .int 0, .int 0, .int 0, .int 1, .int 0, .ref q0, .ref q1, .ref q2, .ref q3, .null, .null, .null, .null, .null, .int 0, .null, .int 0, .null, .null, .null, .null, .null, .null])), (fun q e => TW cy K (some s0) St0 K0 τ q e ∨ oW ob (K 0 0) (Lt 0 0) q e), (TW cy Lt none St0 K0 TZ), cel q0 (arQ (cy 8) 24 (fun _ => none)), cel q1 (.inl (cy 0, 24, .inl (fun _ => 0))), cel q2 (.inl (cy 0, 24, .inl (fun _ => 0))), cel q3 (.inl (cy 0, 24, .inl (fun _ => 0)))] H := hP.sel [0, 1, 2, 3, 4, 5, 6] rfl (by decide)
  obtain ⟨ws9, k9, hPw, hDw, hk9, -, hbk⟩ := hP.cutc 0 rfl
  refine va_putF (D := (dC, dI)) (ci := 9) (v := .ref q4) (ty := (.array .boolean)) (C := RX9) (T := TX9) (N := 25) hx hb hts tl_X9 tyX9 tyX9_ok nmX9 hown hK hPw hDw hS k9 hk9 rfl 11 (by decide) (hts _ tw_948) (fun _ h9 => h9) rfl hin rfl (by decide +kernel) rfl rfl (Nat.le_of_ble_eq_true rfl) dX9_init_58 (fun H locs hPw hDw hS => ?_)
  have hP : ms (dC, dI) vwCl A [cel gp (.inr (9, [.ref ob, .null, .int 0, .int 0, .int 0, .int 1, .int 0, .ref q0, .ref q1, .ref q2, .ref q3, .ref q4, .null, .null, .null, .null, .int 0, .null, .int 0, .null, .null, .null, .null, .null, .null])), (fun q e => TW cy K (some s0) St0 K0 τ q e ∨ oW ob (K 0 0) (Lt 0 0) q e), (TW cy Lt none St0 K0 TZ), cel q0 (arQ (cy 8) 24 (fun _ => none)), cel q1 (.inl (cy 0, 24, .inl (fun _ => 0))), cel q2 (.inl (cy 0, 24, .inl (fun _ => 0))), cel q3 (.inl (cy 0, 24, .inl (fun _ => 0)))] H := hbk _ _ hPw hDw
  clear hbk hPw hDw hk9
  refine lv_aload_n hx hb dX9_init_61 rfl (lv_at hl 0 rfl) ?_
  refine lv_bipush (v := 24) hx hb dX9_init_62 (by decide) ?_
  refine lv_iconst (v := 0) hx hb dX9_init_64 (by decide) ?_
  obtain ⟨ws9, hPw, hDw, hbk⟩ := hP.pushL
  have hP9 : va_P (dC, dI) vwCl (ws9 ++ va_pl [] (fun _ => .inr (0, []))) H := by simpa [va_pl] using hPw
  have hD9 : va_D A (ws9 ++ va_pl [] (fun _ => .inr (0, []))) := by simpa [va_pl] using hDw
  refine va_mna hx hb (own := RX9) (ty := .int) (cy := cy 0) (N' := 24) (K' := 0) (z := (0, .inl (fun _ => 0))) hown (by rw [k_s2I]; exact hts _ tw_930) (hE.2.2.2 _ (List.mem_of_getElem? (i := 0) rfl)) (hts _ tw_623) (k_fcI hK) hK hP9 hD9 hS hA (by decide) (by decide) (by decide) (by decide) (Nat.le_of_ble_eq_true rfl) (Nat.le_of_ble_eq_true rfl) (Nat.le_of_ble_eq_true rfl) rfl rfl (by show 0 + 1 + 1696 + 1 + 1 + 1 + 1 + 1 + (1 + 24) ≤ 2209; omega) (by show 0 + 2 + 21774 + 24 + 24 + 24 + 24 + 24 + (24 + 24 * 0) ≤ 23298; omega) (fun _ => rfl) dX9_init_65 (fun q5 r9 k9 H hri _ hK9 hPw hDw hS => ?_)
  obtain rfl : k9 = cy 8 := tp_one hK9 11 8 rfl rfl
  rw [k_rows] at hPw hDw
  have hP : ms (dC, dI) vwCl A [cel gp (.inr (9, [.ref ob, .null, .int 0, .int 0, .int 0, .int 1, .int 0, .ref q0, .ref q1, .ref q2, .ref q3, .ref q4, .null, .null, .null, .null, .int 0, .null, .int 0, .null, .null, .null, .null, .null, .null])), (fun q e => TW cy K (some s0) St0 K0 τ q e ∨ oW ob (K 0 0) (Lt 0 0) q e), (TW cy Lt none St0 K0 TZ), cel q0 (arQ (cy 8) 24 (fun _ => none)), cel q1 (.inl (cy 0, 24, .inl (fun _ => 0))), cel q2 (.inl (cy 0, 24, .inl (fun _ => 0))), cel q3 (.inl (cy 0, 24, .inl (fun _ => 0))), cw [(q5, arQ (cy 8) 24 (fun i => if i < 24 then some (r9 i) else none))], cw (va_pl ((List.range 24).map r9) (fun _ => .inl (cy 0, 0, .inl (fun _ => 0))))] H := hbk [(q5, arQ (cy 8) 24 (fun i => if i < 24 then some (r9 i) else none))] (va_pl ((List.range 24).map r9) (fun _ => .inl (cy 0, 0, .inl (fun _ => 0)))) _ hPw hDw
  clear hbk hPw hDw hP9 hD9 hK9
  have hP : ms (dC, dI) vwCl A [cel gp (.inr (9, [.ref ob, .null, .int 0, .int 0, .int 0, .int 1, .int 0, .ref q0, .ref q1, .ref q2, .ref q3, .ref q4, .null, .null, .null, .null, .int 0, .null, .int 0, .null, .null, .null, .null, .null, .null])), (fun q e => TW cy K (some s0) St0 K0 τ q e ∨ oW ob (K 0 0) (Lt 0 0) q e), (TW cy Lt none St0 K0 TZ), cel q0 (arQ (cy 8) 24 (fun _ => none)), cel q1 (.inl (cy 0, 24, .inl (fun _ => 0))), cel q2 (.inl (cy 0, 24, .inl (fun _ => 0))), cel q3 (.inl (cy 0, 24, .inl (fun _ => 0))), cw [(q5, arQ (cy 8) 24 (fun i => if i < 24 then some (r9 i) else none))]] H := hP.sel [0, 1, 2, 3, 4, 5, 6, 7] rfl (by decide)
  have hP : ms (dC, dI) vwCl A [cel gp (.inr (9, [.ref ob, .null, .int 0, .int 0, .int 0, .int 1, .int 0, .ref q0, .ref q1, .ref q2, .ref q3, .ref q4, .null, .null, .null, .null, .int 0, .null, .int 0, .null, .null, .null, .null, .null, .null])), (fun q e => TW cy K (some s0) St0 K0 τ q e ∨ oW ob (K 0 0) (Lt 0 0) q e), (TW cy Lt none St0 K0 TZ), cel q0 (arQ (cy 8) 24 (fun _ => none)), cel q1 (.inl (cy 0, 24, .inl (fun _ => 0))), cel q2 (.inl (cy 0, 24, .inl (fun _ => 0))), cel q3 (.inl (cy 0, 24, .inl (fun _ => 0)))] H := hP.sel [0, 1, 2, 3, 4, 5, 6] rfl (by decide)
  obtain ⟨ws9, k9, hPw, hDw, hk9, -, hbk⟩ := hP.cutc 0 rfl
  refine va_putF (D := (dC, dI)) (ci := 9) (v := .ref q5) (ty := (.array (.array .int))) (C := RX9) (T := TX9) (N := 25) hx hb hts tl_X9 tyX9 tyX9_ok nmX9 hown hK hPw hDw hS k9 hk9 rfl 12 (by decide) (hts _ tw_949) (fun _ h9 => h9) rfl hin rfl (by decide +kernel) rfl rfl (Nat.le_of_ble_eq_true rfl) dX9_init_69 (fun H locs hPw hDw hS => ?_)
  have hP : ms (dC, dI) vwCl A [cel gp (.inr (9, [.ref ob, .null, .int 0, .int 0, .int 0, .int 1, .int 0, .ref q0, .ref q1, .ref q2, .ref q3, .ref q4, .ref q5, .null, .null, .null, .int 0, .null, .int 0, .null, .null, .null, .null, .null, .null])), (fun q e => TW cy K (some s0) St0 K0 τ q e ∨ oW ob (K 0 0) (Lt 0 0) q e), (TW cy Lt none St0 K0 TZ), cel q0 (arQ (cy 8) 24 (fun _ => none)), cel q1 (.inl (cy 0, 24, .inl (fun _ => 0))), cel q2 (.inl (cy 0, 24, .inl (fun _ => 0))), cel q3 (.inl (cy 0, 24, .inl (fun _ => 0)))] H := hbk _ _ hPw hDw
  clear hbk hPw hDw hk9
  refine lv_aload_n hx hb dX9_init_72 rfl (lv_at hl 0 rfl) ?_
  refine lv_bipush (v := 12) hx hb dX9_init_73 (by decide) ?_
  refine lv_iconst (v := 0) hx hb dX9_init_75 (by decide) ?_
  obtain ⟨ws9, hPw, hDw, hbk⟩ := hP.pushL
  have hP9 : va_P (dC, dI) vwCl (ws9 ++ va_pl [] (fun _ => .inr (0, []))) H := by simpa [va_pl] using hPw
  have hD9 : va_D A (ws9 ++ va_pl [] (fun _ => .inr (0, []))) := by simpa [va_pl] using hDw
  refine va_mna hx hb (own := RX9) (ty := .int) (cy := cy 0) (N' := 12) (K' := 0) (z := (0, .inl (fun _ => 0))) hown (by rw [k_s2I]; exact hts _ tw_930) (hE.2.2.2 _ (List.mem_of_getElem? (i := 0) rfl)) (hts _ tw_623) (k_fcI hK) hK hP9 hD9 hS hA (by decide) (by decide) (by decide) (by decide) (Nat.le_of_ble_eq_true rfl) (Nat.le_of_ble_eq_true rfl) (Nat.le_of_ble_eq_true rfl) rfl rfl (by show 0 + 1 + 1696 + 1 + 1 + 1 + 1 + 1 + 1 + 24 + (1 + 12) ≤ 2209; omega) (by show 0 + 2 + 21774 + 24 + 24 + 24 + 24 + 24 + 24 + 24 * 0 + (12 + 12 * 0) ≤ 23298; omega) (fun _ => rfl) dX9_init_76 (fun q6 r9 k9 H hri _ hK9 hPw hDw hS => ?_)
  obtain rfl : k9 = cy 8 := tp_one hK9 11 8 rfl rfl
  rw [k_rows] at hPw hDw
  have hP : ms (dC, dI) vwCl A [cel gp (.inr (9, [.ref ob, .null, .int 0, .int 0, .int 0, .int 1, .int 0, .ref q0, .ref q1, .ref q2, .ref q3, .ref q4, .ref q5, .null, .null, .null, .int 0, .null, .int 0, .null, .null, .null, .null, .null, .null])), (fun q e => TW cy K (some s0) St0 K0 τ q e ∨ oW ob (K 0 0) (Lt 0 0) q e), (TW cy Lt none St0 K0 TZ), cel q0 (arQ (cy 8) 24 (fun _ => none)), cel q1 (.inl (cy 0, 24, .inl (fun _ => 0))), cel q2 (.inl (cy 0, 24, .inl (fun _ => 0))), cel q3 (.inl (cy 0, 24, .inl (fun _ => 0))), cw [(q6, arQ (cy 8) 12 (fun i => if i < 12 then some (r9 i) else none))], cw (va_pl ((List.range 12).map r9) (fun _ => .inl (cy 0, 0, .inl (fun _ => 0))))] H := hbk [(q6, arQ (cy 8) 12 (fun i => if i < 12 then some (r9 i) else none))] (va_pl ((List.range 12).map r9) (fun _ => .inl (cy 0, 0, .inl (fun _ => 0)))) _ hPw hDw
  clear hbk hPw hDw hP9 hD9 hK9
  have hP : ms (dC, dI) vwCl A [cel gp (.inr (9, [.ref ob, .null, .int 0, .int 0, .int 0, .int 1, .int 0, .ref q0, .ref q1, .ref q2, .ref q3, .ref q4, .ref q5, .null, .null, .null, .int 0, .null, .int 0, .null, .null, .null, .null, .null, .null])), (fun q e => TW cy K (some s0) St0 K0 τ q e ∨ oW ob (K 0 0) (Lt 0 0) q e), (TW cy Lt none St0 K0 TZ), cel q0 (arQ (cy 8) 24 (fun _ => none)), cel q1 (.inl (cy 0, 24, .inl (fun _ => 0))), cel q2 (.inl (cy 0, 24, .inl (fun _ => 0))), cel q3 (.inl (cy 0, 24, .inl (fun _ => 0))), cw [(q6, arQ (cy 8) 12 (fun i => if i < 12 then some (r9 i) else none))]] H := hP.sel [0, 1, 2, 3, 4, 5, 6, 7] rfl (by decide)
  have hP : ms (dC, dI) vwCl A [cel gp (.inr (9, [.ref ob, .null, .int 0, .int 0, .int 0, .int 1, .int 0, .ref q0, .ref q1, .ref q2, .ref q3, .ref q4, .ref q5, .null, .null, .null, .int 0, .null, .int 0, .null, .null, .null, .null, .null, .null])), (fun q e => TW cy K (some s0) St0 K0 τ q e ∨ oW ob (K 0 0) (Lt 0 0) q e), (TW cy Lt none St0 K0 TZ), cel q0 (arQ (cy 8) 24 (fun _ => none)), cel q1 (.inl (cy 0, 24, .inl (fun _ => 0))), cel q2 (.inl (cy 0, 24, .inl (fun _ => 0))), cel q3 (.inl (cy 0, 24, .inl (fun _ => 0)))] H := hP.sel [0, 1, 2, 3, 4, 5, 6] rfl (by decide)
  obtain ⟨ws9, k9, hPw, hDw, hk9, -, hbk⟩ := hP.cutc 0 rfl
  refine va_putF (D := (dC, dI)) (ci := 9) (v := .ref q6) (ty := (.array (.array .int))) (C := RX9) (T := TX9) (N := 25) hx hb hts tl_X9 tyX9 tyX9_ok nmX9 hown hK hPw hDw hS k9 hk9 rfl 13 (by decide) (hts _ tw_950) (fun _ h9 => h9) rfl hin rfl (by decide +kernel) rfl rfl (Nat.le_of_ble_eq_true rfl) dX9_init_80 (fun H locs hPw hDw hS => ?_)
  have hP : ms (dC, dI) vwCl A [cel gp (.inr (9, [.ref ob, .null, .int 0, .int 0, .int 0, .int 1, .int 0, .ref q0, .ref q1, .ref q2, .ref q3, .ref q4, .ref q5, .ref q6, .null, .null, .int 0, .null, .int 0, .null, .null, .null, .null, .null, .null])), (fun q e => TW cy K (some s0) St0 K0 τ q e ∨ oW ob (K 0 0) (Lt 0 0) q e), (TW cy Lt none St0 K0 TZ), cel q0 (arQ (cy 8) 24 (fun _ => none)), cel q1 (.inl (cy 0, 24, .inl (fun _ => 0))), cel q2 (.inl (cy 0, 24, .inl (fun _ => 0))), cel q3 (.inl (cy 0, 24, .inl (fun _ => 0)))] H := hbk _ _ hPw hDw
  clear hbk hPw hDw hk9
  refine lv_aload_n hx hb dX9_init_83 rfl (lv_at hl 0 rfl) ?_
  refine lv_bipush (v := 24) hx hb dX9_init_84 (by decide) ?_
  refine lv_iconst (v := 4) hx hb dX9_init_86 (by decide) ?_
  obtain ⟨ws9, hPw, hDw, hbk⟩ := hP.pushL
  have hP9 : va_P (dC, dI) vwCl (ws9 ++ va_pl [] (fun _ => .inr (0, []))) H := by simpa [va_pl] using hPw
  have hD9 : va_D A (ws9 ++ va_pl [] (fun _ => .inr (0, []))) := by simpa [va_pl] using hDw
  refine va_mna hx hb (own := RX9) (ty := .int) (cy := cy 0) (N' := 24) (K' := 4) (z := (4, .inl (fun _ => 0))) hown (by rw [k_s2I]; exact hts _ tw_930) (hE.2.2.2 _ (List.mem_of_getElem? (i := 0) rfl)) (hts _ tw_623) (k_fcI hK) hK hP9 hD9 hS hA (by decide) (by decide) (by decide) (by decide) (Nat.le_of_ble_eq_true rfl) (Nat.le_of_ble_eq_true rfl) (Nat.le_of_ble_eq_true rfl) rfl rfl (by show 0 + 1 + 1696 + 1 + 1 + 1 + 1 + 1 + 1 + 24 + 1 + 12 + (1 + 24) ≤ 2209; omega) (by show 0 + 2 + 21774 + 24 + 24 + 24 + 24 + 24 + 24 + 24 * 0 + 12 + 12 * 0 + (24 + 24 * 4) ≤ 23298; omega) (fun _ => rfl) dX9_init_87 (fun q7 r9 k9 H hri _ hK9 hPw hDw hS => ?_)
  obtain rfl : k9 = cy 8 := tp_one hK9 11 8 rfl rfl
  rw [k_rows] at hPw hDw
  have hP : ms (dC, dI) vwCl A [cel gp (.inr (9, [.ref ob, .null, .int 0, .int 0, .int 0, .int 1, .int 0, .ref q0, .ref q1, .ref q2, .ref q3, .ref q4, .ref q5, .ref q6, .null, .null, .int 0, .null, .int 0, .null, .null, .null, .null, .null, .null])), (fun q e => TW cy K (some s0) St0 K0 τ q e ∨ oW ob (K 0 0) (Lt 0 0) q e), (TW cy Lt none St0 K0 TZ), cel q0 (arQ (cy 8) 24 (fun _ => none)), cel q1 (.inl (cy 0, 24, .inl (fun _ => 0))), cel q2 (.inl (cy 0, 24, .inl (fun _ => 0))), cel q3 (.inl (cy 0, 24, .inl (fun _ => 0))), cw [(q7, arQ (cy 8) 24 (fun i => if i < 24 then some (r9 i) else none))], cw (va_pl ((List.range 24).map r9) (fun _ => .inl (cy 0, 4, .inl (fun _ => 0))))] H := hbk [(q7, arQ (cy 8) 24 (fun i => if i < 24 then some (r9 i) else none))] (va_pl ((List.range 24).map r9) (fun _ => .inl (cy 0, 4, .inl (fun _ => 0)))) _ hPw hDw
  clear hbk hPw hDw hP9 hD9 hK9
  have hP : ms (dC, dI) vwCl A [cel gp (.inr (9, [.ref ob, .null, .int 0, .int 0, .int 0, .int 1, .int 0, .ref q0, .ref q1, .ref q2, .ref q3, .ref q4, .ref q5, .ref q6, .null, .null, .int 0, .null, .int 0, .null, .null, .null, .null, .null, .null])), (fun q e => TW cy K (some s0) St0 K0 τ q e ∨ oW ob (K 0 0) (Lt 0 0) q e), (TW cy Lt none St0 K0 TZ), cel q0 (arQ (cy 8) 24 (fun _ => none)), cel q1 (.inl (cy 0, 24, .inl (fun _ => 0))), cel q2 (.inl (cy 0, 24, .inl (fun _ => 0))), cel q3 (.inl (cy 0, 24, .inl (fun _ => 0))), cw [(q7, arQ (cy 8) 24 (fun i => if i < 24 then some (r9 i) else none))]] H := hP.sel [0, 1, 2, 3, 4, 5, 6, 7] rfl (by decide)
  have hP : ms (dC, dI) vwCl A [cel gp (.inr (9, [.ref ob, .null, .int 0, .int 0, .int 0, .int 1, .int 0, .ref q0, .ref q1, .ref q2, .ref q3, .ref q4, .ref q5, .ref q6, .null, .null, .int 0, .null, .int 0, .null, .null, .null, .null, .null, .null])), (fun q e => TW cy K (some s0) St0 K0 τ q e ∨ oW ob (K 0 0) (Lt 0 0) q e), (TW cy Lt none St0 K0 TZ), cel q0 (arQ (cy 8) 24 (fun _ => none)), cel q1 (.inl (cy 0, 24, .inl (fun _ => 0))), cel q2 (.inl (cy 0, 24, .inl (fun _ => 0))), cel q3 (.inl (cy 0, 24, .inl (fun _ => 0)))] H := hP.sel [0, 1, 2, 3, 4, 5, 6] rfl (by decide)
  obtain ⟨ws9, k9, hPw, hDw, hk9, -, hbk⟩ := hP.cutc 0 rfl
  refine va_putF (D := (dC, dI)) (ci := 9) (v := .ref q7) (ty := (.array (.array .int))) (C := RX9) (T := TX9) (N := 25) hx hb hts tl_X9 tyX9 tyX9_ok nmX9 hown hK hPw hDw hS k9 hk9 rfl 14 (by decide) (hts _ tw_951) (fun _ h9 => h9) rfl hin rfl (by decide +kernel) rfl rfl (Nat.le_of_ble_eq_true rfl) dX9_init_91 (fun H locs hPw hDw hS => ?_)
  have hP : ms (dC, dI) vwCl A [cel gp (.inr (9, [.ref ob, .null, .int 0, .int 0, .int 0, .int 1, .int 0, .ref q0, .ref q1, .ref q2, .ref q3, .ref q4, .ref q5, .ref q6, .ref q7, .null, .int 0, .null, .int 0, .null, .null, .null, .null, .null, .null])), (fun q e => TW cy K (some s0) St0 K0 τ q e ∨ oW ob (K 0 0) (Lt 0 0) q e), (TW cy Lt none St0 K0 TZ), cel q0 (arQ (cy 8) 24 (fun _ => none)), cel q1 (.inl (cy 0, 24, .inl (fun _ => 0))), cel q2 (.inl (cy 0, 24, .inl (fun _ => 0))), cel q3 (.inl (cy 0, 24, .inl (fun _ => 0)))] H := hbk _ _ hPw hDw
  clear hbk hPw hDw hk9
  refine lv_aload_n hx hb dX9_init_94 rfl (lv_at hl 0 rfl) ?_
  refine lv_bipush (v := 24) hx hb dX9_init_95 (by decide) ?_
  refine lv_bipush (v := 24) hx hb dX9_init_97 (by decide) ?_
  obtain ⟨ws9, hPw, hDw, hbk⟩ := hP.pushL
  have hP9 : va_P (dC, dI) vwCl (ws9 ++ va_pl [] (fun _ => .inr (0, []))) H := by simpa [va_pl] using hPw
  have hD9 : va_D A (ws9 ++ va_pl [] (fun _ => .inr (0, []))) := by simpa [va_pl] using hDw
  refine va_mna hx hb (own := RX9) (ty := .int) (cy := cy 0) (N' := 24) (K' := 24) (z := (24, .inl (fun _ => 0))) hown (by rw [k_s2I]; exact hts _ tw_930) (hE.2.2.2 _ (List.mem_of_getElem? (i := 0) rfl)) (hts _ tw_623) (k_fcI hK) hK hP9 hD9 hS hA (by decide) (by decide) (by decide) (by decide) (Nat.le_of_ble_eq_true rfl) (Nat.le_of_ble_eq_true rfl) (Nat.le_of_ble_eq_true rfl) rfl rfl (by show 0 + 1 + 1696 + 1 + 1 + 1 + 1 + 1 + 1 + 24 + 1 + 12 + 1 + 24 + (1 + 24) ≤ 2209; omega) (by show 0 + 2 + 21774 + 24 + 24 + 24 + 24 + 24 + 24 + 24 * 0 + 12 + 12 * 0 + 24 + 24 * 4 + (24 + 24 * 24) ≤ 23298; omega) (fun _ => rfl) dX9_init_99 (fun q8 r9 k9 H hri _ hK9 hPw hDw hS => ?_)
  obtain rfl : k9 = cy 8 := tp_one hK9 11 8 rfl rfl
  rw [k_rows] at hPw hDw
  have hP : ms (dC, dI) vwCl A [cel gp (.inr (9, [.ref ob, .null, .int 0, .int 0, .int 0, .int 1, .int 0, .ref q0, .ref q1, .ref q2, .ref q3, .ref q4, .ref q5, .ref q6, .ref q7, .null, .int 0, .null, .int 0, .null, .null, .null, .null, .null, .null])), (fun q e => TW cy K (some s0) St0 K0 τ q e ∨ oW ob (K 0 0) (Lt 0 0) q e), (TW cy Lt none St0 K0 TZ), cel q0 (arQ (cy 8) 24 (fun _ => none)), cel q1 (.inl (cy 0, 24, .inl (fun _ => 0))), cel q2 (.inl (cy 0, 24, .inl (fun _ => 0))), cel q3 (.inl (cy 0, 24, .inl (fun _ => 0))), cw [(q8, arQ (cy 8) 24 (fun i => if i < 24 then some (r9 i) else none))], cw (va_pl ((List.range 24).map r9) (fun _ => .inl (cy 0, 24, .inl (fun _ => 0))))] H := hbk [(q8, arQ (cy 8) 24 (fun i => if i < 24 then some (r9 i) else none))] (va_pl ((List.range 24).map r9) (fun _ => .inl (cy 0, 24, .inl (fun _ => 0)))) _ hPw hDw
  clear hbk hPw hDw hP9 hD9 hK9
  have hP : ms (dC, dI) vwCl A [cel gp (.inr (9, [.ref ob, .null, .int 0, .int 0, .int 0, .int 1, .int 0, .ref q0, .ref q1, .ref q2, .ref q3, .ref q4, .ref q5, .ref q6, .ref q7, .null, .int 0, .null, .int 0, .null, .null, .null, .null, .null, .null])), (fun q e => TW cy K (some s0) St0 K0 τ q e ∨ oW ob (K 0 0) (Lt 0 0) q e), (TW cy Lt none St0 K0 TZ), cel q0 (arQ (cy 8) 24 (fun _ => none)), cel q1 (.inl (cy 0, 24, .inl (fun _ => 0))), cel q2 (.inl (cy 0, 24, .inl (fun _ => 0))), cel q3 (.inl (cy 0, 24, .inl (fun _ => 0))), cw [(q8, arQ (cy 8) 24 (fun i => if i < 24 then some (r9 i) else none))]] H := hP.sel [0, 1, 2, 3, 4, 5, 6, 7] rfl (by decide)
  have hP : ms (dC, dI) vwCl A [cel gp (.inr (9, [.ref ob, .null, .int 0, .int 0, .int 0, .int 1, .int 0, .ref q0, .ref q1, .ref q2, .ref q3, .ref q4, .ref q5, .ref q6, .ref q7, .null, .int 0, .null, .int 0, .null, .null, .null, .null, .null, .null])), (fun q e => TW cy K (some s0) St0 K0 τ q e ∨ oW ob (K 0 0) (Lt 0 0) q e), (TW cy Lt none St0 K0 TZ), cel q0 (arQ (cy 8) 24 (fun _ => none)), cel q1 (.inl (cy 0, 24, .inl (fun _ => 0))), cel q2 (.inl (cy 0, 24, .inl (fun _ => 0))), cel q3 (.inl (cy 0, 24, .inl (fun _ => 0)))] H := hP.sel [0, 1, 2, 3, 4, 5, 6] rfl (by decide)
  obtain ⟨ws9, k9, hPw, hDw, hk9, -, hbk⟩ := hP.cutc 0 rfl
  refine va_putF (D := (dC, dI)) (ci := 9) (v := .ref q8) (ty := (.array (.array .int))) (C := RX9) (T := TX9) (N := 25) hx hb hts tl_X9 tyX9 tyX9_ok nmX9 hown hK hPw hDw hS k9 hk9 rfl 15 (by decide) (hts _ tw_952) (fun _ h9 => h9) rfl hin rfl (by decide +kernel) rfl rfl (Nat.le_of_ble_eq_true rfl) dX9_init_103 (fun H locs hPw hDw hS => ?_)
  have hP : ms (dC, dI) vwCl A [cel gp (.inr (9, [.ref ob, .null, .int 0, .int 0, .int 0, .int 1, .int 0, .ref q0, .ref q1, .ref q2, .ref q3, .ref q4, .ref q5, .ref q6, .ref q7, .ref q8, .int 0, .null, .int 0, .null, .null, .null, .null, .null, .null])), (fun q e => TW cy K (some s0) St0 K0 τ q e ∨ oW ob (K 0 0) (Lt 0 0) q e), (TW cy Lt none St0 K0 TZ), cel q0 (arQ (cy 8) 24 (fun _ => none)), cel q1 (.inl (cy 0, 24, .inl (fun _ => 0))), cel q2 (.inl (cy 0, 24, .inl (fun _ => 0))), cel q3 (.inl (cy 0, 24, .inl (fun _ => 0)))] H := hbk _ _ hPw hDw
  clear hbk hPw hDw hk9
  refine lv_aload_n hx hb dX9_init_106 rfl (lv_at hl 0 rfl) ?_
  refine lv_bipush (v := 10) hx hb dX9_init_107 (by decide) ?_
  obtain ⟨ws9, hPw, hDw, -, hbk⟩ := hP.push
  refine m_newqA hx hb (ty := .int) (N' := 10) hown (by rw [k_s1I]; exact hts _ tw_929) (hE.2.2.2 _ (List.mem_of_getElem? (i := 0) rfl)) hK hPw hDw hS hA (by decide) (by decide) (Nat.le_of_ble_eq_true rfl) (by show 0 + 1 + 1696 + 1 + 1 + 1 + 1 + 1 + 1 + 24 + 1 + 12 + 1 + 24 + 1 + 24 + 1 ≤ 2209; omega) (by show 0 + 2 + 21774 + 24 + 24 + 24 + 24 + 24 + 24 + 24 * 0 + 12 + 12 * 0 + 24 + 24 * 4 + 24 + 24 * 24 + 10 ≤ 23298; omega) dX9_init_109 (fun q9 k9 H hK9 hPw hDw hS => ?_)
  obtain rfl : k9 = cy 8 := tp_one hK9 11 8 rfl rfl
  have hP : ms (dC, dI) vwCl A [cel gp (.inr (9, [.ref ob, .null, .int 0, .int 0, .int 0, .int 1, .int 0, .ref q0, .ref q1, .ref q2, .ref q3, .ref q4, .ref q5, .ref q6, .ref q7, .ref q8, .int 0, .null, .int 0, .null, .null, .null, .null, .null, .null])), (fun q e => TW cy K (some s0) St0 K0 τ q e ∨ oW ob (K 0 0) (Lt 0 0) q e), (TW cy Lt none St0 K0 TZ), cel q0 (arQ (cy 8) 24 (fun _ => none)), cel q1 (.inl (cy 0, 24, .inl (fun _ => 0))), cel q2 (.inl (cy 0, 24, .inl (fun _ => 0))), cel q3 (.inl (cy 0, 24, .inl (fun _ => 0))), cel q9 (arQ (cy 8) 10 (fun _ => none))] H := hbk _ _ _ hPw hDw
  clear hbk hPw hDw hK9
  obtain ⟨ws9, k9, hPw, hDw, hk9, -, hbk⟩ := hP.cutc 0 rfl
  refine va_putF (D := (dC, dI)) (ci := 9) (v := .ref q9) (ty := (.array (.array .int))) (C := RX9) (T := TX9) (N := 25) hx hb hts tl_X9 tyX9 tyX9_ok nmX9 hown hK hPw hDw hS k9 hk9 rfl 17 (by decide) (hts _ tw_955) (fun _ h9 => h9) rfl hin rfl (by decide +kernel) rfl rfl (Nat.le_of_ble_eq_true rfl) dX9_init_112 (fun H locs hPw hDw hS => ?_)
  have hP : ms (dC, dI) vwCl A [cel gp (.inr (9, [.ref ob, .null, .int 0, .int 0, .int 0, .int 1, .int 0, .ref q0, .ref q1, .ref q2, .ref q3, .ref q4, .ref q5, .ref q6, .ref q7, .ref q8, .int 0, .ref q9, .int 0, .null, .null, .null, .null, .null, .null])), (fun q e => TW cy K (some s0) St0 K0 τ q e ∨ oW ob (K 0 0) (Lt 0 0) q e), (TW cy Lt none St0 K0 TZ), cel q0 (arQ (cy 8) 24 (fun _ => none)), cel q1 (.inl (cy 0, 24, .inl (fun _ => 0))), cel q2 (.inl (cy 0, 24, .inl (fun _ => 0))), cel q3 (.inl (cy 0, 24, .inl (fun _ => 0))), cel q9 (arQ (cy 8) 10 (fun _ => none))] H := hbk _ _ hPw hDw
  clear hbk hPw hDw hk9
  refine lv_aload_n hx hb dX9_init_115 rfl (lv_at hl 0 rfl) ?_
  refine lv_sipush (v := 200) hx hb dX9_init_116 (by decide) ?_
  obtain ⟨ws9, hPw, hDw, -, hbk⟩ := hP.push
  refine m_newqA hx hb (ty := .int) (N' := 200) hown (by rw [k_s1I]; exact hts _ tw_929) (hE.2.2.2 _ (List.mem_of_getElem? (i := 0) rfl)) hK hPw hDw hS hA (by decide) (by decide) (Nat.le_of_ble_eq_true rfl) (by show 0 + 1 + 1696 + 1 + 1 + 1 + 1 + 1 + 1 + 24 + 1 + 12 + 1 + 24 + 1 + 24 + 1 + 1 ≤ 2209; omega) (by show 0 + 2 + 21774 + 24 + 24 + 24 + 24 + 24 + 24 + 24 * 0 + 12 + 12 * 0 + 24 + 24 * 4 + 24 + 24 * 24 + 10 + 200 ≤ 23298; omega) dX9_init_119 (fun q10 k9 H hK9 hPw hDw hS => ?_)
  obtain rfl : k9 = cy 8 := tp_one hK9 11 8 rfl rfl
  have hP : ms (dC, dI) vwCl A [cel gp (.inr (9, [.ref ob, .null, .int 0, .int 0, .int 0, .int 1, .int 0, .ref q0, .ref q1, .ref q2, .ref q3, .ref q4, .ref q5, .ref q6, .ref q7, .ref q8, .int 0, .ref q9, .int 0, .null, .null, .null, .null, .null, .null])), (fun q e => TW cy K (some s0) St0 K0 τ q e ∨ oW ob (K 0 0) (Lt 0 0) q e), (TW cy Lt none St0 K0 TZ), cel q0 (arQ (cy 8) 24 (fun _ => none)), cel q1 (.inl (cy 0, 24, .inl (fun _ => 0))), cel q2 (.inl (cy 0, 24, .inl (fun _ => 0))), cel q3 (.inl (cy 0, 24, .inl (fun _ => 0))), cel q9 (arQ (cy 8) 10 (fun _ => none)), cel q10 (arQ (cy 8) 200 (fun _ => none))] H := hbk _ _ _ hPw hDw
  clear hbk hPw hDw hK9
  have hP : ms (dC, dI) vwCl A [cel gp (.inr (9, [.ref ob, .null, .int 0, .int 0, .int 0, .int 1, .int 0, .ref q0, .ref q1, .ref q2, .ref q3, .ref q4, .ref q5, .ref q6, .ref q7, .ref q8, .int 0, .ref q9, .int 0, .null, .null, .null, .null, .null, .null])), (fun q e => TW cy K (some s0) St0 K0 τ q e ∨ oW ob (K 0 0) (Lt 0 0) q e), (TW cy Lt none St0 K0 TZ), cel q0 (arQ (cy 8) 24 (fun _ => none)), cel q1 (.inl (cy 0, 24, .inl (fun _ => 0))), cel q2 (.inl (cy 0, 24, .inl (fun _ => 0))), cel q3 (.inl (cy 0, 24, .inl (fun _ => 0))), cel q9 (arQ (cy 8) 10 (fun _ => none))] H := hP.sel [0, 1, 2, 3, 4, 5, 6, 7] rfl (by decide)
  obtain ⟨ws9, k9, hPw, hDw, hk9, -, hbk⟩ := hP.cutc 0 rfl
  refine va_putF (D := (dC, dI)) (ci := 9) (v := .ref q10) (ty := (.array (.array .int))) (C := RX9) (T := TX9) (N := 25) hx hb hts tl_X9 tyX9 tyX9_ok nmX9 hown hK hPw hDw hS k9 hk9 rfl 19 (by decide) (hts _ tw_957) (fun _ h9 => h9) rfl hin rfl (by decide +kernel) rfl rfl (Nat.le_of_ble_eq_true rfl) dX9_init_122 (fun H locs hPw hDw hS => ?_)
  have hP : ms (dC, dI) vwCl A [cel gp (.inr (9, [.ref ob, .null, .int 0, .int 0, .int 0, .int 1, .int 0, .ref q0, .ref q1, .ref q2, .ref q3, .ref q4, .ref q5, .ref q6, .ref q7, .ref q8, .int 0, .ref q9, .int 0, .ref q10, .null, .null, .null, .null, .null])), (fun q e => TW cy K (some s0) St0 K0 τ q e ∨ oW ob (K 0 0) (Lt 0 0) q e), (TW cy Lt none St0 K0 TZ), cel q0 (arQ (cy 8) 24 (fun _ => none)), cel q1 (.inl (cy 0, 24, .inl (fun _ => 0))), cel q2 (.inl (cy 0, 24, .inl (fun _ => 0))), cel q3 (.inl (cy 0, 24, .inl (fun _ => 0))), cel q9 (arQ (cy 8) 10 (fun _ => none))] H := hbk _ _ hPw hDw
  clear hbk hPw hDw hk9
  refine lv_aload_n hx hb dX9_init_125 rfl (lv_at hl 0 rfl) ?_
  refine lv_sipush (v := 200) hx hb dX9_init_126 (by decide) ?_
  refine lv_iconst (v := 0) hx hb dX9_init_129 (by decide) ?_
  obtain ⟨ws9, hPw, hDw, hbk⟩ := hP.pushL
  have hP9 : va_P (dC, dI) vwCl (ws9 ++ va_pl [] (fun _ => .inr (0, []))) H := by simpa [va_pl] using hPw
  have hD9 : va_D A (ws9 ++ va_pl [] (fun _ => .inr (0, []))) := by simpa [va_pl] using hDw
  refine va_mna hx hb (own := RX9) (ty := .int) (cy := cy 0) (N' := 200) (K' := 0) (z := (0, .inl (fun _ => 0))) hown (by rw [k_s2I]; exact hts _ tw_930) (hE.2.2.2 _ (List.mem_of_getElem? (i := 0) rfl)) (hts _ tw_623) (k_fcI hK) hK hP9 hD9 hS hA (by decide) (by decide) (by decide) (by decide) (Nat.le_of_ble_eq_true rfl) (Nat.le_of_ble_eq_true rfl) (Nat.le_of_ble_eq_true rfl) rfl rfl (by show 0 + 1 + 1696 + 1 + 1 + 1 + 1 + 1 + 1 + 24 + 1 + 12 + 1 + 24 + 1 + 24 + 1 + 1 + (1 + 200) ≤ 2209; omega) (by show 0 + 2 + 21774 + 24 + 24 + 24 + 24 + 24 + 24 + 24 * 0 + 12 + 12 * 0 + 24 + 24 * 4 + 24 + 24 * 24 + 10 + 200 + (200 + 200 * 0) ≤ 23298; omega) (fun _ => rfl) dX9_init_130 (fun q11 r9 k9 H hri _ hK9 hPw hDw hS => ?_)
  obtain rfl : k9 = cy 8 := tp_one hK9 11 8 rfl rfl
  rw [k_rows] at hPw hDw
  have hP : ms (dC, dI) vwCl A [cel gp (.inr (9, [.ref ob, .null, .int 0, .int 0, .int 0, .int 1, .int 0, .ref q0, .ref q1, .ref q2, .ref q3, .ref q4, .ref q5, .ref q6, .ref q7, .ref q8, .int 0, .ref q9, .int 0, .ref q10, .null, .null, .null, .null, .null])), (fun q e => TW cy K (some s0) St0 K0 τ q e ∨ oW ob (K 0 0) (Lt 0 0) q e), (TW cy Lt none St0 K0 TZ), cel q0 (arQ (cy 8) 24 (fun _ => none)), cel q1 (.inl (cy 0, 24, .inl (fun _ => 0))), cel q2 (.inl (cy 0, 24, .inl (fun _ => 0))), cel q3 (.inl (cy 0, 24, .inl (fun _ => 0))), cel q9 (arQ (cy 8) 10 (fun _ => none)), cw [(q11, arQ (cy 8) 200 (fun i => if i < 200 then some (r9 i) else none))], cw (va_pl ((List.range 200).map r9) (fun _ => .inl (cy 0, 0, .inl (fun _ => 0))))] H := hbk [(q11, arQ (cy 8) 200 (fun i => if i < 200 then some (r9 i) else none))] (va_pl ((List.range 200).map r9) (fun _ => .inl (cy 0, 0, .inl (fun _ => 0)))) _ hPw hDw
  clear hbk hPw hDw hP9 hD9 hK9
  have hP : ms (dC, dI) vwCl A [cel gp (.inr (9, [.ref ob, .null, .int 0, .int 0, .int 0, .int 1, .int 0, .ref q0, .ref q1, .ref q2, .ref q3, .ref q4, .ref q5, .ref q6, .ref q7, .ref q8, .int 0, .ref q9, .int 0, .ref q10, .null, .null, .null, .null, .null])), (fun q e => TW cy K (some s0) St0 K0 τ q e ∨ oW ob (K 0 0) (Lt 0 0) q e), (TW cy Lt none St0 K0 TZ), cel q0 (arQ (cy 8) 24 (fun _ => none)), cel q1 (.inl (cy 0, 24, .inl (fun _ => 0))), cel q2 (.inl (cy 0, 24, .inl (fun _ => 0))), cel q3 (.inl (cy 0, 24, .inl (fun _ => 0))), cel q9 (arQ (cy 8) 10 (fun _ => none)), cw [(q11, arQ (cy 8) 200 (fun i => if i < 200 then some (r9 i) else none))]] H := hP.sel [0, 1, 2, 3, 4, 5, 6, 7, 8] rfl (by decide)
  have hP : ms (dC, dI) vwCl A [cel gp (.inr (9, [.ref ob, .null, .int 0, .int 0, .int 0, .int 1, .int 0, .ref q0, .ref q1, .ref q2, .ref q3, .ref q4, .ref q5, .ref q6, .ref q7, .ref q8, .int 0, .ref q9, .int 0, .ref q10, .null, .null, .null, .null, .null])), (fun q e => TW cy K (some s0) St0 K0 τ q e ∨ oW ob (K 0 0) (Lt 0 0) q e), (TW cy Lt none St0 K0 TZ), cel q0 (arQ (cy 8) 24 (fun _ => none)), cel q1 (.inl (cy 0, 24, .inl (fun _ => 0))), cel q2 (.inl (cy 0, 24, .inl (fun _ => 0))), cel q3 (.inl (cy 0, 24, .inl (fun _ => 0))), cel q9 (arQ (cy 8) 10 (fun _ => none))] H := hP.sel [0, 1, 2, 3, 4, 5, 6, 7] rfl (by decide)
  obtain ⟨ws9, k9, hPw, hDw, hk9, -, hbk⟩ := hP.cutc 0 rfl
  refine va_putF (D := (dC, dI)) (ci := 9) (v := .ref q11) (ty := (.array (.array .int))) (C := RX9) (T := TX9) (N := 25) hx hb hts tl_X9 tyX9 tyX9_ok nmX9 hown hK hPw hDw hS k9 hk9 rfl 20 (by decide) (hts _ tw_958) (fun _ h9 => h9) rfl hin rfl (by decide +kernel) rfl rfl (Nat.le_of_ble_eq_true rfl) dX9_init_134 (fun H locs hPw hDw hS => ?_)
  have hP : ms (dC, dI) vwCl A [cel gp (.inr (9, [.ref ob, .null, .int 0, .int 0, .int 0, .int 1, .int 0, .ref q0, .ref q1, .ref q2, .ref q3, .ref q4, .ref q5, .ref q6, .ref q7, .ref q8, .int 0, .ref q9, .int 0, .ref q10, .ref q11, .null, .null, .null, .null])), (fun q e => TW cy K (some s0) St0 K0 τ q e ∨ oW ob (K 0 0) (Lt 0 0) q e), (TW cy Lt none St0 K0 TZ), cel q0 (arQ (cy 8) 24 (fun _ => none)), cel q1 (.inl (cy 0, 24, .inl (fun _ => 0))), cel q2 (.inl (cy 0, 24, .inl (fun _ => 0))), cel q3 (.inl (cy 0, 24, .inl (fun _ => 0))), cel q9 (arQ (cy 8) 10 (fun _ => none))] H := hbk _ _ hPw hDw
  clear hbk hPw hDw hk9
  refine lv_aload_n hx hb dX9_init_137 rfl (lv_at hl 0 rfl) ?_
  refine lv_sipush (v := 200) hx hb dX9_init_138 (by decide) ?_
  refine lv_iconst (v := 0) hx hb dX9_init_141 (by decide) ?_
  obtain ⟨ws9, hPw, hDw, hbk⟩ := hP.pushL
  have hP9 : va_P (dC, dI) vwCl (ws9 ++ va_pl [] (fun _ => .inr (0, []))) H := by simpa [va_pl] using hPw
  have hD9 : va_D A (ws9 ++ va_pl [] (fun _ => .inr (0, []))) := by simpa [va_pl] using hDw
  refine va_mna hx hb (own := RX9) (ty := .int) (cy := cy 0) (N' := 200) (K' := 0) (z := (0, .inl (fun _ => 0))) hown (by rw [k_s2I]; exact hts _ tw_930) (hE.2.2.2 _ (List.mem_of_getElem? (i := 0) rfl)) (hts _ tw_623) (k_fcI hK) hK hP9 hD9 hS hA (by decide) (by decide) (by decide) (by decide) (Nat.le_of_ble_eq_true rfl) (Nat.le_of_ble_eq_true rfl) (Nat.le_of_ble_eq_true rfl) rfl rfl (by show 0 + 1 + 1696 + 1 + 1 + 1 + 1 + 1 + 1 + 24 + 1 + 12 + 1 + 24 + 1 + 24 + 1 + 1 + 1 + 200 + (1 + 200) ≤ 2209; omega) (by show 0 + 2 + 21774 + 24 + 24 + 24 + 24 + 24 + 24 + 24 * 0 + 12 + 12 * 0 + 24 + 24 * 4 + 24 + 24 * 24 + 10 + 200 + 200 + 200 * 0 + (200 + 200 * 0) ≤ 23298; omega) (fun _ => rfl) dX9_init_142 (fun q12 r9 k9 H hri _ hK9 hPw hDw hS => ?_)
  obtain rfl : k9 = cy 8 := tp_one hK9 11 8 rfl rfl
  rw [k_rows] at hPw hDw
  have hP : ms (dC, dI) vwCl A [cel gp (.inr (9, [.ref ob, .null, .int 0, .int 0, .int 0, .int 1, .int 0, .ref q0, .ref q1, .ref q2, .ref q3, .ref q4, .ref q5, .ref q6, .ref q7, .ref q8, .int 0, .ref q9, .int 0, .ref q10, .ref q11, .null, .null, .null, .null])), (fun q e => TW cy K (some s0) St0 K0 τ q e ∨ oW ob (K 0 0) (Lt 0 0) q e), (TW cy Lt none St0 K0 TZ), cel q0 (arQ (cy 8) 24 (fun _ => none)), cel q1 (.inl (cy 0, 24, .inl (fun _ => 0))), cel q2 (.inl (cy 0, 24, .inl (fun _ => 0))), cel q3 (.inl (cy 0, 24, .inl (fun _ => 0))), cel q9 (arQ (cy 8) 10 (fun _ => none)), cw [(q12, arQ (cy 8) 200 (fun i => if i < 200 then some (r9 i) else none))], cw (va_pl ((List.range 200).map r9) (fun _ => .inl (cy 0, 0, .inl (fun _ => 0))))] H := hbk [(q12, arQ (cy 8) 200 (fun i => if i < 200 then some (r9 i) else none))] (va_pl ((List.range 200).map r9) (fun _ => .inl (cy 0, 0, .inl (fun _ => 0)))) _ hPw hDw
  clear hbk hPw hDw hP9 hD9 hK9
  have hP : ms (dC, dI) vwCl A [cel gp (.inr (9, [.ref ob, .null, .int 0, .int 0, .int 0, .int 1, .int 0, .ref q0, .ref q1, .ref q2, .ref q3, .ref q4, .ref q5, .ref q6, .ref q7, .ref q8, .int 0, .ref q9, .int 0, .ref q10, .ref q11, .null, .null, .null, .null])), (fun q e => TW cy K (some s0) St0 K0 τ q e ∨ oW ob (K 0 0) (Lt 0 0) q e), (TW cy Lt none St0 K0 TZ), cel q0 (arQ (cy 8) 24 (fun _ => none)), cel q1 (.inl (cy 0, 24, .inl (fun _ => 0))), cel q2 (.inl (cy 0, 24, .inl (fun _ => 0))), cel q3 (.inl (cy 0, 24, .inl (fun _ => 0))), cel q9 (arQ (cy 8) 10 (fun _ => none)), cw [(q12, arQ (cy 8) 200 (fun i => if i < 200 then some (r9 i) else none))]] H := hP.sel [0, 1, 2, 3, 4, 5, 6, 7, 8] rfl (by decide)
  have hP : ms (dC, dI) vwCl A [cel gp (.inr (9, [.ref ob, .null, .int 0, .int 0, .int 0, .int 1, .int 0, .ref q0, .ref q1, .ref q2, .ref q3, .ref q4, .ref q5, .ref q6, .ref q7, .ref q8, .int 0, .ref q9, .int 0, .ref q10, .ref q11, .null, .null, .null, .null])), (fun q e => TW cy K (some s0) St0 K0 τ q e ∨ oW ob (K 0 0) (Lt 0 0) q e), (TW cy Lt none St0 K0 TZ), cel q0 (arQ (cy 8) 24 (fun _ => none)), cel q1 (.inl (cy 0, 24, .inl (fun _ => 0))), cel q2 (.inl (cy 0, 24, .inl (fun _ => 0))), cel q3 (.inl (cy 0, 24, .inl (fun _ => 0))), cel q9 (arQ (cy 8) 10 (fun _ => none))] H := hP.sel [0, 1, 2, 3, 4, 5, 6, 7] rfl (by decide)
  obtain ⟨ws9, k9, hPw, hDw, hk9, -, hbk⟩ := hP.cutc 0 rfl
  refine va_putF (D := (dC, dI)) (ci := 9) (v := .ref q12) (ty := (.array (.array .int))) (C := RX9) (T := TX9) (N := 25) hx hb hts tl_X9 tyX9 tyX9_ok nmX9 hown hK hPw hDw hS k9 hk9 rfl 21 (by decide) (hts _ tw_959) (fun _ h9 => h9) rfl hin rfl (by decide +kernel) rfl rfl (Nat.le_of_ble_eq_true rfl) dX9_init_146 (fun H locs hPw hDw hS => ?_)
  have hP : ms (dC, dI) vwCl A [cel gp (.inr (9, [.ref ob, .null, .int 0, .int 0, .int 0, .int 1, .int 0, .ref q0, .ref q1, .ref q2, .ref q3, .ref q4, .ref q5, .ref q6, .ref q7, .ref q8, .int 0, .ref q9, .int 0, .ref q10, .ref q11, .ref q12, .null, .null, .null])), (fun q e => TW cy K (some s0) St0 K0 τ q e ∨ oW ob (K 0 0) (Lt 0 0) q e), (TW cy Lt none St0 K0 TZ), cel q0 (arQ (cy 8) 24 (fun _ => none)), cel q1 (.inl (cy 0, 24, .inl (fun _ => 0))), cel q2 (.inl (cy 0, 24, .inl (fun _ => 0))), cel q3 (.inl (cy 0, 24, .inl (fun _ => 0))), cel q9 (arQ (cy 8) 10 (fun _ => none))] H := hbk _ _ hPw hDw
  clear hbk hPw hDw hk9
  refine lv_aload_n hx hb dX9_init_149 rfl (lv_at hl 0 rfl) ?_
  refine lv_bipush (v := 12) hx hb dX9_init_150 (by decide) ?_
  refine lv_iconst (v := 0) hx hb dX9_init_152 (by decide) ?_
  obtain ⟨ws9, hPw, hDw, hbk⟩ := hP.pushL
  have hP9 : va_P (dC, dI) vwCl (ws9 ++ va_pl [] (fun _ => .inr (0, []))) H := by simpa [va_pl] using hPw
  have hD9 : va_D A (ws9 ++ va_pl [] (fun _ => .inr (0, []))) := by simpa [va_pl] using hDw
  refine va_mna hx hb (own := RX9) (ty := (.array .int)) (cy := cy 8) (N' := 12) (K' := 0) (z := (0, .inr (.inr (.inr (.inr (fun _ => none)))))) hown (by rw [k_s3I]; exact hts _ tw_931) (hE.2.2.2 _ (List.mem_of_getElem? (i := 2) rfl)) (k_ac hK) (k_fcA hK) hK hP9 hD9 hS hA (by decide) (by decide) (by decide) (by decide) (Nat.le_of_ble_eq_true rfl) (Nat.le_of_ble_eq_true rfl) (Nat.le_of_ble_eq_true rfl) rfl rfl (by show 0 + 1 + 1696 + 1 + 1 + 1 + 1 + 1 + 1 + 24 + 1 + 12 + 1 + 24 + 1 + 24 + 1 + 1 + 1 + 200 + 1 + 200 + (1 + 12) ≤ 2209; omega) (by show 0 + 2 + 21774 + 24 + 24 + 24 + 24 + 24 + 24 + 24 * 0 + 12 + 12 * 0 + 24 + 24 * 4 + 24 + 24 * 24 + 10 + 200 + 200 + 200 * 0 + 200 + 200 * 0 + (12 + 12 * 0) ≤ 23298; omega) (fun _ => rfl) dX9_init_153 (fun q13 r9 k9 H hri _ hK9 hPw hDw hS => ?_)
  obtain rfl : k9 = cy 10 := tp_one hK9 11 10 rfl rfl
  rw [k_rows] at hPw hDw
  have hP : ms (dC, dI) vwCl A [cel gp (.inr (9, [.ref ob, .null, .int 0, .int 0, .int 0, .int 1, .int 0, .ref q0, .ref q1, .ref q2, .ref q3, .ref q4, .ref q5, .ref q6, .ref q7, .ref q8, .int 0, .ref q9, .int 0, .ref q10, .ref q11, .ref q12, .null, .null, .null])), (fun q e => TW cy K (some s0) St0 K0 τ q e ∨ oW ob (K 0 0) (Lt 0 0) q e), (TW cy Lt none St0 K0 TZ), cel q0 (arQ (cy 8) 24 (fun _ => none)), cel q1 (.inl (cy 0, 24, .inl (fun _ => 0))), cel q2 (.inl (cy 0, 24, .inl (fun _ => 0))), cel q3 (.inl (cy 0, 24, .inl (fun _ => 0))), cel q9 (arQ (cy 8) 10 (fun _ => none)), cw [(q13, arQ (cy 10) 12 (fun i => if i < 12 then some (r9 i) else none))], cw (va_pl ((List.range 12).map r9) (fun _ => .inl (cy 8, 0, .inr (.inr (.inr (.inr (fun _ => none)))))))] H := hbk [(q13, arQ (cy 10) 12 (fun i => if i < 12 then some (r9 i) else none))] (va_pl ((List.range 12).map r9) (fun _ => .inl (cy 8, 0, .inr (.inr (.inr (.inr (fun _ => none))))))) _ hPw hDw
  clear hbk hPw hDw hP9 hD9 hK9
  generalize r9 = pr at hP
  have hP : ms (dC, dI) vwCl A [cel gp (.inr (9, [.ref ob, .null, .int 0, .int 0, .int 0, .int 1, .int 0, .ref q0, .ref q1, .ref q2, .ref q3, .ref q4, .ref q5, .ref q6, .ref q7, .ref q8, .int 0, .ref q9, .int 0, .ref q10, .ref q11, .ref q12, .null, .null, .null])), (fun q e => TW cy K (some s0) St0 K0 τ q e ∨ oW ob (K 0 0) (Lt 0 0) q e), (TW cy Lt none St0 K0 TZ), cel q0 (arQ (cy 8) 24 (fun _ => none)), cel q1 (.inl (cy 0, 24, .inl (fun _ => 0))), cel q2 (.inl (cy 0, 24, .inl (fun _ => 0))), cel q3 (.inl (cy 0, 24, .inl (fun _ => 0))), cel q9 (arQ (cy 8) 10 (fun _ => none)), cel q13 (arQ (cy 10) 12 (fun i => if i < 12 then some (pr i) else none)), cw (va_pl ((List.range 12).map pr) (fun _ => .inl (cy 8, 0, .inr (.inr (.inr (.inr (fun _ => none)))))))] H := hP.sub 8 rfl (fun q e h => by obtain ⟨rfl, rfl⟩ := h; exact List.mem_singleton.mpr rfl)
  have hP : ms (dC, dI) vwCl A [cel gp (.inr (9, [.ref ob, .null, .int 0, .int 0, .int 0, .int 1, .int 0, .ref q0, .ref q1, .ref q2, .ref q3, .ref q4, .ref q5, .ref q6, .ref q7, .ref q8, .int 0, .ref q9, .int 0, .ref q10, .ref q11, .ref q12, .null, .null, .null])), (fun q e => TW cy K (some s0) St0 K0 τ q e ∨ oW ob (K 0 0) (Lt 0 0) q e), (TW cy Lt none St0 K0 TZ), cel q0 (arQ (cy 8) 24 (fun _ => none)), cel q1 (.inl (cy 0, 24, .inl (fun _ => 0))), cel q2 (.inl (cy 0, 24, .inl (fun _ => 0))), cel q3 (.inl (cy 0, 24, .inl (fun _ => 0))), cel q9 (arQ (cy 8) 10 (fun _ => none)), cel q13 (arQ (cy 10) 12 (fun n => some (pr n))), cw (va_pl ((List.range 12).map pr) (fun _ => .inl (cy 8, 0, .inr (.inr (.inr (.inr (fun _ => none)))))))] H := hP.re (i := 8) rfl po_0
  obtain ⟨ws9, k9, hPw, hDw, hk9, -, hbk⟩ := hP.cutc 0 rfl
  refine va_putF (D := (dC, dI)) (ci := 9) (v := .ref q13) (ty := (.array (.array (.array .int)))) (C := RX9) (T := TX9) (N := 25) hx hb hts tl_X9 tyX9 tyX9_ok nmX9 hown hK hPw hDw hS k9 hk9 rfl 22 (by decide) (hts _ tw_960) (fun _ h9 => h9) rfl hin rfl (by decide +kernel) rfl rfl (Nat.le_of_ble_eq_true rfl) dX9_init_157 (fun H locs hPw hDw hS => ?_)
  have hP : ms (dC, dI) vwCl A [cel gp (.inr (9, [.ref ob, .null, .int 0, .int 0, .int 0, .int 1, .int 0, .ref q0, .ref q1, .ref q2, .ref q3, .ref q4, .ref q5, .ref q6, .ref q7, .ref q8, .int 0, .ref q9, .int 0, .ref q10, .ref q11, .ref q12, .ref q13, .null, .null])), (fun q e => TW cy K (some s0) St0 K0 τ q e ∨ oW ob (K 0 0) (Lt 0 0) q e), (TW cy Lt none St0 K0 TZ), cel q0 (arQ (cy 8) 24 (fun _ => none)), cel q1 (.inl (cy 0, 24, .inl (fun _ => 0))), cel q2 (.inl (cy 0, 24, .inl (fun _ => 0))), cel q3 (.inl (cy 0, 24, .inl (fun _ => 0))), cel q9 (arQ (cy 8) 10 (fun _ => none)), cel q13 (arQ (cy 10) 12 (fun n => some (pr n))), cw (va_pl ((List.range 12).map pr) (fun _ => .inl (cy 8, 0, .inr (.inr (.inr (.inr (fun _ => none)))))))] H := hbk _ _ hPw hDw
  clear hbk hPw hDw hk9
  refine lv_aload_n hx hb dX9_init_160 rfl (lv_at hl 0 rfl) ?_
  refine lv_bipush (v := 12) hx hb dX9_init_161 (by decide) ?_
  obtain ⟨ws9, hPw, hDw, -, hbk⟩ := hP.push
  refine va_newa hx hb (atype := .int) (hts _ tw_623) (ty := .int) rfl hK hPw hDw hS hA (a0 := (12, .inl (fun _ => 0))) (N' := 12) (fun _ => rfl) (by decide) (by decide) (Nat.le_of_ble_eq_true rfl) (by show 0 + 1 + 1696 + 1 + 1 + 1 + 1 + 1 + 1 + 24 + 1 + 12 + 1 + 24 + 1 + 24 + 1 + 1 + 1 + 200 + 1 + 200 + 1 + 12 + 1 ≤ 2209; omega) (by show 0 + 2 + 21774 + 24 + 24 + 24 + 24 + 24 + 24 + 24 * 0 + 12 + 12 * 0 + 24 + 24 * 4 + 24 + 24 * 24 + 10 + 200 + 200 + 200 * 0 + 200 + 200 * 0 + 12 + 12 * 0 + 12 ≤ 23298; omega) dX9_init_163 (fun q14 k9 H hK9 hPw hDw hS => ?_)
  obtain rfl : k9 = cy 0 := tp_one hK9 11 0 rfl rfl
  have hP : ms (dC, dI) vwCl A [cel gp (.inr (9, [.ref ob, .null, .int 0, .int 0, .int 0, .int 1, .int 0, .ref q0, .ref q1, .ref q2, .ref q3, .ref q4, .ref q5, .ref q6, .ref q7, .ref q8, .int 0, .ref q9, .int 0, .ref q10, .ref q11, .ref q12, .ref q13, .null, .null])), (fun q e => TW cy K (some s0) St0 K0 τ q e ∨ oW ob (K 0 0) (Lt 0 0) q e), (TW cy Lt none St0 K0 TZ), cel q0 (arQ (cy 8) 24 (fun _ => none)), cel q1 (.inl (cy 0, 24, .inl (fun _ => 0))), cel q2 (.inl (cy 0, 24, .inl (fun _ => 0))), cel q3 (.inl (cy 0, 24, .inl (fun _ => 0))), cel q9 (arQ (cy 8) 10 (fun _ => none)), cel q13 (arQ (cy 10) 12 (fun n => some (pr n))), cw (va_pl ((List.range 12).map pr) (fun _ => .inl (cy 8, 0, .inr (.inr (.inr (.inr (fun _ => none))))))), cel q14 (.inl (cy 0, 12, .inl (fun _ => 0)))] H := hbk _ _ _ hPw hDw
  clear hbk hPw hDw hK9
  obtain ⟨ws9, k9, hPw, hDw, hk9, -, hbk⟩ := hP.cutc 0 rfl
  refine va_putF (D := (dC, dI)) (ci := 9) (v := .ref q14) (ty := (.array .int)) (C := RX9) (T := TX9) (N := 25) hx hb hts tl_X9 tyX9 tyX9_ok nmX9 hown hK hPw hDw hS k9 hk9 rfl 23 (by decide) (hts _ tw_961) (fun _ h9 => h9) rfl hin rfl (by decide +kernel) rfl rfl (Nat.le_of_ble_eq_true rfl) dX9_init_165 (fun H locs hPw hDw hS => ?_)
  have hP : ms (dC, dI) vwCl A [cel gp (.inr (9, [.ref ob, .null, .int 0, .int 0, .int 0, .int 1, .int 0, .ref q0, .ref q1, .ref q2, .ref q3, .ref q4, .ref q5, .ref q6, .ref q7, .ref q8, .int 0, .ref q9, .int 0, .ref q10, .ref q11, .ref q12, .ref q13, .ref q14, .null])), (fun q e => TW cy K (some s0) St0 K0 τ q e ∨ oW ob (K 0 0) (Lt 0 0) q e), (TW cy Lt none St0 K0 TZ), cel q0 (arQ (cy 8) 24 (fun _ => none)), cel q1 (.inl (cy 0, 24, .inl (fun _ => 0))), cel q2 (.inl (cy 0, 24, .inl (fun _ => 0))), cel q3 (.inl (cy 0, 24, .inl (fun _ => 0))), cel q9 (arQ (cy 8) 10 (fun _ => none)), cel q13 (arQ (cy 10) 12 (fun n => some (pr n))), cw (va_pl ((List.range 12).map pr) (fun _ => .inl (cy 8, 0, .inr (.inr (.inr (.inr (fun _ => none))))))), cel q14 (.inl (cy 0, 12, .inl (fun _ => 0)))] H := hbk _ _ hPw hDw
  clear hbk hPw hDw hk9
  refine lv_aload_n hx hb dX9_init_168 rfl (lv_at hl 0 rfl) ?_
  refine lv_bipush (v := 12) hx hb dX9_init_169 (by decide) ?_
  obtain ⟨ws9, hPw, hDw, -, hbk⟩ := hP.push
  refine va_newa hx hb (atype := .int) (hts _ tw_623) (ty := .int) rfl hK hPw hDw hS hA (a0 := (12, .inl (fun _ => 0))) (N' := 12) (fun _ => rfl) (by decide) (by decide) (Nat.le_of_ble_eq_true rfl) (by show 0 + 1 + 1696 + 1 + 1 + 1 + 1 + 1 + 1 + 24 + 1 + 12 + 1 + 24 + 1 + 24 + 1 + 1 + 1 + 200 + 1 + 200 + 1 + 12 + 1 + 1 ≤ 2209; omega) (by show 0 + 2 + 21774 + 24 + 24 + 24 + 24 + 24 + 24 + 24 * 0 + 12 + 12 * 0 + 24 + 24 * 4 + 24 + 24 * 24 + 10 + 200 + 200 + 200 * 0 + 200 + 200 * 0 + 12 + 12 * 0 + 12 + 12 ≤ 23298; omega) dX9_init_171 (fun q15 k9 H hK9 hPw hDw hS => ?_)
  obtain rfl : k9 = cy 0 := tp_one hK9 11 0 rfl rfl
  have hP : ms (dC, dI) vwCl A [cel gp (.inr (9, [.ref ob, .null, .int 0, .int 0, .int 0, .int 1, .int 0, .ref q0, .ref q1, .ref q2, .ref q3, .ref q4, .ref q5, .ref q6, .ref q7, .ref q8, .int 0, .ref q9, .int 0, .ref q10, .ref q11, .ref q12, .ref q13, .ref q14, .null])), (fun q e => TW cy K (some s0) St0 K0 τ q e ∨ oW ob (K 0 0) (Lt 0 0) q e), (TW cy Lt none St0 K0 TZ), cel q0 (arQ (cy 8) 24 (fun _ => none)), cel q1 (.inl (cy 0, 24, .inl (fun _ => 0))), cel q2 (.inl (cy 0, 24, .inl (fun _ => 0))), cel q3 (.inl (cy 0, 24, .inl (fun _ => 0))), cel q9 (arQ (cy 8) 10 (fun _ => none)), cel q13 (arQ (cy 10) 12 (fun n => some (pr n))), cw (va_pl ((List.range 12).map pr) (fun _ => .inl (cy 8, 0, .inr (.inr (.inr (.inr (fun _ => none))))))), cel q14 (.inl (cy 0, 12, .inl (fun _ => 0))), cel q15 (.inl (cy 0, 12, .inl (fun _ => 0)))] H := hbk _ _ _ hPw hDw
  clear hbk hPw hDw hK9
  have hP : ms (dC, dI) vwCl A [cel gp (.inr (9, [.ref ob, .null, .int 0, .int 0, .int 0, .int 1, .int 0, .ref q0, .ref q1, .ref q2, .ref q3, .ref q4, .ref q5, .ref q6, .ref q7, .ref q8, .int 0, .ref q9, .int 0, .ref q10, .ref q11, .ref q12, .ref q13, .ref q14, .null])), (fun q e => TW cy K (some s0) St0 K0 τ q e ∨ oW ob (K 0 0) (Lt 0 0) q e), (TW cy Lt none St0 K0 TZ), cel q0 (arQ (cy 8) 24 (fun _ => none)), cel q1 (.inl (cy 0, 24, .inl (fun _ => 0))), cel q2 (.inl (cy 0, 24, .inl (fun _ => 0))), cel q3 (.inl (cy 0, 24, .inl (fun _ => 0))), cel q9 (arQ (cy 8) 10 (fun _ => none)), cel q13 (arQ (cy 10) 12 (fun n => some (pr n))), cw (va_pl ((List.range 12).map pr) (fun _ => .inl (cy 8, 0, .inr (.inr (.inr (.inr (fun _ => none))))))), cel q14 (.inl (cy 0, 12, .inl (fun _ => 0)))] H := hP.sel [0, 1, 2, 3, 4, 5, 6, 7, 8, 9, 10] rfl (by decide)
  obtain ⟨ws9, k9, hPw, hDw, hk9, -, hbk⟩ := hP.cutc 0 rfl
  refine va_putF (D := (dC, dI)) (ci := 9) (v := .ref q15) (ty := (.array .int)) (C := RX9) (T := TX9) (N := 25) hx hb hts tl_X9 tyX9 tyX9_ok nmX9 hown hK hPw hDw hS k9 hk9 rfl 24 (by decide) (hts _ tw_962) (fun _ h9 => h9) rfl hin rfl (by decide +kernel) rfl rfl (Nat.le_of_ble_eq_true rfl) dX9_init_173 (fun H locs hPw hDw hS => ?_)
  have hP : ms (dC, dI) vwCl A [cel gp (.inr (9, [.ref ob, .null, .int 0, .int 0, .int 0, .int 1, .int 0, .ref q0, .ref q1, .ref q2, .ref q3, .ref q4, .ref q5, .ref q6, .ref q7, .ref q8, .int 0, .ref q9, .int 0, .ref q10, .ref q11, .ref q12, .ref q13, .ref q14, .ref q15])), (fun q e => TW cy K (some s0) St0 K0 τ q e ∨ oW ob (K 0 0) (Lt 0 0) q e), (TW cy Lt none St0 K0 TZ), cel q0 (arQ (cy 8) 24 (fun _ => none)), cel q1 (.inl (cy 0, 24, .inl (fun _ => 0))), cel q2 (.inl (cy 0, 24, .inl (fun _ => 0))), cel q3 (.inl (cy 0, 24, .inl (fun _ => 0))), cel q9 (arQ (cy 8) 10 (fun _ => none)), cel q13 (arQ (cy 10) 12 (fun n => some (pr n))), cw (va_pl ((List.range 12).map pr) (fun _ => .inl (cy 8, 0, .inr (.inr (.inr (.inr (fun _ => none))))))), cel q14 (.inl (cy 0, 12, .inl (fun _ => 0)))] H := hbk _ _ hPw hDw
  clear hbk hPw hDw hk9
  refine lv_aload_n hx hb dX9_init_176 rfl (lv_at hl 0 rfl) ?_
  refine lv_aload_n hx hb dX9_init_177 rfl (lv_at hl 1 rfl) ?_
  obtain ⟨ws9, k9, hPw, hDw, hk9, -, hbk⟩ := hP.cutc 0 rfl
  refine va_putF (D := (dC, dI)) (ci := 9) (v := .ref bs) (ty := (.array .int)) (C := RX9) (T := TX9) (N := 25) hx hb hts tl_X9 tyX9 tyX9_ok nmX9 hown hK hPw hDw hS k9 hk9 rfl 1 (by decide) (hts _ tw_935) (fun _ h9 => h9) rfl hin rfl (by decide +kernel) rfl rfl (Nat.le_of_ble_eq_true rfl) dX9_init_178 (fun H locs hPw hDw hS => ?_)
  have hP : ms (dC, dI) vwCl A [cel gp (.inr (9, [.ref ob, .ref bs, .int 0, .int 0, .int 0, .int 1, .int 0, .ref q0, .ref q1, .ref q2, .ref q3, .ref q4, .ref q5, .ref q6, .ref q7, .ref q8, .int 0, .ref q9, .int 0, .ref q10, .ref q11, .ref q12, .ref q13, .ref q14, .ref q15])), (fun q e => TW cy K (some s0) St0 K0 τ q e ∨ oW ob (K 0 0) (Lt 0 0) q e), (TW cy Lt none St0 K0 TZ), cel q0 (arQ (cy 8) 24 (fun _ => none)), cel q1 (.inl (cy 0, 24, .inl (fun _ => 0))), cel q2 (.inl (cy 0, 24, .inl (fun _ => 0))), cel q3 (.inl (cy 0, 24, .inl (fun _ => 0))), cel q9 (arQ (cy 8) 10 (fun _ => none)), cel q13 (arQ (cy 10) 12 (fun n => some (pr n))), cw (va_pl ((List.range 12).map pr) (fun _ => .inl (cy 8, 0, .inr (.inr (.inr (.inr (fun _ => none))))))), cel q14 (.inl (cy 0, 12, .inl (fun _ => 0)))] H := hbk _ _ hPw hDw
  clear hbk hPw hDw hk9
  refine lv_aload_n hx hb dX9_init_181 rfl (lv_at hl 0 rfl) ?_
  refine lv_iload_n hx hb dX9_init_182 rfl (lv_at hl 2 rfl) ?_
  obtain ⟨ws9, k9, hPw, hDw, hk9, -, hbk⟩ := hP.cutc 0 rfl
  refine va_put (D := (dC, dI)) (ci := 9) (v := .int (nI d)) (ty := .int) (C := RX9) (T := TX9) (N := 25) hx hb hts tl_X9 tyX9 tyX9_ok nmX9 hown hK hPw hDw hS k9 hk9 rfl 2 (by decide) (hts _ tw_936) (fun _ h9 => h9) rfl (by decide +kernel) rfl rfl (Nat.le_of_ble_eq_true rfl) dX9_init_183 (fun H locs hPw hDw hS => ?_)
  have hP : ms (dC, dI) vwCl A [cel gp (.inr (9, [.ref ob, .ref bs, .int (nI d), .int 0, .int 0, .int 1, .int 0, .ref q0, .ref q1, .ref q2, .ref q3, .ref q4, .ref q5, .ref q6, .ref q7, .ref q8, .int 0, .ref q9, .int 0, .ref q10, .ref q11, .ref q12, .ref q13, .ref q14, .ref q15])), (fun q e => TW cy K (some s0) St0 K0 τ q e ∨ oW ob (K 0 0) (Lt 0 0) q e), (TW cy Lt none St0 K0 TZ), cel q0 (arQ (cy 8) 24 (fun _ => none)), cel q1 (.inl (cy 0, 24, .inl (fun _ => 0))), cel q2 (.inl (cy 0, 24, .inl (fun _ => 0))), cel q3 (.inl (cy 0, 24, .inl (fun _ => 0))), cel q9 (arQ (cy 8) 10 (fun _ => none)), cel q13 (arQ (cy 10) 12 (fun n => some (pr n))), cw (va_pl ((List.range 12).map pr) (fun _ => .inl (cy 8, 0, .inr (.inr (.inr (.inr (fun _ => none))))))), cel q14 (.inl (cy 0, 12, .inl (fun _ => 0)))] H := hbk _ _ hPw hDw
  clear hbk hPw hDw hk9
  have hP := hP.sel [1, 0, 3, 4, 5, 6, 10, 7, 8, 9, 99, 2] rfl (by decide)
  have hP := hP.sub 2 rfl (rw_0 (w := 5) (lr := fun _ => 0) (lv := fun _ _ => 0))
  have hP := hP.sub 7 rfl (rw_0 (w := 6) (lr := fun _ => 0) (lv := fun _ _ => 0))
  have hP := hP.sub 9 rfl (pr_0 (pe := fun _ _ => 0))
  have hP := hP.sub 10 rfl (pe_0 (cy := cy) (pe := fun _ _ => 0) (px := fun _ _ _ => 0))
  refine W.widen (k := 2209) (n := 23298) (by show 0 + 1 + 1696 + 1 + 1 + 1 + 1 + 1 + 1 + 24 + 1 + 12 + 1 + 24 + 1 + 24 + 1 + 1 + 1 + 200 + 1 + 200 + 1 + 12 + 1 + 1 + 0 ≤ 2209; omega) (by show 0 + 2 + 21774 + 24 + 24 + 24 + 24 + 24 + 24 + 24 * 0 + 12 + 12 * 0 + 24 + 24 * 4 + 24 + 24 * 24 + 10 + 200 + 200 + 200 * 0 + 200 + 200 * 0 + 12 + 12 * 0 + 12 + 12 + 0 ≤ 23298; omega) ?_
  have g_1 : TL K (some s0) τ := hTn
  have g_2 : τ.2.2 = (fun _ => 1, fun _ _ => 0) := hτ
  have g_3 : TL Lt none TZ := hTt
  have g_4 : AP Lt K (some s0) τ := hAP
  have hP : ms (dC, dI) vwCl A [(fun q e => TW cy K (some s0) St0 K0 τ q e ∨ oW ob (K 0 0) (Lt 0 0) q e), cel gp (gO ob bs ((fun k => [q0, q1, q2, q3, q4, q5, q6, q7, q8, q9, q10, q11, q12, q13, q14, q15].getD k 0)) d 0 0 0), rwW cy 24 5 (((fun k => [q0, q1, q2, q3, q4, q5, q6, q7, q8, q9, q10, q11, q12, q13, q14, q15].getD k 0)) 0) ((fun _ => 0)) ((fun _ _ => 0)) 0, cel (((fun k => [q0, q1, q2, q3, q4, q5, q6, q7, q8, q9, q10, q11, q12, q13, q14, q15].getD k 0)) 1) (.inl (cy 0, 24, .inl (fun _ => 0))), cel (((fun k => [q0, q1, q2, q3, q4, q5, q6, q7, q8, q9, q10, q11, q12, q13, q14, q15].getD k 0)) 2) (.inl (cy 0, 24, .inl (fun _ => 0))), cel (((fun k => [q0, q1, q2, q3, q4, q5, q6, q7, q8, q9, q10, q11, q12, q13, q14, q15].getD k 0)) 3) (.inl (cy 0, 24, .inl (fun _ => 0))), cel (((fun k => [q0, q1, q2, q3, q4, q5, q6, q7, q8, q9, q10, q11, q12, q13, q14, q15].getD k 0)) 14) (.inl (cy 0, 12, .inl (fun _ => 0))), rwW cy 10 6 (((fun k => [q0, q1, q2, q3, q4, q5, q6, q7, q8, q9, q10, q11, q12, q13, q14, q15].getD k 0)) 9) ((fun _ => 0)) ((fun _ _ => 0)) 0, cel (((fun k => [q0, q1, q2, q3, q4, q5, q6, q7, q8, q9, q10, q11, q12, q13, q14, q15].getD k 0)) 13) (arQ (cy 10) 12 (fun n => some (pr n))), prW cy pr ((fun _ => 0)) ((fun _ _ => 0)), peW cy ((fun _ => 0)) ((fun _ _ => 0)) ((fun _ _ _ => 0)), (TW cy Lt none St0 K0 TZ)] H := hP
  exact W.vret hx hb hr (fun t ht hW => ⟨⟨(), rfl, trivial, ⟨ob, s0, Lt, K, τ, ((fun k => [q0, q1, q2, q3, q4, q5, q6, q7, q8, q9, q10, q11, q12, q13, q14, q15].getD k 0)), pr, (fun _ => 0), (fun _ => 0), (fun _ => 0), (fun _ => 0), g_1, g_2, g_3, g_4, by show ms _ _ _ _ t.heap; rw [ht]; exact hP⟩⟩, hS.F ht⟩) hS.2.2 dX9_init_186
