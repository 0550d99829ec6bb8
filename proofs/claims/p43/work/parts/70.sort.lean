theorem tw_1015 : Cond.methodLink RL 26 yX9_draw ∈ tp_all := tp_mem 1015 (by decide +kernel) rfl
theorem tw_41 : Cond.code yX8_setRefresh cX8_setRefresh 3 (some .int) ∈ tp_all := tp_mem 41 (by decide +kernel) rfl
theorem tw_38 : Cond.methodLink RL 50 yX8_setRefresh ∈ tp_all := tp_mem 38 (by decide +kernel) rfl
theorem tw_39 : Cond.instanceMethod yX8_setRefresh ∈ tp_all := tp_mem 39 (by decide +kernel) rfl
theorem tw_40 : Cond.selects RX8 yX8_setRefresh yX8_setRefresh ∈ tp_all := tp_mem 40 (by decide +kernel) rfl
theorem tw_154 : Cond.code yX8_slow cX8_slow 6 (some .int) ∈ tp_all := tp_mem 154 (by decide +kernel) rfl
theorem tw_151 : Cond.methodLink RL 46 yX8_slow ∈ tp_all := tp_mem 151 (by decide +kernel) rfl
theorem tw_152 : Cond.instanceMethod yX8_slow ∈ tp_all := tp_mem 152 (by decide +kernel) rfl
theorem tw_153 : Cond.selects RX8 yX8_slow yX8_slow ∈ tp_all := tp_mem 153 (by decide +kernel) rfl
theorem tw_121 : Cond.code yX8_shut cX8_shut 5 (some .boolean) ∈ tp_all := tp_mem 121 (by decide +kernel) rfl
theorem tw_118 : Cond.methodLink RL 40 yX8_shut ∈ tp_all := tp_mem 118 (by decide +kernel) rfl
theorem tw_119 : Cond.instanceMethod yX8_shut ∈ tp_all := tp_mem 119 (by decide +kernel) rfl
theorem tw_120 : Cond.selects RX8 yX8_shut yX8_shut ∈ tp_all := tp_mem 120 (by decide +kernel) rfl
theorem dL_law_145 : decode cL_law 145 = .ok (.iload 6, 2) := by decide +kernel
theorem dL_law_147 : decode cL_law 147 = .ok (.ifCond .ne 23, 3) := by decide +kernel
theorem dL_law_170 : decode cL_law 170 = .ok (.iload 6, 2) := by decide +kernel
theorem dL_law_172 : decode cL_law 172 = .ok (.iconst 1, 1) := by decide +kernel
theorem dL_law_173 : decode cL_law 173 = .ok (.if_icmp .ne 22, 3) := by decide +kernel
theorem dL_law_195 : decode cL_law 195 = .ok (.iload 6, 2) := by decide +kernel
theorem dL_law_197 : decode cL_law 197 = .ok (.iconst 2, 1) := by decide +kernel
theorem dL_law_198 : decode cL_law 198 = .ok (.if_icmp .ne 15, 3) := by decide +kernel
theorem dL_law_201 : decode cL_law 201 = .ok (.aload_n 3, 1) := by decide +kernel
theorem dL_law_202 : decode cL_law 202 = .ok (.iconst 1, 1) := by decide +kernel
theorem dL_law_203 : decode cL_law 203 = .ok (.aload_n 2, 1) := by decide +kernel
theorem dL_law_204 : decode cL_law 204 = .ok (.iconst 5, 1) := by decide +kernel
theorem dL_law_205 : decode cL_law 205 = .ok (.invokevirtual 26, 3) := by decide +kernel
theorem dL_law_208 : decode cL_law 208 = .ok (.iadd, 1) := by decide +kernel
theorem dL_law_209 : decode cL_law 209 = .ok (.invokevirtual 50, 3) := by decide +kernel
theorem dL_law_212 : decode cL_law 212 = .ok (.pop, 1) := by decide +kernel
theorem dL_law_176 : decode cL_law 176 = .ok (.aload_n 3, 1) := by decide +kernel
theorem dL_law_177 : decode cL_law 177 = .ok (.iload 5, 2) := by decide +kernel
theorem dL_law_179 : decode cL_law 179 = .ok (.aload_n 2, 1) := by decide +kernel
theorem dL_law_180 : decode cL_law 180 = .ok (.iconst 4, 1) := by decide +kernel
theorem dL_law_181 : decode cL_law 181 = .ok (.invokevirtual 26, 3) := by decide +kernel
theorem dL_law_184 : decode cL_law 184 = .ok (.iconst 1, 1) := by decide +kernel
theorem dL_law_185 : decode cL_law 185 = .ok (.aload_n 2, 1) := by decide +kernel
theorem dL_law_186 : decode cL_law 186 = .ok (.iconst 5, 1) := by decide +kernel
theorem dL_law_187 : decode cL_law 187 = .ok (.invokevirtual 26, 3) := by decide +kernel
theorem dL_law_190 : decode cL_law 190 = .ok (.iadd, 1) := by decide +kernel
theorem dL_law_191 : decode cL_law 191 = .ok (.invokevirtual 46, 3) := by decide +kernel
theorem dL_law_194 : decode cL_law 194 = .ok (.pop, 1) := by decide +kernel
theorem dL_law_150 : decode cL_law 150 = .ok (.aload_n 3, 1) := by decide +kernel
theorem dL_law_151 : decode cL_law 151 = .ok (.iload 5, 2) := by decide +kernel
theorem dL_law_153 : decode cL_law 153 = .ok (.aload_n 2, 1) := by decide +kernel
theorem dL_law_154 : decode cL_law 154 = .ok (.iconst 2, 1) := by decide +kernel
theorem dL_law_155 : decode cL_law 155 = .ok (.invokevirtual 26, 3) := by decide +kernel
theorem dL_law_158 : decode cL_law 158 = .ok (.ifCond .ne 7, 3) := by decide +kernel
theorem dL_law_165 : decode cL_law 165 = .ok (.iconst 0, 1) := by decide +kernel
theorem dL_law_166 : decode cL_law 166 = .ok (.invokevirtual 40, 3) := by decide +kernel
theorem dL_law_169 : decode cL_law 169 = .ok (.pop, 1) := by decide +kernel
theorem dL_law_161 : decode cL_law 161 = .ok (.iconst 1, 1) := by decide +kernel
theorem dL_law_162 : decode cL_law 162 = .ok (.goto 4, 3) := by decide +kernel
set_option maxRecDepth 100000 in
set_option maxHeartbeats 4000000 in
/-- a shutting, a slowing, a refresh, or none -/
theorem lx_sort {p : Program} {l : Launch} {e : Env} {s : State} {m : MethodId} {below : List Frame} {meth : Method} {c : Code} {A : Nat → Prop} {dC : Nat → ClassId} {dI : Nat → Nat → Nat} {cy : Nat → ClassId} {bs Ls : Nat} {xs : Nat → Int32} {Q : State → Prop} {cells slots : Nat} (C1 : lx_At p s m meth c A bs Ls xs dC dI cy) (hcells : cells ≤ 590000) (hslots : slots ≤ 7040000) {gp : Nat} {ob : Nat} {qf : Nat → Nat} {d : Nat} {nd : Nat} {nl : Nat} {nf : Nat} {lr : Nat → Nat} {lv : Tb} {fr9 : Nat → Nat} {fv : Tb} {K : Lay} {s0 : Nat} {Lt : Lay} {a : St} {κ : Kap} {τ : Tau} {b : St} {κt : Kap} {τt : Tau} {M : Nat} {ck : Nat} (Inv : IPr) (hNF : NumFace Inv) (hnd : nd ≤ 12) (hnl : nl ≤ 24) (hnf : nf ≤ 10) (hG : SG Inv nd nl nf lv fv ck M K s0 a κ τ) (hd : d < 900000) (zl : Nat) (hzl : zl < nl) (zs : Nat) (hzs : zs < 4) (tm : Int32) (sp9 : Int32) (H : Heap) (locs : List Loc) (ls : Array Slot) (hP : ms (dC, dI) vwCl A [(fun q e => TW cy K (some s0) a κ τ q e ∨ oW ob (K 0 0) (Lt 0 0) q e), cel gp (gO ob bs qf d nd nl nf), rwW cy 24 5 (qf 0) lr lv nl, rwW cy 10 6 (qf 9) fr9 fv nf, (TW cy Lt none b κt τt)] H) (hS : va_S A s.heap H locs) (hl : lv_has ls 24 [(0, .ref bs), (1, .int tm), (2, .ref gp), (3, .ref ob), (4, .int sp9), (5, .int (nI zl)), (6, .int (nI zs))]) (kk : ∀ (H : Heap) (locs : List Loc) (ls : Array Slot) (d2 : Nat) (a2 : St) (κ2 : Kap), d2 ≤ d + 3 → SG Inv nd nl nf lv fv ck M K s0 a2 κ2 τ → ms (dC, dI) vwCl A [(fun q e => TW cy K (some s0) a2 κ2 τ q e ∨ oW ob (K 0 0) (Lt 0 0) q e), cel gp (gO ob bs qf d2 nd nl nf), rwW cy 24 5 (qf 0) lr lv nl, rwW cy 10 6 (qf 9) fr9 fv nf, (TW cy Lt none b κt τt)] H → va_S A s.heap H locs → lv_has ls 24 [(0, .ref bs), (1, .int tm), (2, .ref gp), (3, .ref ob), (4, .int sp9)] → W p l e room_1 s m #[.ref bs] below meth c H locs (cells) (slots) Q (F0 m 213 ls [])) : W p l e room_1 s m #[.ref bs] below meth c H locs cells slots Q (F0 m 145 ls []) := by
  obtain ⟨hx, hb, hr, hml, hown, hts, hX, hbl, hbL, hlocks, hK, hE, hA, hbA⟩ := C1
  have hl : lv_has ls 24 [(0, .ref bs), (1, .int tm), (2, .ref gp), (3, .ref ob), (4, .int sp9), (5, .int (nI zl)), (6, .int (nI zs))] := hl
  obtain ⟨hT, hw, hCV, hTR, hIv⟩ := hG
  have hchk := (hNF.2 _ _ _ _ _ _ _ hIv).2.2.2.2.1
  have hG : SG Inv nd nl nf lv fv ck M K s0 a κ τ := ⟨hT, hw, hCV, hTR, hIv⟩
  have hno : ¬ G_no a (nI zl) := chk_nol hchk.1 hzl hnl
  refine lv_iload hx hb dL_law_145 (lv_at hl 6 rfl) ?_
  refine lv_if_ne (tgt := 170) hx hb dL_law_147 (by decide) (fun c_1 => ?_) (fun c_1 => ?_)
  · refine lv_iload hx hb dL_law_170 (lv_at hl 6 rfl) ?_
    refine lv_iconst (v := 1) hx hb dL_law_172 (by decide) ?_
    refine lv_icmp_ne (tgt := 195) hx hb dL_law_173 (by decide) (fun c_2 => ?_) (fun c_2 => ?_)
    · refine lv_iload hx hb dL_law_195 (lv_at hl 6 rfl) ?_
      refine lv_iconst (v := 2) hx hb dL_law_197 (by decide) ?_
      refine lv_icmp_ne (tgt := 213) hx hb dL_law_198 (by decide) (fun c_3 => ?_) (fun c_3 => ?_)
      · exact kk _ _ ls d a κ (by omega) hG hP hS (lv_sub hl [0, 1, 2, 3, 4] rfl)
      · refine lv_aload_n hx hb dL_law_201 rfl (lv_at hl 3 rfl) ?_
        refine lv_iconst (v := 1) hx hb dL_law_202 (by decide) ?_
        refine lv_aload_n hx hb dL_law_203 rfl (lv_at hl 2 rfl) ?_
        refine lv_iconst (v := 5) hx hb dL_law_204 (by decide) ?_
        have hPc : ms (dC, dI) vwCl A ([cel gp (gO ob bs qf d nd nl nf)] ++ [(fun q e => TW cy K (some s0) a κ τ q e ∨ oW ob (K 0 0) (Lt 0 0) q e), rwW cy 24 5 (qf 0) lr lv nl, rwW cy 10 6 (qf 9) fr9 fv nf, (TW cy Lt none b κt τt)]) H := hP.sel [1, 0, 2, 3, 4] rfl (by decide)
        have hFc := g_free hPc hS hA
        refine va_calli (va_runV (As := [.int 5]) (rest := [.int 1, .ref ob]) ⟨hx, hb, hml, hown, hts⟩ (c_draw l dC dI cy bs Ls xs gp ob qf d nd nl nf 5 H.size (by first | assumption | omega) (by first | assumption | omega) (by first | assumption | omega)) (tp_cwV 1 hts tw_1015 tw_1016 tw_1017 tw_19 tw_1018 rfl rfl (by decide +kernel) ⟨Nat.le_of_ble_eq_true rfl, Nat.le_of_ble_eq_true rfl⟩) ⟨g_blind, va_recv hK (hP.one (e := .inr (9, [.ref ob, .ref bs, .int (nI d), .int (nI nd), .int 0, .int 1, .int (nI nl), .ref (qf 0), .ref (qf 1), .ref (qf 2), .ref (qf 3), .ref (qf 4), .ref (qf 5), .ref (qf 6), .ref (qf 7), .ref (qf 8), .int (nI nf), .ref (qf 9), .int 0, .ref (qf 10), .ref (qf 11), .ref (qf 12), .ref (qf 13), .ref (qf 14), .ref (qf 15)])) 1 rfl cel_in) (ci := 9) (q0 := 0) rfl rfl, fun U hU hW => ⟨rfl, g_pay hK hPc hE hX hbl hbL hbA hS U hU hW⟩⟩ rfl rfl hl.1 rfl (lv_room (Nat.le_of_ble_eq_true rfl)) dL_law_205 ⟨(by show cells + 0 ≤ 600074; omega), (by show slots + 0 ≤ 7301550; omega)⟩) hS (fun q _ h => hFc q h) hFc (fun r_4 u t H1 locs ht hvm hpo hB hz1 hk1 hS => ?_)
        obtain rfl := hpo
        obtain ⟨z_5, f_6, f_7, hP1⟩ := hB
        rw [ht] at hP1
        have hPj := hPc.calls hk1 hFc hP1
        have hP : ms (dC, dI) vwCl A [(fun q e => TW cy K (some s0) a κ τ q e ∨ oW ob (K 0 0) (Lt 0 0) q e), cel gp (gO ob bs qf (d + 1) nd nl nf), rwW cy 24 5 (qf 0) lr lv nl, rwW cy 10 6 (qf 9) fr9 fv nf, (TW cy Lt none b κt τt)] H1 := hPj.sel [1, 0, 2, 3, 4] rfl (by decide)
        clear hPj hPc hP1 hk1 hFc
        generalize H1 = H at hP hS ⊢
        subst f_7
        have qF := f_6
        refine lv_iadd hx hb dL_law_208 ?_
        refine W.eq (g2 := F0 m 209 ls [.int (nI (1 + z_5)), .ref ob]) (by rw [show (1 : Int32) = nI 1 from rfl, nI_add]) ?_
        have hFc := m_free (C := (fun q e => TW cy K (some s0) a κ τ q e ∨ oW ob (K 0 0) (Lt 0 0) q e)) hP.1 hS hA (fun _ _ h => any_in (i := 0) rfl h)
        refine va_calli (va_runV (As := [.int (nI (1 + z_5))]) (rest := []) ⟨hx, hb, hml, hown, hts⟩ (c_setRefresh l dC dI cy K ((some s0)) a κ τ ob ((Lt 0 0)) (nI (1 + z_5)) H.size hT (nI_nlt (b := 1) (by omega) (by omega)) (nI_nlt (a := 30) (by omega) (by decide))) (tp_cwV 1 hts tw_38 tw_39 tw_40 tw_20 tw_41 rfl rfl (by decide +kernel) ⟨Nat.le_of_ble_eq_true rfl, Nat.le_of_ble_eq_true rfl⟩) ⟨m_blind, va_recv hK (hP.one (e := .inr (8, [.ref (K 0 0), .ref (Lt 0 0)])) 0 rfl (Or.inr oW_mem)) (ci := 8) (q0 := 0) rfl rfl, fun U hU hW => ⟨rfl, m_pay hK hP.1 hE (fun _ _ h => any_in (i := 0) rfl h) U hU hW⟩⟩ rfl rfl hl.1 rfl (lv_room (Nat.le_of_ble_eq_true rfl)) dL_law_209 ⟨(by show cells + 0 + 0 ≤ 600074; omega), (by show slots + 0 + 0 ≤ 7301550; omega)⟩) hS (fun q _ h => hFc q h) hFc (fun r_8 u t H1 locs ht hvm hpo hB hz1 hk1 hS => ?_)
        obtain rfl := hpo
        obtain ⟨f_9, hP1⟩ := hB
        subst f_9
        rw [ht] at hP1
        have hP : ms (dC, dI) vwCl A [(fun q e => TW cy K (some s0) (U_refresh a (nI (1 + z_5))) κ τ q e ∨ oW ob (K 0 0) (Lt 0 0) q e), cel gp (gO ob bs qf (d + 1) nd nl nf), rwW cy 24 5 (qf 0) lr lv nl, rwW cy 10 6 (qf 9) fr9 fv nf, (TW cy Lt none b κt τt)] H1 := hP.call 0 rfl hk1 hFc hP1
        clear hP1 hk1 hFc
        generalize H1 = H at hP hS ⊢
        have hG := hG.refresh hNF (n := 1 + z_5) (by omega) (by omega)
        refine lv_pop hx hb dL_law_212 rfl ?_
        exact kk _ _ ls (d + 1) (U_refresh a (nI (1 + z_5))) κ (by omega) hG hP hS (lv_sub hl [0, 1, 2, 3, 4] rfl)
    · refine lv_aload_n hx hb dL_law_176 rfl (lv_at hl 3 rfl) ?_
      refine lv_iload hx hb dL_law_177 (lv_at hl 5 rfl) ?_
      refine lv_aload_n hx hb dL_law_179 rfl (lv_at hl 2 rfl) ?_
      refine lv_iconst (v := 4) hx hb dL_law_180 (by decide) ?_
      have hPc : ms (dC, dI) vwCl A ([cel gp (gO ob bs qf d nd nl nf)] ++ [(fun q e => TW cy K (some s0) a κ τ q e ∨ oW ob (K 0 0) (Lt 0 0) q e), rwW cy 24 5 (qf 0) lr lv nl, rwW cy 10 6 (qf 9) fr9 fv nf, (TW cy Lt none b κt τt)]) H := hP.sel [1, 0, 2, 3, 4] rfl (by decide)
      have hFc := g_free hPc hS hA
      refine va_calli (va_runV (As := [.int 4]) (rest := [.int (nI zl), .ref ob]) ⟨hx, hb, hml, hown, hts⟩ (c_draw l dC dI cy bs Ls xs gp ob qf d nd nl nf 4 H.size (by first | assumption | omega) (by first | assumption | omega) (by first | assumption | omega)) (tp_cwV 1 hts tw_1015 tw_1016 tw_1017 tw_19 tw_1018 rfl rfl (by decide +kernel) ⟨Nat.le_of_ble_eq_true rfl, Nat.le_of_ble_eq_true rfl⟩) ⟨g_blind, va_recv hK (hP.one (e := .inr (9, [.ref ob, .ref bs, .int (nI d), .int (nI nd), .int 0, .int 1, .int (nI nl), .ref (qf 0), .ref (qf 1), .ref (qf 2), .ref (qf 3), .ref (qf 4), .ref (qf 5), .ref (qf 6), .ref (qf 7), .ref (qf 8), .int (nI nf), .ref (qf 9), .int 0, .ref (qf 10), .ref (qf 11), .ref (qf 12), .ref (qf 13), .ref (qf 14), .ref (qf 15)])) 1 rfl cel_in) (ci := 9) (q0 := 0) rfl rfl, fun U hU hW => ⟨rfl, g_pay hK hPc hE hX hbl hbL hbA hS U hU hW⟩⟩ rfl rfl hl.1 rfl (lv_room (Nat.le_of_ble_eq_true rfl)) dL_law_181 ⟨(by show cells + 0 ≤ 600074; omega), (by show slots + 0 ≤ 7301550; omega)⟩) hS (fun q _ h => hFc q h) hFc (fun r_10 u t H1 locs ht hvm hpo hB hz1 hk1 hS => ?_)
      obtain rfl := hpo
      obtain ⟨z_11, f_12, f_13, hP1⟩ := hB
      rw [ht] at hP1
      have hPj := hPc.calls hk1 hFc hP1
      have hP : ms (dC, dI) vwCl A [(fun q e => TW cy K (some s0) a κ τ q e ∨ oW ob (K 0 0) (Lt 0 0) q e), cel gp (gO ob bs qf (d + 1) nd nl nf), rwW cy 24 5 (qf 0) lr lv nl, rwW cy 10 6 (qf 9) fr9 fv nf, (TW cy Lt none b κt τt)] H1 := hPj.sel [1, 0, 2, 3, 4] rfl (by decide)
      clear hPj hPc hP1 hk1 hFc
      generalize H1 = H at hP hS ⊢
      subst f_13
      have qR := f_12
      refine lv_iconst (v := 1) hx hb dL_law_184 (by decide) ?_
      refine lv_aload_n hx hb dL_law_185 rfl (lv_at hl 2 rfl) ?_
      refine lv_iconst (v := 5) hx hb dL_law_186 (by decide) ?_
      have hPc : ms (dC, dI) vwCl A ([cel gp (gO ob bs qf (d + 1) nd nl nf)] ++ [(fun q e => TW cy K (some s0) a κ τ q e ∨ oW ob (K 0 0) (Lt 0 0) q e), rwW cy 24 5 (qf 0) lr lv nl, rwW cy 10 6 (qf 9) fr9 fv nf, (TW cy Lt none b κt τt)]) H := hP.sel [1, 0, 2, 3, 4] rfl (by decide)
      have hFc := g_free hPc hS hA
      refine va_calli (va_runV (As := [.int 5]) (rest := [.int 1, .int (nI z_11), .int (nI zl), .ref ob]) ⟨hx, hb, hml, hown, hts⟩ (c_draw l dC dI cy bs Ls xs gp ob qf (d + 1) nd nl nf 5 H.size (by first | assumption | omega) (by first | assumption | omega) (by first | assumption | omega)) (tp_cwV 1 hts tw_1015 tw_1016 tw_1017 tw_19 tw_1018 rfl rfl (by decide +kernel) ⟨Nat.le_of_ble_eq_true rfl, Nat.le_of_ble_eq_true rfl⟩) ⟨g_blind, va_recv hK (hP.one (e := .inr (9, [.ref ob, .ref bs, .int (nI (d + 1)), .int (nI nd), .int 0, .int 1, .int (nI nl), .ref (qf 0), .ref (qf 1), .ref (qf 2), .ref (qf 3), .ref (qf 4), .ref (qf 5), .ref (qf 6), .ref (qf 7), .ref (qf 8), .int (nI nf), .ref (qf 9), .int 0, .ref (qf 10), .ref (qf 11), .ref (qf 12), .ref (qf 13), .ref (qf 14), .ref (qf 15)])) 1 rfl cel_in) (ci := 9) (q0 := 0) rfl rfl, fun U hU hW => ⟨rfl, g_pay hK hPc hE hX hbl hbL hbA hS U hU hW⟩⟩ rfl rfl hl.1 rfl (lv_room (Nat.le_of_ble_eq_true rfl)) dL_law_187 ⟨(by show cells + 0 + 0 ≤ 600074; omega), (by show slots + 0 + 0 ≤ 7301550; omega)⟩) hS (fun q _ h => hFc q h) hFc (fun r_14 u t H1 locs ht hvm hpo hB hz1 hk1 hS => ?_)
      obtain rfl := hpo
      obtain ⟨z_15, f_16, f_17, hP1⟩ := hB
      rw [ht] at hP1
      have hPj := hPc.calls hk1 hFc hP1
      have hP : ms (dC, dI) vwCl A [(fun q e => TW cy K (some s0) a κ τ q e ∨ oW ob (K 0 0) (Lt 0 0) q e), cel gp (gO ob bs qf (d + 1 + 1) nd nl nf), rwW cy 24 5 (qf 0) lr lv nl, rwW cy 10 6 (qf 9) fr9 fv nf, (TW cy Lt none b κt τt)] H1 := hPj.sel [1, 0, 2, 3, 4] rfl (by decide)
      clear hPj hPc hP1 hk1 hFc
      generalize H1 = H at hP hS ⊢
      subst f_17
      have qT := f_16
      refine lv_iadd hx hb dL_law_190 ?_
      refine W.eq (g2 := F0 m 191 ls [.int (nI (1 + z_15)), .int (nI z_11), .int (nI zl), .ref ob]) (by rw [show (1 : Int32) = nI 1 from rfl, nI_add]) ?_
      have hFc := m_free (C := (fun q e => TW cy K (some s0) a κ τ q e ∨ oW ob (K 0 0) (Lt 0 0) q e)) hP.1 hS hA (fun _ _ h => any_in (i := 0) rfl h)
      refine va_calli (va_runV (As := [.int (nI zl), .int (nI z_11), .int (nI (1 + z_15))]) (rest := []) ⟨hx, hb, hml, hown, hts⟩ (c_slow l dC dI cy K ((some s0)) a κ τ ob ((Lt 0 0)) M (nI zl) (nI z_11) (nI (1 + z_15)) H.size hT hw hno (nI_nneg (by omega)) (nI_nlt (a := 3) (by omega) (by decide)) (nI_nlt (b := 1) (by omega) (by omega)) (nI_nlt (a := 200) (by omega) (by decide))) (tp_cwV 3 hts tw_151 tw_152 tw_153 tw_20 tw_154 rfl rfl (by decide +kernel) ⟨Nat.le_of_ble_eq_true rfl, Nat.le_of_ble_eq_true rfl⟩) ⟨m_blind, va_recv hK (hP.one (e := .inr (8, [.ref (K 0 0), .ref (Lt 0 0)])) 0 rfl (Or.inr oW_mem)) (ci := 8) (q0 := 0) rfl rfl, fun U hU hW => ⟨rfl, m_pay hK hP.1 hE (fun _ _ h => any_in (i := 0) rfl h) U hU hW⟩⟩ rfl rfl hl.1 rfl (lv_room (Nat.le_of_ble_eq_true rfl)) dL_law_191 ⟨(by show cells + 0 + 0 + 0 ≤ 600074; omega), (by show slots + 0 + 0 + 0 ≤ 7301550; omega)⟩) hS (fun q _ h => hFc q h) hFc (fun r_18 u t H1 locs ht hvm hpo hB hz1 hk1 hS => ?_)
      obtain rfl := hpo
      obtain ⟨f_19, hP1⟩ := hB
      subst f_19
      rw [ht] at hP1
      have hP : ms (dC, dI) vwCl A [(fun q e => TW cy K (some s0) (U_slow a (nI zl).toNatClampNeg (nI z_11) (nI (1 + z_15))) κ τ q e ∨ oW ob (K 0 0) (Lt 0 0) q e), cel gp (gO ob bs qf (d + 1 + 1) nd nl nf), rwW cy 24 5 (qf 0) lr lv nl, rwW cy 10 6 (qf 9) fr9 fv nf, (TW cy Lt none b κt τt)] H1 := hP.call 0 rfl hk1 hFc hP1
      clear hP1 hk1 hFc
      generalize H1 = H at hP hS ⊢
      rw [nI_clamp (n := zl) (by omega)] at hP
      have hG := hG.slow hNF hzl hnl (ra := z_11) (tk := 1 + z_15) (by omega) (by omega) (by omega)
      refine W.eq (g2 := F0 m 194 ls [.int (a 2 zl 5)]) (by rw [nI_clamp (by omega)]) ?_
      refine lv_pop hx hb dL_law_194 rfl ?_
      refine lv_iload hx hb dL_law_195 (lv_at hl 6 rfl) ?_
      refine lv_iconst (v := 2) hx hb dL_law_197 (by decide) ?_
      refine lv_icmp_ne (tgt := 213) hx hb dL_law_198 (by decide) (fun _ => ?_) (fun c_20 => absurd c_20 (by rw [c_2]; decide))
      exact kk _ _ ls (d + 1 + 1) (U_slow a zl (nI z_11) (nI (1 + z_15))) κ (by omega) hG hP hS (lv_sub hl [0, 1, 2, 3, 4] rfl)
  · refine lv_aload_n hx hb dL_law_150 rfl (lv_at hl 3 rfl) ?_
    refine lv_iload hx hb dL_law_151 (lv_at hl 5 rfl) ?_
    refine lv_aload_n hx hb dL_law_153 rfl (lv_at hl 2 rfl) ?_
    refine lv_iconst (v := 2) hx hb dL_law_154 (by decide) ?_
    have hPc : ms (dC, dI) vwCl A ([cel gp (gO ob bs qf d nd nl nf)] ++ [(fun q e => TW cy K (some s0) a κ τ q e ∨ oW ob (K 0 0) (Lt 0 0) q e), rwW cy 24 5 (qf 0) lr lv nl, rwW cy 10 6 (qf 9) fr9 fv nf, (TW cy Lt none b κt τt)]) H := hP.sel [1, 0, 2, 3, 4] rfl (by decide)
    have hFc := g_free hPc hS hA
    refine va_calli (va_runV (As := [.int 2]) (rest := [.int (nI zl), .ref ob]) ⟨hx, hb, hml, hown, hts⟩ (c_draw l dC dI cy bs Ls xs gp ob qf d nd nl nf 2 H.size (by first | assumption | omega) (by first | assumption | omega) (by first | assumption | omega)) (tp_cwV 1 hts tw_1015 tw_1016 tw_1017 tw_19 tw_1018 rfl rfl (by decide +kernel) ⟨Nat.le_of_ble_eq_true rfl, Nat.le_of_ble_eq_true rfl⟩) ⟨g_blind, va_recv hK (hP.one (e := .inr (9, [.ref ob, .ref bs, .int (nI d), .int (nI nd), .int 0, .int 1, .int (nI nl), .ref (qf 0), .ref (qf 1), .ref (qf 2), .ref (qf 3), .ref (qf 4), .ref (qf 5), .ref (qf 6), .ref (qf 7), .ref (qf 8), .int (nI nf), .ref (qf 9), .int 0, .ref (qf 10), .ref (qf 11), .ref (qf 12), .ref (qf 13), .ref (qf 14), .ref (qf 15)])) 1 rfl cel_in) (ci := 9) (q0 := 0) rfl rfl, fun U hU hW => ⟨rfl, g_pay hK hPc hE hX hbl hbL hbA hS U hU hW⟩⟩ rfl rfl hl.1 rfl (lv_room (Nat.le_of_ble_eq_true rfl)) dL_law_155 ⟨(by show cells + 0 ≤ 600074; omega), (by show slots + 0 ≤ 7301550; omega)⟩) hS (fun q _ h => hFc q h) hFc (fun r_21 u t H1 locs ht hvm hpo hB hz1 hk1 hS => ?_)
    obtain rfl := hpo
    obtain ⟨z_22, f_23, f_24, hP1⟩ := hB
    rw [ht] at hP1
    have hPj := hPc.calls hk1 hFc hP1
    have hP : ms (dC, dI) vwCl A [(fun q e => TW cy K (some s0) a κ τ q e ∨ oW ob (K 0 0) (Lt 0 0) q e), cel gp (gO ob bs qf (d + 1) nd nl nf), rwW cy 24 5 (qf 0) lr lv nl, rwW cy 10 6 (qf 9) fr9 fv nf, (TW cy Lt none b κt τt)] H1 := hPj.sel [1, 0, 2, 3, 4] rfl (by decide)
    clear hPj hPc hP1 hk1 hFc
    generalize H1 = H at hP hS ⊢
    subst f_24
    have qB := f_23
    refine lv_if_ne (tgt := 165) hx hb dL_law_158 (by decide) (fun c_25 => ?_) (fun c_25 => ?_)
    · refine lv_iconst (v := 0) hx hb dL_law_165 (by decide) ?_
      have hFc := m_free (C := (fun q e => TW cy K (some s0) a κ τ q e ∨ oW ob (K 0 0) (Lt 0 0) q e)) hP.1 hS hA (fun _ _ h => any_in (i := 0) rfl h)
      refine va_calli (va_runV (As := [.int (nI zl), .int 0]) (rest := []) ⟨hx, hb, hml, hown, hts⟩ (c_shut l dC dI cy K ((some s0)) a κ τ ob ((Lt 0 0)) M (nI zl) 0 H.size hT hw hno hchk.1.2.2.2.2 (by first | exact Or.inl rfl | exact Or.inr rfl) hCV) (tp_cwV 2 hts tw_118 tw_119 tw_120 tw_20 tw_121 rfl rfl (by decide +kernel) ⟨Nat.le_of_ble_eq_true rfl, Nat.le_of_ble_eq_true rfl⟩) ⟨m_blind, va_recv hK (hP.one (e := .inr (8, [.ref (K 0 0), .ref (Lt 0 0)])) 0 rfl (Or.inr oW_mem)) (ci := 8) (q0 := 0) rfl rfl, fun U hU hW => ⟨rfl, m_pay hK hP.1 hE (fun _ _ h => any_in (i := 0) rfl h) U hU hW⟩⟩ rfl rfl hl.1 rfl (lv_room (Nat.le_of_ble_eq_true rfl)) dL_law_166 ⟨(by show cells + 0 + 0 ≤ 600074; omega), (by show slots + 0 + 0 ≤ 7301550; omega)⟩) hS (fun q _ h => hFc q h) hFc (fun r_26 u t H1 locs ht hvm hpo hB hz1 hk1 hS => ?_)
      obtain rfl := hpo
      obtain ⟨z_27, f_28, f_29, hP1⟩ := hB
      subst f_28
      rw [ht] at hP1
      have hP : ms (dC, dI) vwCl A [(fun q e => TW cy K (some s0) (U_shut a (nI zl).toNatClampNeg 0) z_27 τ q e ∨ oW ob (K 0 0) (Lt 0 0) q e), cel gp (gO ob bs qf (d + 1) nd nl nf), rwW cy 24 5 (qf 0) lr lv nl, rwW cy 10 6 (qf 9) fr9 fv nf, (TW cy Lt none b κt τt)] H1 := hP.call 0 rfl hk1 hFc hP1
      clear hP1 hk1 hFc
      generalize H1 = H at hP hS ⊢
      rw [nI_clamp (n := zl) (by omega)] at hP f_29
      have hG := hG.shut hNF hzl hnl (bo := 0) (by first | exact Or.inl rfl | exact Or.inr rfl) f_29
      refine W.eq (g2 := F0 m 169 ls [.int (a 2 zl 7)]) (by rw [nI_clamp (by omega)]) ?_
      refine lv_pop hx hb dL_law_169 rfl ?_
      refine lv_iload hx hb dL_law_170 (lv_at hl 6 rfl) ?_
      refine lv_iconst (v := 1) hx hb dL_law_172 (by decide) ?_
      refine lv_icmp_ne (tgt := 195) hx hb dL_law_173 (by decide) (fun _ => ?_) (fun c_30 => absurd c_30 (by rw [c_1]; decide))
      refine lv_iload hx hb dL_law_195 (lv_at hl 6 rfl) ?_
      refine lv_iconst (v := 2) hx hb dL_law_197 (by decide) ?_
      refine lv_icmp_ne (tgt := 213) hx hb dL_law_198 (by decide) (fun _ => ?_) (fun c_31 => absurd c_31 (by rw [c_1]; decide))
      exact kk _ _ ls (d + 1) (U_shut a zl 0) z_27 (by omega) hG hP hS (lv_sub hl [0, 1, 2, 3, 4] rfl)
    · refine lv_iconst (v := 1) hx hb dL_law_161 (by decide) ?_
      refine lv_goto (tgt := 166) hx hb dL_law_162 (by decide) ?_
      have hFc := m_free (C := (fun q e => TW cy K (some s0) a κ τ q e ∨ oW ob (K 0 0) (Lt 0 0) q e)) hP.1 hS hA (fun _ _ h => any_in (i := 0) rfl h)
      refine va_calli (va_runV (As := [.int (nI zl), .int 1]) (rest := []) ⟨hx, hb, hml, hown, hts⟩ (c_shut l dC dI cy K ((some s0)) a κ τ ob ((Lt 0 0)) M (nI zl) 1 H.size hT hw hno hchk.1.2.2.2.2 (by first | exact Or.inl rfl | exact Or.inr rfl) hCV) (tp_cwV 2 hts tw_118 tw_119 tw_120 tw_20 tw_121 rfl rfl (by decide +kernel) ⟨Nat.le_of_ble_eq_true rfl, Nat.le_of_ble_eq_true rfl⟩) ⟨m_blind, va_recv hK (hP.one (e := .inr (8, [.ref (K 0 0), .ref (Lt 0 0)])) 0 rfl (Or.inr oW_mem)) (ci := 8) (q0 := 0) rfl rfl, fun U hU hW => ⟨rfl, m_pay hK hP.1 hE (fun _ _ h => any_in (i := 0) rfl h) U hU hW⟩⟩ rfl rfl hl.1 rfl (lv_room (Nat.le_of_ble_eq_true rfl)) dL_law_166 ⟨(by show cells + 0 + 0 ≤ 600074; omega), (by show slots + 0 + 0 ≤ 7301550; omega)⟩) hS (fun q _ h => hFc q h) hFc (fun r_32 u t H1 locs ht hvm hpo hB hz1 hk1 hS => ?_)
      obtain rfl := hpo
      obtain ⟨z_33, f_34, f_35, hP1⟩ := hB
      subst f_34
      rw [ht] at hP1
      have hP : ms (dC, dI) vwCl A [(fun q e => TW cy K (some s0) (U_shut a (nI zl).toNatClampNeg 1) z_33 τ q e ∨ oW ob (K 0 0) (Lt 0 0) q e), cel gp (gO ob bs qf (d + 1) nd nl nf), rwW cy 24 5 (qf 0) lr lv nl, rwW cy 10 6 (qf 9) fr9 fv nf, (TW cy Lt none b κt τt)] H1 := hP.call 0 rfl hk1 hFc hP1
      clear hP1 hk1 hFc
      generalize H1 = H at hP hS ⊢
      rw [nI_clamp (n := zl) (by omega)] at hP f_35
      have hG := hG.shut hNF hzl hnl (bo := 1) (by first | exact Or.inl rfl | exact Or.inr rfl) f_35
      refine W.eq (g2 := F0 m 169 ls [.int (a 2 zl 7)]) (by rw [nI_clamp (by omega)]) ?_
      refine lv_pop hx hb dL_law_169 rfl ?_
      refine lv_iload hx hb dL_law_170 (lv_at hl 6 rfl) ?_
      refine lv_iconst (v := 1) hx hb dL_law_172 (by decide) ?_
      refine lv_icmp_ne (tgt := 195) hx hb dL_law_173 (by decide) (fun _ => ?_) (fun c_36 => absurd c_36 (by rw [c_1]; decide))
      refine lv_iload hx hb dL_law_195 (lv_at hl 6 rfl) ?_
      refine lv_iconst (v := 2) hx hb dL_law_197 (by decide) ?_
      refine lv_icmp_ne (tgt := 213) hx hb dL_law_198 (by decide) (fun _ => ?_) (fun c_37 => absurd c_37 (by rw [c_1]; decide))
      exact kk _ _ ls (d + 1) (U_shut a zl 1) z_33 (by omega) hG hP hS (lv_sub hl [0, 1, 2, 3, 4] rfl)
