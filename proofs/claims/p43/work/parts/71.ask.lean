theorem ap_of {cy : Nat → ClassId} {Ps : List mP} {K Lt : Lay} {s0 : Nat} {a b : St} {κ κt : Kap} {τ τt : Tau} {X : mP} (h : djP Ps) (h0 : Ps[0]? = some (fun q e => TW cy K (some s0) a κ τ q e ∨ X q e)) (h4 : Ps[4]? = some (TW cy Lt none b κt τt)) : AP Lt K (some s0) τ := by
  have hd : ∀ (q q' : Nat) (e y : va_E), q = q' → TW cy K (some s0) a κ τ q e → TW cy Lt none b κt τt q' y → False := by
    rintro q q' e y rfl h1 h2
    exact absurd (h 0 4 _ _ q e y h0 h4 (Or.inl h1) h2) (by decide)
  refine ⟨fun f i g j hi hj e => hd _ _ _ _ e.symm (tw_mem hj rfl) (tw_mem hi rfl), fun t ht f i hi => ?_⟩
  cases ht
  exact ⟨fun e => hd _ _ _ _ e.symm (Or.inr ⟨_, rfl, Or.inl ⟨rfl, rfl⟩⟩) (tw_mem hi rfl), fun e => hd _ _ _ _ e.symm (Or.inr ⟨_, rfl, Or.inr (Or.inl ⟨rfl, rfl⟩)⟩) (tw_mem hi rfl), fun v hv e => hd _ _ _ _ e.symm (Or.inr ⟨_, rfl, Or.inr (Or.inr ⟨v, hv, rfl, rfl⟩)⟩) (tw_mem hi rfl)⟩
theorem nI_nonneg {n : Nat} (h : n < 2 ^ 31) : 0 ≤ nI n := by
  rw [Int32.le_iff_toInt_le, nI_toInt h]
  show (0 : Int) ≤ n
  omega
theorem nV_pos {n : Nat} (h : ¬ nI n = 0) : 0 < n := by
  rcases Nat.eq_zero_or_pos n with h0 | h0
  · exact absurd (by rw [h0]; rfl) h
  · exact h0
theorem cst_c (N : Nat) (h : N ≤ 6) {s0 : Nat} : 84 * cT (some s0) * N ≤ 504 := by
  show 84 * 1 * N ≤ 504
  omega
theorem cst_s (N : Nat) (h : N ≤ 6) {s0 : Nat} : 84 * pB (some s0) 3100 * N ≤ 260568 := by
  show 84 * (1 * (2 * (3100 / 12) + 1)) * N ≤ 260568
  omega
theorem tw_500 : Cond.code yX8_digest cX8_digest 3 (some .long) ∈ tp_all := tp_mem 500 (by decide +kernel) rfl
theorem tw_497 : Cond.methodLink RL 53 yX8_digest ∈ tp_all := tp_mem 497 (by decide +kernel) rfl
theorem tw_498 : Cond.instanceMethod yX8_digest ∈ tp_all := tp_mem 498 (by decide +kernel) rfl
theorem tw_499 : Cond.selects RX8 yX8_digest yX8_digest ∈ tp_all := tp_mem 499 (by decide +kernel) rfl
theorem tw_493 : Cond.methodLink RL 57 yX8_emptyIn ∈ tp_all := tp_mem 493 (by decide +kernel) rfl
theorem tw_494 : Cond.instanceMethod yX8_emptyIn ∈ tp_all := tp_mem 494 (by decide +kernel) rfl
theorem tw_495 : Cond.selects RX8 yX8_emptyIn yX8_emptyIn ∈ tp_all := tp_mem 495 (by decide +kernel) rfl
theorem tw_496 : Cond.code yX8_emptyIn cX8_emptyIn 3 (some .int) ∈ tp_all := tp_mem 496 (by decide +kernel) rfl
theorem tw_456 : Cond.methodLink RL 64 yX8_arrivesIn ∈ tp_all := tp_mem 456 (by decide +kernel) rfl
theorem tw_457 : Cond.instanceMethod yX8_arrivesIn ∈ tp_all := tp_mem 457 (by decide +kernel) rfl
theorem tw_458 : Cond.selects RX8 yX8_arrivesIn yX8_arrivesIn ∈ tp_all := tp_mem 458 (by decide +kernel) rfl
theorem tw_459 : Cond.code yX8_arrivesIn cX8_arrivesIn 5 (some .int) ∈ tp_all := tp_mem 459 (by decide +kernel) rfl
theorem tw_371 : Cond.methodLink RL 71 yX8_clock ∈ tp_all := tp_mem 371 (by decide +kernel) rfl
theorem tw_158 : Cond.code yX8_step cX8_step 3 (some .int) ∈ tp_all := tp_mem 158 (by decide +kernel) rfl
theorem tw_155 : Cond.methodLink RL 74 yX8_step ∈ tp_all := tp_mem 155 (by decide +kernel) rfl
theorem tw_156 : Cond.instanceMethod yX8_step ∈ tp_all := tp_mem 156 (by decide +kernel) rfl
theorem tw_157 : Cond.selects RX8 yX8_step yX8_step ∈ tp_all := tp_mem 157 (by decide +kernel) rfl
theorem dL_law_213 : decode cL_law 213 = .ok (.iconst 1, 1) := by decide +kernel
theorem dL_law_214 : decode cL_law 214 = .ok (.aload_n 2, 1) := by decide +kernel
theorem dL_law_215 : decode cL_law 215 = .ok (.bipush 6, 2) := by decide +kernel
theorem dL_law_217 : decode cL_law 217 = .ok (.invokevirtual 26, 3) := by decide +kernel
theorem dL_law_220 : decode cL_law 220 = .ok (.iadd, 1) := by decide +kernel
theorem dL_law_221 : decode cL_law 221 = .ok (.istore 7, 2) := by decide +kernel
theorem dL_law_223 : decode cL_law 223 = .ok (.aload_n 3, 1) := by decide +kernel
theorem dL_law_224 : decode cL_law 224 = .ok (.invokevirtual 53, 3) := by decide +kernel
theorem dL_law_227 : decode cL_law 227 = .ok (.lstore 8, 2) := by decide +kernel
theorem dL_law_229 : decode cL_law 229 = .ok (.aload_n 3, 1) := by decide +kernel
theorem dL_law_230 : decode cL_law 230 = .ok (.iload 7, 2) := by decide +kernel
theorem dL_law_232 : decode cL_law 232 = .ok (.invokevirtual 57, 3) := by decide +kernel
theorem dL_law_235 : decode cL_law 235 = .ok (.istore 10, 2) := by decide +kernel
theorem dL_law_237 : decode cL_law 237 = .ok (.aload_n 3, 1) := by decide +kernel
theorem dL_law_238 : decode cL_law 238 = .ok (.invokevirtual 60, 3) := by decide +kernel
theorem dL_law_241 : decode cL_law 241 = .ok (.ifCond .ne 7, 3) := by decide +kernel
theorem dL_law_248 : decode cL_law 248 = .ok (.aload_n 2, 1) := by decide +kernel
theorem dL_law_249 : decode cL_law 249 = .ok (.aload_n 3, 1) := by decide +kernel
theorem dL_law_250 : decode cL_law 250 = .ok (.invokevirtual 60, 3) := by decide +kernel
theorem dL_law_253 : decode cL_law 253 = .ok (.invokevirtual 26, 3) := by decide +kernel
theorem dL_law_256 : decode cL_law 256 = .ok (.istore 11, 2) := by decide +kernel
theorem dL_law_258 : decode cL_law 258 = .ok (.iload 11, 2) := by decide +kernel
theorem dL_law_260 : decode cL_law 260 = .ok (.ifCond .ge 7, 3) := by decide +kernel
theorem dL_law_267 : decode cL_law 267 = .ok (.aload_n 3, 1) := by decide +kernel
theorem dL_law_268 : decode cL_law 268 = .ok (.iload 11, 2) := by decide +kernel
theorem dL_law_270 : decode cL_law 270 = .ok (.iload 7, 2) := by decide +kernel
theorem dL_law_272 : decode cL_law 272 = .ok (.invokevirtual 64, 3) := by decide +kernel
theorem dL_law_275 : decode cL_law 275 = .ok (.istore 12, 2) := by decide +kernel
theorem dL_law_277 : decode cL_law 277 = .ok (.aload_n 3, 1) := by decide +kernel
theorem dL_law_278 : decode cL_law 278 = .ok (.invokevirtual 53, 3) := by decide +kernel
theorem dL_law_281 : decode cL_law 281 = .ok (.lload 8, 2) := by decide +kernel
theorem dL_law_283 : decode cL_law 283 = .ok (.lcmp, 1) := by decide +kernel
theorem dL_law_284 : decode cL_law 284 = .ok (.ifCond .ne 23, 3) := by decide +kernel
theorem dL_law_287 : decode cL_law 287 = .ok (.iload 11, 2) := by decide +kernel
theorem dL_law_289 : decode cL_law 289 = .ok (.ifCond .lt 20, 3) := by decide +kernel
theorem dL_law_292 : decode cL_law 292 = .ok (.aload_n 3, 1) := by decide +kernel
theorem dL_law_293 : decode cL_law 293 = .ok (.iload 11, 2) := by decide +kernel
theorem dL_law_295 : decode cL_law 295 = .ok (.invokevirtual 68, 3) := by decide +kernel
theorem dL_law_298 : decode cL_law 298 = .ok (.iconst 2, 1) := by decide +kernel
theorem dL_law_299 : decode cL_law 299 = .ok (.if_icmp .ne 10, 3) := by decide +kernel
theorem dL_law_309 : decode cL_law 309 = .ok (.aload_n 3, 1) := by decide +kernel
theorem dL_law_310 : decode cL_law 310 = .ok (.invokevirtual 71, 3) := by decide +kernel
theorem dL_law_313 : decode cL_law 313 = .ok (.istore 13, 2) := by decide +kernel
theorem dL_law_315 : decode cL_law 315 = .ok (.aload_n 3, 1) := by decide +kernel
theorem dL_law_316 : decode cL_law 316 = .ok (.iload 7, 2) := by decide +kernel
theorem dL_law_318 : decode cL_law 318 = .ok (.invokevirtual 74, 3) := by decide +kernel
theorem dL_law_321 : decode cL_law 321 = .ok (.iload 13, 2) := by decide +kernel
theorem dL_law_323 : decode cL_law 323 = .ok (.iload 7, 2) := by decide +kernel
theorem dL_law_325 : decode cL_law 325 = .ok (.iadd, 1) := by decide +kernel
theorem dL_law_326 : decode cL_law 326 = .ok (.if_icmp .eq 5, 3) := by decide +kernel
theorem dL_law_331 : decode cL_law 331 = .ok (.iload 11, 2) := by decide +kernel
theorem dL_law_333 : decode cL_law 333 = .ok (.ifCond .lt 33, 3) := by decide +kernel
theorem dL_law_336 : decode cL_law 336 = .ok (.iload 12, 2) := by decide +kernel
theorem dL_law_338 : decode cL_law 338 = .ok (.ifCond .lt 7, 3) := by decide +kernel
theorem dL_law_345 : decode cL_law 345 = .ok (.iconst 0, 1) := by decide +kernel
theorem dL_law_346 : decode cL_law 346 = .ok (.aload_n 3, 1) := by decide +kernel
theorem dL_law_347 : decode cL_law 347 = .ok (.iload 11, 2) := by decide +kernel
theorem dL_law_349 : decode cL_law 349 = .ok (.invokevirtual 68, 3) := by decide +kernel
theorem dL_law_352 : decode cL_law 352 = .ok (.iconst 2, 1) := by decide +kernel
theorem dL_law_353 : decode cL_law 353 = .ok (.if_icmp .ne 7, 3) := by decide +kernel
theorem dL_law_360 : decode cL_law 360 = .ok (.iconst 0, 1) := by decide +kernel
theorem dL_law_361 : decode cL_law 361 = .ok (.if_icmp .eq 5, 3) := by decide +kernel
theorem dL_law_356 : decode cL_law 356 = .ok (.iconst 1, 1) := by decide +kernel
theorem dL_law_357 : decode cL_law 357 = .ok (.goto 4, 3) := by decide +kernel
theorem dL_law_341 : decode cL_law 341 = .ok (.iconst 1, 1) := by decide +kernel
theorem dL_law_342 : decode cL_law 342 = .ok (.goto 4, 3) := by decide +kernel
theorem dL_law_302 : decode cL_law 302 = .ok (.iload 12, 2) := by decide +kernel
theorem dL_law_304 : decode cL_law 304 = .ok (.ifCond .eq 5, 3) := by decide +kernel
theorem dL_law_244 : decode cL_law 244 = .ok (.iconst (-1), 1) := by decide +kernel
theorem dL_law_245 : decode cL_law 245 = .ok (.goto 11, 3) := by decide +kernel
theorem dL_law_263 : decode cL_law 263 = .ok (.iconst (-1), 1) := by decide +kernel
theorem dL_law_264 : decode cL_law 264 = .ok (.goto 11, 3) := by decide +kernel
set_option maxRecDepth 100000 in
set_option maxHeartbeats 4000000 in
/-- what is asked, and the step -/
theorem lx_ask {p : Program} {l : Launch} {e : Env} {s : State} {m : MethodId} {below : List Frame} {meth : Method} {c : Code} {A : Nat → Prop} {dC : Nat → ClassId} {dI : Nat → Nat → Nat} {cy : Nat → ClassId} {bs Ls : Nat} {xs : Nat → Int32} {Q : State → Prop} {cells slots : Nat} (C1 : lx_At p s m meth c A bs Ls xs dC dI cy) (hcells : cells ≤ 590000) (hslots : slots ≤ 7040000) {gp : Nat} {ob : Nat} {qf : Nat → Nat} {d : Nat} {nd : Nat} {nl : Nat} {nf : Nat} {lr : Nat → Nat} {lv : Tb} {fr9 : Nat → Nat} {fv : Tb} {K : Lay} {s0 : Nat} {Lt : Lay} {a : St} {κ : Kap} {τ : Tau} {b : St} {κt : Kap} {τt : Tau} {M : Nat} {ck : Nat} (Inv : IPr) (hNF : NumFace Inv) (hnd : nd ≤ 12) (hnl : nl ≤ 24) (hnf : nf ≤ 10) (hG : SG Inv nd nl nf lv fv ck M K s0 a κ τ) (hd : d < 900000) (hck : ck + 6 ≤ 999) (Mb : Nat) (hM2 : M ≤ 2520) (hMb : Mb < 9000) (hMM : M ≤ Mb) (hwb : Wf Mb b) (hTt : TL Lt none τt) (tm : Int32) (sp9 : Int32) (H : Heap) (locs : List Loc) (ls : Array Slot) (hP : ms (dC, dI) vwCl A [(fun q e => TW cy K (some s0) a κ τ q e ∨ oW ob (K 0 0) (Lt 0 0) q e), cel gp (gO ob bs qf d nd nl nf), rwW cy 24 5 (qf 0) lr lv nl, rwW cy 10 6 (qf 9) fr9 fv nf, (TW cy Lt none b κt τt)] H) (hS : va_S A s.heap H locs) (hl : lv_has ls 24 [(0, .ref bs), (1, .int tm), (2, .ref gp), (3, .ref ob), (4, .int sp9)]) (kk : ∀ (H : Heap) (locs : List Loc) (ls : Array Slot) (N : Nat) (em : Int32) (d2 : Nat) (a2 : St) (κ2 : Kap) (τ2 : Tau) (b2 : St) (κt2 : Kap) (τt2 : Tau), 1 ≤ N → N ≤ 6 → d2 ≤ d + 2 → SG Inv nd nl nf lv fv (ck + N) (M + 504) K s0 a2 κ2 τ2 → Wf (Mb + 1008) b2 → TL Lt none τt2 → ((em = nI N → onE a2 nl + wtE a2 nd = 0) ∧ (onE a2 nl + wtE a2 nd = 0 → ¬ em < 0)) → ms (dC, dI) vwCl A [(fun q e => TW cy K (some s0) a2 κ2 τ2 q e ∨ oW ob (K 0 0) (Lt 0 0) q e), cel gp (gO ob bs qf d2 nd nl nf), rwW cy 24 5 (qf 0) lr lv nl, rwW cy 10 6 (qf 9) fr9 fv nf, (TW cy Lt none b2 κt2 τt2)] H → va_S A s.heap H locs → lv_has ls 24 [(0, .ref bs), (1, .int tm), (2, .ref gp), (3, .ref ob), (4, .int sp9), (7, .int (nI N)), (10, .int em)] → W p l e room_1 s m #[.ref bs] below meth c H locs (cells + 504) (slots + 260568) Q (F0 m 366 ls [])) : W p l e room_1 s m #[.ref bs] below meth c H locs cells slots Q (F0 m 213 ls []) := by
  obtain ⟨hx, hb, hr, hml, hown, hts, hX, hbl, hbL, hlocks, hK, hE, hA, hbA⟩ := C1
  have hl : lv_has ls 24 [(0, .ref bs), (1, .int tm), (2, .ref gp), (3, .ref ob), (4, .int sp9)] := hl
  have hAP := ap_of hP.2 rfl rfl
  obtain ⟨hT, hw, hCV, hTR, hIv⟩ := hG
  obtain ⟨-, hI⟩ := hNF
  have hI0 := hI _ _ _ _ _ _ _ hIv
  obtain ⟨-, -, -, hIt, hchk, hIe, hIa⟩ := hI0
  obtain ⟨hc0, hc1, hc2, hc3, hsh⟩ := hchk.1
  refine lv_iconst (v := 1) hx hb dL_law_213 (by decide) ?_
  refine lv_aload_n hx hb dL_law_214 rfl (lv_at hl 2 rfl) ?_
  refine lv_bipush (v := 6) hx hb dL_law_215 (by decide) ?_
  have hPc : ms (dC, dI) vwCl A ([cel gp (gO ob bs qf d nd nl nf)] ++ [(fun q e => TW cy K (some s0) a κ τ q e ∨ oW ob (K 0 0) (Lt 0 0) q e), rwW cy 24 5 (qf 0) lr lv nl, rwW cy 10 6 (qf 9) fr9 fv nf, (TW cy Lt none b κt τt)]) H := hP.sel [1, 0, 2, 3, 4] rfl (by decide)
  have hFc := g_free hPc hS hA
  refine va_calli (va_runV (As := [.int 6]) (rest := [.int 1]) ⟨hx, hb, hml, hown, hts⟩ (c_draw l dC dI cy bs Ls xs gp ob qf d nd nl nf 6 H.size (by first | assumption | omega) (by first | assumption | omega) (by first | assumption | omega)) (tp_cwV 1 hts tw_1015 tw_1016 tw_1017 tw_19 tw_1018 rfl rfl (by decide +kernel) ⟨Nat.le_of_ble_eq_true rfl, Nat.le_of_ble_eq_true rfl⟩) ⟨g_blind, va_recv hK (hP.one (e := .inr (9, [.ref ob, .ref bs, .int (nI d), .int (nI nd), .int 0, .int 1, .int (nI nl), .ref (qf 0), .ref (qf 1), .ref (qf 2), .ref (qf 3), .ref (qf 4), .ref (qf 5), .ref (qf 6), .ref (qf 7), .ref (qf 8), .int (nI nf), .ref (qf 9), .int 0, .ref (qf 10), .ref (qf 11), .ref (qf 12), .ref (qf 13), .ref (qf 14), .ref (qf 15)])) 1 rfl cel_in) (ci := 9) (q0 := 0) rfl rfl, fun U hU hW => ⟨rfl, g_pay hK hPc hE hX hbl hbL hbA hS U hU hW⟩⟩ rfl rfl hl.1 rfl (lv_room (Nat.le_of_ble_eq_true rfl)) dL_law_217 ⟨(by show cells + 0 ≤ 600074; omega), (by show slots + 0 ≤ 7301550; omega)⟩) hS (fun q _ h => hFc q h) hFc (fun r_1 u t H1 locs ht hvm hpo hB hz1 hk1 hS => ?_)
  obtain rfl := hpo
  obtain ⟨z_2, f_3, f_4, hP1⟩ := hB
  rw [ht] at hP1
  have hPj := hPc.calls hk1 hFc hP1
  have hP : ms (dC, dI) vwCl A [(fun q e => TW cy K (some s0) a κ τ q e ∨ oW ob (K 0 0) (Lt 0 0) q e), cel gp (gO ob bs qf (d + 1) nd nl nf), rwW cy 24 5 (qf 0) lr lv nl, rwW cy 10 6 (qf 9) fr9 fv nf, (TW cy Lt none b κt τt)] H1 := hPj.sel [1, 0, 2, 3, 4] rfl (by decide)
  clear hPj hPc hP1 hk1 hFc
  generalize H1 = H at hP hS ⊢
  subst f_4
  have qN := f_3
  refine lv_iadd hx hb dL_law_220 ?_
  refine W.eq (g2 := F0 m 221 ls [.int (nI (1 + z_2))]) (by rw [show (1 : Int32) = nI 1 from rfl, nI_add]) ?_
  refine lv_istore (lv' := [(7, .int (nI (1 + z_2))), (0, .ref bs), (1, .int tm), (2, .ref gp), (3, .ref ob), (4, .int sp9)]) hx hb dL_law_221 hl (by decide) rfl (fun ls hl => ?_)
  obtain ⟨N, eN9⟩ : ∃ y : Nat, y = 1 + z_2 := ⟨_, rfl⟩
  have hN1 : 1 ≤ N := by omega
  have hN6 : N ≤ 6 := by omega
  rw [← eN9] at hl
  have hck0 : 0 ≤ (a 0 0 0).toInt := by rw [hc0, nI_toInt (by omega)]; omega
  have hck2 : (a 0 0 0).toInt + N < 2 ^ 31 := by rw [hc0, nI_toInt (by omega)]; omega
  have hv200 : nV a ≤ 200 := in_le hw.1.2.2.2
  refine lv_aload_n hx hb dL_law_223 rfl (lv_at hl 4 rfl) ?_
  have hFc := m_free (C := (fun q e => TW cy K (some s0) a κ τ q e ∨ oW ob (K 0 0) (Lt 0 0) q e)) hP.1 hS hA (fun _ _ h => any_in (i := 0) rfl h)
  refine va_calll (va_runV (As := []) (rest := []) ⟨hx, hb, hml, hown, hts⟩ (c_digest l dC dI cy K ((some s0)) a κ τ ob ((Lt 0 0)) M H.size hT hw hsh hCV) (tp_cwV 0 hts tw_497 tw_498 tw_499 tw_20 tw_500 rfl rfl (by decide +kernel) ⟨Nat.le_of_ble_eq_true rfl, Nat.le_of_ble_eq_true rfl⟩) ⟨m_blind, va_recv hK (hP.one (e := .inr (8, [.ref (K 0 0), .ref (Lt 0 0)])) 0 rfl (Or.inr oW_mem)) (ci := 8) (q0 := 0) rfl rfl, fun U hU hW => ⟨rfl, m_pay hK hP.1 hE (fun _ _ h => any_in (i := 0) rfl h) U hU hW⟩⟩ rfl rfl hl.1 rfl (lv_room (Nat.le_of_ble_eq_true rfl)) dL_law_224 ⟨(by show cells + 0 + 0 ≤ 600074; omega), (by show slots + 0 + 0 ≤ 7301550; omega)⟩) hS (fun q _ h => hFc q h) hFc (fun r_5 u t H1 locs ht hvm hpo hB hz1 hk1 hS => ?_)
  obtain rfl := hpo
  obtain ⟨z_6, f_7, f_8, hP1⟩ := hB
  subst f_7
  rw [ht] at hP1
  have hP : ms (dC, dI) vwCl A [(fun q e => TW cy K (some s0) a z_6 τ q e ∨ oW ob (K 0 0) (Lt 0 0) q e), cel gp (gO ob bs qf (d + 1) nd nl nf), rwW cy 24 5 (qf 0) lr lv nl, rwW cy 10 6 (qf 9) fr9 fv nf, (TW cy Lt none b κt τt)] H1 := hP.call 0 rfl hk1 hFc hP1
  clear hP1 hk1 hFc
  generalize H1 = H at hP hS ⊢
  clear hCV
  have hCV := f_8
  refine lv_lstore (lv' := [(8, .long (D_all a)), (7, .int (nI N)), (0, .ref bs), (1, .int tm), (2, .ref gp), (3, .ref ob), (4, .int sp9)]) hx hb dL_law_227 hl (by decide) rfl (fun ls hl => ?_)
  refine lv_aload_n hx hb dL_law_229 rfl (lv_at hl 5 rfl) ?_
  refine lv_iload hx hb dL_law_230 (lv_at hl 1 rfl) ?_
  have hPm : ms (dC, dI) vwCl A [(fun q e => TW cy Lt none b κt τt q e ∨ TW cy K (some s0) a z_6 τ q e ∨ oW ob (K 0 0) (Lt 0 0) q e), cel gp (gO ob bs qf (d + 1) nd nl nf), rwW cy 24 5 (qf 0) lr lv nl, rwW cy 10 6 (qf 9) fr9 fv nf] H := (hP.sel [4, 0, 1, 2, 3] rfl (by decide)).merge
  have hFc := m_free (C := (fun q e => TW cy Lt none b κt τt q e ∨ TW cy K (some s0) a z_6 τ q e ∨ oW ob (K 0 0) (Lt 0 0) q e)) hPm.1 hS hA (fun _ _ h => any_in (i := 0) rfl h)
  refine va_calli (va_runV (As := [.int (nI N)]) (rest := []) ⟨hx, hb, hml, hown, hts⟩ (c_emptyIn l dC dI cy Lt b κt τt K s0 a z_6 τ ob Mb N H.size hTt hT hAP (hw.mono (by omega)) hwb hsh hN1 (by omega) (by omega) hck0 hck2) (tp_cwV 1 hts tw_493 tw_494 tw_495 tw_20 tw_496 rfl rfl (by decide +kernel) ⟨Nat.le_of_ble_eq_true rfl, Nat.le_of_ble_eq_true rfl⟩) ⟨m_blind, va_recv hK (hPm.one (e := .inr (8, [.ref (K 0 0), .ref (Lt 0 0)])) 0 rfl (Or.inr (Or.inr oW_mem))) (ci := 8) (q0 := 0) rfl rfl, fun U hU hW => ⟨rfl, m_pay hK hPm.1 hE (fun _ _ h => any_in (i := 0) rfl h) U hU hW⟩⟩ rfl rfl hl.1 rfl (lv_room (Nat.le_of_ble_eq_true rfl)) dL_law_232 ⟨(by show cells + 0 + 0 + 0 ≤ 600074; omega), (by show slots + 0 + 0 + 0 ≤ 7301550; omega)⟩) hS (fun q _ h => hFc q h) hFc (fun r3 u t H1 locs ht hvm hpo hB hz1 hk1 hS => ?_)
  obtain rfl := hpo
  obtain ⟨b3, κ3, τ3, f3, hwb3, hP1⟩ := hB
  subst f3
  rw [ht] at hP1
  have hPc := (hPm.call 0 rfl hk1 hFc hP1).split (P := TW cy Lt none b3 κ3 τ3) (Q := (fun q e => TW cy K (some s0) a z_6 τ q e ∨ oW ob (K 0 0) (Lt 0 0) q e)) (fun q e y h1 h2 => by
      rcases h2 with h2 | h2
      · exact ap_dis hAP h2 h1
      · exact ow_dis ((hPm.call 0 rfl hk1 hFc hP1).part 0 rfl) (fun _ _ h => Or.inl h) (fun _ _ h => Or.inr (Or.inr h)) h2 h1)
  have hP : ms (dC, dI) vwCl A [(fun q e => TW cy K (some s0) a z_6 τ q e ∨ oW ob (K 0 0) (Lt 0 0) q e), cel gp (gO ob bs qf (d + 1) nd nl nf), rwW cy 24 5 (qf 0) lr lv nl, rwW cy 10 6 (qf 9) fr9 fv nf, (TW cy Lt none b3 κ3 τ3)] H1 := hPc.sel [1, 2, 3, 4, 0] rfl (by decide)
  clear hPm hFc hPc hP1 hk1
  generalize H1 = H at hP hS ⊢
  refine W.eq (g2 := F0 m 235 ls [.int (eIn N b a)]) rfl ?_
  have hTt3 : TL Lt none τ3 := hTt.none
  refine lv_istore (lv' := [(10, .int (eIn N b a)), (8, .long (D_all a)), (7, .int (nI N)), (0, .ref bs), (1, .int tm), (2, .ref gp), (3, .ref ob), (4, .int sp9)]) hx hb dL_law_235 hl (by decide) rfl (fun ls hl => ?_)
  refine lv_aload_n hx hb dL_law_237 rfl (lv_at hl 6 rfl) ?_
  have hFc := m_free (C := (fun q e => TW cy K (some s0) a z_6 τ q e ∨ oW ob (K 0 0) (Lt 0 0) q e)) hP.1 hS hA (fun _ _ h => any_in (i := 0) rfl h)
  refine va_calli (va_runV (As := []) (rest := []) ⟨hx, hb, hml, hown, hts⟩ (c_vehicles l dC dI cy K ((some s0)) a z_6 τ ob ((Lt 0 0)) H.size hT) (tp_cwV 0 hts tw_379 tw_380 tw_381 tw_20 tw_382 rfl rfl (by decide +kernel) ⟨Nat.le_of_ble_eq_true rfl, Nat.le_of_ble_eq_true rfl⟩) ⟨m_blind, va_recv hK (hP.one (e := .inr (8, [.ref (K 0 0), .ref (Lt 0 0)])) 0 rfl (Or.inr oW_mem)) (ci := 8) (q0 := 0) rfl rfl, fun U hU hW => ⟨rfl, m_pay hK hP.1 hE (fun _ _ h => any_in (i := 0) rfl h) U hU hW⟩⟩ rfl rfl hl.1 rfl (lv_room (Nat.le_of_ble_eq_true rfl)) dL_law_238 ⟨(by show cells + 0 + 0 + 0 ≤ 600074; omega), (by show slots + 0 + 0 + 0 ≤ 7301550; omega)⟩) hS (fun q _ h => hFc q h) hFc (fun r_9 u t H1 locs ht hvm hpo hB hz1 hk1 hS => ?_)
  obtain rfl := hpo
  obtain ⟨f_10, hP1⟩ := hB
  subst f_10
  rw [ht] at hP1
  have hP : ms (dC, dI) vwCl A [(fun q e => TW cy K (some s0) a z_6 τ q e ∨ oW ob (K 0 0) (Lt 0 0) q e), cel gp (gO ob bs qf (d + 1) nd nl nf), rwW cy 24 5 (qf 0) lr lv nl, rwW cy 10 6 (qf 9) fr9 fv nf, (TW cy Lt none b3 κ3 τ3)] H1 := hP.call 0 rfl hk1 hFc hP1
  clear hP1 hk1 hFc
  generalize H1 = H at hP hS ⊢
  refine W.eq (g2 := F0 m 241 ls [.int (nI (nV a))]) (by rw [← m_n0 hw.1.2.2.2.1]) ?_
  refine lv_if_ne (tgt := 248) hx hb dL_law_241 (by decide) (fun c_11 => ?_) (fun c_11 => ?_)
  · refine lv_aload_n hx hb dL_law_248 rfl (lv_at hl 5 rfl) ?_
    refine lv_aload_n hx hb dL_law_249 rfl (lv_at hl 6 rfl) ?_
    have hFc := m_free (C := (fun q e => TW cy K (some s0) a z_6 τ q e ∨ oW ob (K 0 0) (Lt 0 0) q e)) hP.1 hS hA (fun _ _ h => any_in (i := 0) rfl h)
    refine va_calli (va_runV (As := []) (rest := [.ref gp]) ⟨hx, hb, hml, hown, hts⟩ (c_vehicles l dC dI cy K ((some s0)) a z_6 τ ob ((Lt 0 0)) H.size hT) (tp_cwV 0 hts tw_379 tw_380 tw_381 tw_20 tw_382 rfl rfl (by decide +kernel) ⟨Nat.le_of_ble_eq_true rfl, Nat.le_of_ble_eq_true rfl⟩) ⟨m_blind, va_recv hK (hP.one (e := .inr (8, [.ref (K 0 0), .ref (Lt 0 0)])) 0 rfl (Or.inr oW_mem)) (ci := 8) (q0 := 0) rfl rfl, fun U hU hW => ⟨rfl, m_pay hK hP.1 hE (fun _ _ h => any_in (i := 0) rfl h) U hU hW⟩⟩ rfl rfl hl.1 rfl (lv_room (Nat.le_of_ble_eq_true rfl)) dL_law_250 ⟨(by show cells + 0 + 0 + 0 + 0 ≤ 600074; omega), (by show slots + 0 + 0 + 0 + 0 ≤ 7301550; omega)⟩) hS (fun q _ h => hFc q h) hFc (fun r_12 u t H1 locs ht hvm hpo hB hz1 hk1 hS => ?_)
    obtain rfl := hpo
    obtain ⟨f_13, hP1⟩ := hB
    subst f_13
    rw [ht] at hP1
    have hP : ms (dC, dI) vwCl A [(fun q e => TW cy K (some s0) a z_6 τ q e ∨ oW ob (K 0 0) (Lt 0 0) q e), cel gp (gO ob bs qf (d + 1) nd nl nf), rwW cy 24 5 (qf 0) lr lv nl, rwW cy 10 6 (qf 9) fr9 fv nf, (TW cy Lt none b3 κ3 τ3)] H1 := hP.call 0 rfl hk1 hFc hP1
    clear hP1 hk1 hFc
    generalize H1 = H at hP hS ⊢
    refine W.eq (g2 := F0 m 253 ls [.int (nI (nV a)), .ref gp]) (by rw [← m_n0 hw.1.2.2.2.1]) ?_
    have hPc : ms (dC, dI) vwCl A ([cel gp (gO ob bs qf (d + 1) nd nl nf)] ++ [(fun q e => TW cy K (some s0) a z_6 τ q e ∨ oW ob (K 0 0) (Lt 0 0) q e), rwW cy 24 5 (qf 0) lr lv nl, rwW cy 10 6 (qf 9) fr9 fv nf, (TW cy Lt none b3 κ3 τ3)]) H := hP.sel [1, 0, 2, 3, 4] rfl (by decide)
    have hFc := g_free hPc hS hA
    refine va_calli (va_runV (As := [.int (nI (nV a))]) (rest := []) ⟨hx, hb, hml, hown, hts⟩ (c_draw l dC dI cy bs Ls xs gp ob qf (d + 1) nd nl nf (nV a) H.size (nV_pos c_11) (by omega) (by omega)) (tp_cwV 1 hts tw_1015 tw_1016 tw_1017 tw_19 tw_1018 rfl rfl (by decide +kernel) ⟨Nat.le_of_ble_eq_true rfl, Nat.le_of_ble_eq_true rfl⟩) ⟨g_blind, va_recv hK (hP.one (e := .inr (9, [.ref ob, .ref bs, .int (nI (d + 1)), .int (nI nd), .int 0, .int 1, .int (nI nl), .ref (qf 0), .ref (qf 1), .ref (qf 2), .ref (qf 3), .ref (qf 4), .ref (qf 5), .ref (qf 6), .ref (qf 7), .ref (qf 8), .int (nI nf), .ref (qf 9), .int 0, .ref (qf 10), .ref (qf 11), .ref (qf 12), .ref (qf 13), .ref (qf 14), .ref (qf 15)])) 1 rfl cel_in) (ci := 9) (q0 := 0) rfl rfl, fun U hU hW => ⟨rfl, g_pay hK hPc hE hX hbl hbL hbA hS U hU hW⟩⟩ rfl rfl hl.1 rfl (lv_room (Nat.le_of_ble_eq_true rfl)) dL_law_253 ⟨(by show cells + 0 + 0 + 0 + 0 + 0 ≤ 600074; omega), (by show slots + 0 + 0 + 0 + 0 + 0 ≤ 7301550; omega)⟩) hS (fun q _ h => hFc q h) hFc (fun r_14 u t H1 locs ht hvm hpo hB hz1 hk1 hS => ?_)
    obtain rfl := hpo
    obtain ⟨z_15, f_16, f_17, hP1⟩ := hB
    rw [ht] at hP1
    have hPj := hPc.calls hk1 hFc hP1
    have hP : ms (dC, dI) vwCl A [(fun q e => TW cy K (some s0) a z_6 τ q e ∨ oW ob (K 0 0) (Lt 0 0) q e), cel gp (gO ob bs qf (d + 1 + 1) nd nl nf), rwW cy 24 5 (qf 0) lr lv nl, rwW cy 10 6 (qf 9) fr9 fv nf, (TW cy Lt none b3 κ3 τ3)] H1 := hPj.sel [1, 0, 2, 3, 4] rfl (by decide)
    clear hPj hPc hP1 hk1 hFc
    generalize H1 = H at hP hS ⊢
    subst f_17
    have qV := f_16
    refine lv_istore (lv' := [(11, .int (nI z_15)), (10, .int (eIn N b a)), (8, .long (D_all a)), (7, .int (nI N)), (0, .ref bs), (1, .int tm), (2, .ref gp), (3, .ref ob), (4, .int sp9)]) hx hb dL_law_256 hl (by decide) rfl (fun ls hl => ?_)
    refine lv_iload hx hb dL_law_258 (lv_at hl 0 rfl) ?_
    refine lv_if_ge (tgt := 267) hx hb dL_law_260 (by decide) (fun _ => ?_) (fun c_18 => absurd (nI_nonneg (by omega)) c_18)
    refine lv_aload_n hx hb dL_law_267 rfl (lv_at hl 7 rfl) ?_
    refine lv_iload hx hb dL_law_268 (lv_at hl 0 rfl) ?_
    refine lv_iload hx hb dL_law_270 (lv_at hl 3 rfl) ?_
    have hnv : ¬ T_no a (nI z_15) := nI_vno hw qV
    have hPm : ms (dC, dI) vwCl A [(fun q e => TW cy Lt none b3 κ3 τ3 q e ∨ TW cy K (some s0) a z_6 τ q e ∨ oW ob (K 0 0) (Lt 0 0) q e), cel gp (gO ob bs qf (d + 1 + 1) nd nl nf), rwW cy 24 5 (qf 0) lr lv nl, rwW cy 10 6 (qf 9) fr9 fv nf] H := (hP.sel [4, 0, 1, 2, 3] rfl (by decide)).merge
    have hFc := m_free (C := (fun q e => TW cy Lt none b3 κ3 τ3 q e ∨ TW cy K (some s0) a z_6 τ q e ∨ oW ob (K 0 0) (Lt 0 0) q e)) hPm.1 hS hA (fun _ _ h => any_in (i := 0) rfl h)
    refine va_calli (va_runV (As := [.int (nI z_15), .int (nI N)]) (rest := []) ⟨hx, hb, hml, hown, hts⟩ (c_arrivesIn l dC dI cy Lt b3 κ3 τ3 K s0 a z_6 τ ob (Mb + 84 * N) N (nI z_15) H.size hTt3 hT hAP (hw.mono (by omega)) hwb3 hsh hN1 (by omega) (by omega) hck0 hck2 hnv) (tp_cwV 2 hts tw_456 tw_457 tw_458 tw_20 tw_459 rfl rfl (by decide +kernel) ⟨Nat.le_of_ble_eq_true rfl, Nat.le_of_ble_eq_true rfl⟩) ⟨m_blind, va_recv hK (hPm.one (e := .inr (8, [.ref (K 0 0), .ref (Lt 0 0)])) 0 rfl (Or.inr (Or.inr oW_mem))) (ci := 8) (q0 := 0) rfl rfl, fun U hU hW => ⟨rfl, m_pay hK hPm.1 hE (fun _ _ h => any_in (i := 0) rfl h) U hU hW⟩⟩ rfl rfl hl.1 rfl (lv_room (Nat.le_of_ble_eq_true rfl)) dL_law_272 ⟨(by show cells + 0 + 0 + 0 + 0 + 0 + 0 ≤ 600074; omega), (by show slots + 0 + 0 + 0 + 0 + 0 + 0 ≤ 7301550; omega)⟩) hS (fun q _ h => hFc q h) hFc (fun r3 u t H1 locs ht hvm hpo hB hz1 hk1 hS => ?_)
    obtain rfl := hpo
    obtain ⟨b4, κ4, τ4, f3, hwb4, hP1⟩ := hB
    subst f3
    rw [ht] at hP1
    have hPc := (hPm.call 0 rfl hk1 hFc hP1).split (P := TW cy Lt none b4 κ4 τ4) (Q := (fun q e => TW cy K (some s0) a z_6 τ q e ∨ oW ob (K 0 0) (Lt 0 0) q e)) (fun q e y h1 h2 => by
        rcases h2 with h2 | h2
        · exact ap_dis hAP h2 h1
        · exact ow_dis ((hPm.call 0 rfl hk1 hFc hP1).part 0 rfl) (fun _ _ h => Or.inl h) (fun _ _ h => Or.inr (Or.inr h)) h2 h1)
    have hP : ms (dC, dI) vwCl A [(fun q e => TW cy K (some s0) a z_6 τ q e ∨ oW ob (K 0 0) (Lt 0 0) q e), cel gp (gO ob bs qf (d + 1 + 1) nd nl nf), rwW cy 24 5 (qf 0) lr lv nl, rwW cy 10 6 (qf 9) fr9 fv nf, (TW cy Lt none b4 κ4 τ4)] H1 := hPc.sel [1, 2, 3, 4, 0] rfl (by decide)
    clear hPm hFc hPc hP1 hk1
    generalize H1 = H at hP hS ⊢
    refine W.eq (g2 := F0 m 275 ls [.int ((if a 15 (nI z_15).toNatClampNeg 3 = 2 then 0 else A_scan (nI z_15).toNatClampNeg N 1 (T_copy b3 a)))]) rfl ?_
    refine W.eq (g2 := F0 m 275 ls [.int (aIn z_15 N b3 a)]) (by rw [nI_clamp (by omega)]; rfl) ?_
    refine lv_istore (lv' := [(12, .int (aIn z_15 N b3 a)), (11, .int (nI z_15)), (10, .int (eIn N b a)), (8, .long (D_all a)), (7, .int (nI N)), (0, .ref bs), (1, .int tm), (2, .ref gp), (3, .ref ob), (4, .int sp9)]) hx hb dL_law_275 hl (by decide) rfl (fun ls hl => ?_)
    refine lv_aload_n hx hb dL_law_277 rfl (lv_at hl 8 rfl) ?_
    have hFc := m_free (C := (fun q e => TW cy K (some s0) a z_6 τ q e ∨ oW ob (K 0 0) (Lt 0 0) q e)) hP.1 hS hA (fun _ _ h => any_in (i := 0) rfl h)
    refine va_calll (va_runV (As := []) (rest := []) ⟨hx, hb, hml, hown, hts⟩ (c_digest l dC dI cy K ((some s0)) a z_6 τ ob ((Lt 0 0)) M H.size hT hw hsh hCV) (tp_cwV 0 hts tw_497 tw_498 tw_499 tw_20 tw_500 rfl rfl (by decide +kernel) ⟨Nat.le_of_ble_eq_true rfl, Nat.le_of_ble_eq_true rfl⟩) ⟨m_blind, va_recv hK (hP.one (e := .inr (8, [.ref (K 0 0), .ref (Lt 0 0)])) 0 rfl (Or.inr oW_mem)) (ci := 8) (q0 := 0) rfl rfl, fun U hU hW => ⟨rfl, m_pay hK hP.1 hE (fun _ _ h => any_in (i := 0) rfl h) U hU hW⟩⟩ rfl rfl hl.1 rfl (lv_room (Nat.le_of_ble_eq_true rfl)) dL_law_278 ⟨(by show cells + 0 + 0 + 0 + 0 + 0 + 0 ≤ 600074; omega), (by show slots + 0 + 0 + 0 + 0 + 0 + 0 ≤ 7301550; omega)⟩) hS (fun q _ h => hFc q h) hFc (fun r_19 u t H1 locs ht hvm hpo hB hz1 hk1 hS => ?_)
    obtain rfl := hpo
    obtain ⟨z_20, f_21, f_22, hP1⟩ := hB
    subst f_21
    rw [ht] at hP1
    have hP : ms (dC, dI) vwCl A [(fun q e => TW cy K (some s0) a z_20 τ q e ∨ oW ob (K 0 0) (Lt 0 0) q e), cel gp (gO ob bs qf (d + 1 + 1) nd nl nf), rwW cy 24 5 (qf 0) lr lv nl, rwW cy 10 6 (qf 9) fr9 fv nf, (TW cy Lt none b4 κ4 τ4)] H1 := hP.call 0 rfl hk1 hFc hP1
    clear hP1 hk1 hFc
    generalize H1 = H at hP hS ⊢
    clear hCV
    have hCV := f_22
    refine lv_lload hx hb dL_law_281 (lv_at hl 3 rfl) ?_
    refine W.lcmp hx hb dL_law_283 ?_
    refine lv_if_ne (tgt := 307) hx hb dL_law_284 (by decide) (fun c_23 => absurd lcmp_self c_23) (fun _ => ?_)
    refine lv_iload hx hb dL_law_287 (lv_at hl 1 rfl) ?_
    refine lv_if_lt (tgt := 309) hx hb dL_law_289 (by decide) (fun c_24 => absurd c_24 (nI_nneg (by omega))) (fun _ => ?_)
    refine lv_aload_n hx hb dL_law_292 rfl (lv_at hl 8 rfl) ?_
    refine lv_iload hx hb dL_law_293 (lv_at hl 1 rfl) ?_
    have hFc := m_free (C := (fun q e => TW cy K (some s0) a z_20 τ q e ∨ oW ob (K 0 0) (Lt 0 0) q e)) hP.1 hS hA (fun _ _ h => any_in (i := 0) rfl h)
    refine va_calli (va_runV (As := [.int (nI z_15)]) (rest := []) ⟨hx, hb, hml, hown, hts⟩ (c_stateOf l dC dI cy K ((some s0)) a z_20 τ ob ((Lt 0 0)) M (nI z_15) H.size hT hw hnv) (tp_cwV 1 hts tw_383 tw_384 tw_385 tw_20 tw_386 rfl rfl (by decide +kernel) ⟨Nat.le_of_ble_eq_true rfl, Nat.le_of_ble_eq_true rfl⟩) ⟨m_blind, va_recv hK (hP.one (e := .inr (8, [.ref (K 0 0), .ref (Lt 0 0)])) 0 rfl (Or.inr oW_mem)) (ci := 8) (q0 := 0) rfl rfl, fun U hU hW => ⟨rfl, m_pay hK hP.1 hE (fun _ _ h => any_in (i := 0) rfl h) U hU hW⟩⟩ rfl rfl hl.1 rfl (lv_room (Nat.le_of_ble_eq_true rfl)) dL_law_295 ⟨(by show cells + 0 + 0 + 0 + 0 + 0 + 0 + 0 ≤ 600074; omega), (by show slots + 0 + 0 + 0 + 0 + 0 + 0 + 0 ≤ 7301550; omega)⟩) hS (fun q _ h => hFc q h) hFc (fun r_25 u t H1 locs ht hvm hpo hB hz1 hk1 hS => ?_)
    obtain rfl := hpo
    obtain ⟨f_26, hP1⟩ := hB
    subst f_26
    rw [ht] at hP1
    have hP : ms (dC, dI) vwCl A [(fun q e => TW cy K (some s0) a z_20 τ q e ∨ oW ob (K 0 0) (Lt 0 0) q e), cel gp (gO ob bs qf (d + 1 + 1) nd nl nf), rwW cy 24 5 (qf 0) lr lv nl, rwW cy 10 6 (qf 9) fr9 fv nf, (TW cy Lt none b4 κ4 τ4)] H1 := hP.call 0 rfl hk1 hFc hP1
    clear hP1 hk1 hFc
    generalize H1 = H at hP hS ⊢
    refine W.eq (g2 := F0 m 298 ls [.int (a 15 z_15 3)]) (by rw [nI_clamp (by omega)]) ?_
    refine lv_iconst (v := 2) hx hb dL_law_298 (by decide) ?_
    refine lv_icmp_ne (tgt := 309) hx hb dL_law_299 (by decide) (fun c_27 => ?_) (fun c_27 => ?_)
    · refine lv_aload_n hx hb dL_law_309 rfl (lv_at hl 8 rfl) ?_
      have hFc := m_free (C := (fun q e => TW cy K (some s0) a z_20 τ q e ∨ oW ob (K 0 0) (Lt 0 0) q e)) hP.1 hS hA (fun _ _ h => any_in (i := 0) rfl h)
      refine va_calli (va_runV (As := []) (rest := []) ⟨hx, hb, hml, hown, hts⟩ (c_clock l dC dI cy K ((some s0)) a z_20 τ ob ((Lt 0 0)) H.size hT) (tp_cwV 0 hts tw_371 tw_372 tw_373 tw_20 tw_374 rfl rfl (by decide +kernel) ⟨Nat.le_of_ble_eq_true rfl, Nat.le_of_ble_eq_true rfl⟩) ⟨m_blind, va_recv hK (hP.one (e := .inr (8, [.ref (K 0 0), .ref (Lt 0 0)])) 0 rfl (Or.inr oW_mem)) (ci := 8) (q0 := 0) rfl rfl, fun U hU hW => ⟨rfl, m_pay hK hP.1 hE (fun _ _ h => any_in (i := 0) rfl h) U hU hW⟩⟩ rfl rfl hl.1 rfl (lv_room (Nat.le_of_ble_eq_true rfl)) dL_law_310 ⟨(by show cells + 0 + 0 + 0 + 0 + 0 + 0 + 0 + 0 ≤ 600074; omega), (by show slots + 0 + 0 + 0 + 0 + 0 + 0 + 0 + 0 ≤ 7301550; omega)⟩) hS (fun q _ h => hFc q h) hFc (fun r_28 u t H1 locs ht hvm hpo hB hz1 hk1 hS => ?_)
      obtain rfl := hpo
      obtain ⟨f_29, hP1⟩ := hB
      subst f_29
      rw [ht] at hP1
      have hP : ms (dC, dI) vwCl A [(fun q e => TW cy K (some s0) a z_20 τ q e ∨ oW ob (K 0 0) (Lt 0 0) q e), cel gp (gO ob bs qf (d + 1 + 1) nd nl nf), rwW cy 24 5 (qf 0) lr lv nl, rwW cy 10 6 (qf 9) fr9 fv nf, (TW cy Lt none b4 κ4 τ4)] H1 := hP.call 0 rfl hk1 hFc hP1
      clear hP1 hk1 hFc
      generalize H1 = H at hP hS ⊢
      refine lv_istore (lv' := [(13, .int (a 0 0 0)), (12, .int (aIn z_15 N b3 a)), (11, .int (nI z_15)), (10, .int (eIn N b a)), (8, .long (D_all a)), (7, .int (nI N)), (0, .ref bs), (1, .int tm), (2, .ref gp), (3, .ref ob), (4, .int sp9)]) hx hb dL_law_313 hl (by decide) rfl (fun ls hl => ?_)
      refine lv_aload_n hx hb dL_law_315 rfl (lv_at hl 9 rfl) ?_
      refine lv_iload hx hb dL_law_316 (lv_at hl 5 rfl) ?_
      have h9c := cst_c (s0 := s0) N hN6
      have h9s := cst_s (s0 := s0) N hN6
      have hFc := m_free (C := (fun q e => TW cy K (some s0) a z_20 τ q e ∨ oW ob (K 0 0) (Lt 0 0) q e)) hP.1 hS hA (fun _ _ h => any_in (i := 0) rfl h)
      refine va_calli (va_runV (As := [.int (nI N)]) (rest := []) ⟨hx, hb, hml, hown, hts⟩ (c_step l dC dI cy K ((some s0)) a z_20 τ ob ((Lt 0 0)) M 3100 N H.size hT hw ⟨hT, hCV, hTR⟩ hN1 (by omega) (by omega) (by omega) hck0 hck2) (tp_cwV 1 hts tw_155 tw_156 tw_157 tw_20 tw_158 rfl rfl (by decide +kernel) ⟨Nat.le_of_ble_eq_true rfl, Nat.le_of_ble_eq_true rfl⟩) ⟨m_blind, va_recv hK (hP.one (e := .inr (8, [.ref (K 0 0), .ref (Lt 0 0)])) 0 rfl (Or.inr oW_mem)) (ci := 8) (q0 := 0) rfl rfl, fun U hU hW => ⟨rfl, m_pay hK hP.1 hE (fun _ _ h => any_in (i := 0) rfl h) U hU hW⟩⟩ rfl rfl hl.1 rfl (lv_room (Nat.le_of_ble_eq_true rfl)) dL_law_318 ⟨(by show cells + 0 + 0 + 0 + 0 + 0 + 0 + 0 + 0 + ((84 * cT ((some s0)) * N)) ≤ 600074; omega), (by show slots + 0 + 0 + 0 + 0 + 0 + 0 + 0 + 0 + ((84 * pB ((some s0)) 3100 * N)) ≤ 7301550; omega)⟩) hS (fun q _ h => hFc q h) hFc (fun r_30 u t H1 locs ht hvm hpo hB hz1 hk1 hS => ?_)
      obtain rfl := hpo
      obtain ⟨z_31, z_32, f_33, f_34, hP1⟩ := hB
      subst f_33
      rw [ht] at hP1
      have hP : ms (dC, dI) vwCl A [(fun q e => TW cy K (some s0) (T_ticks N a) z_31 z_32 q e ∨ oW ob (K 0 0) (Lt 0 0) q e), cel gp (gO ob bs qf (d + 1 + 1) nd nl nf), rwW cy 24 5 (qf 0) lr lv nl, rwW cy 10 6 (qf 9) fr9 fv nf, (TW cy Lt none b4 κ4 τ4)] H1 := hP.call 0 rfl hk1 hFc hP1
      clear hP1 hk1 hFc
      generalize H1 = H at hP hS ⊢
      obtain ⟨hIv2, hmono⟩ := hIt N M (by omega) (by omega) (by omega) hw
      have hc0b := (hI _ _ _ _ _ _ _ hIv2).2.2.2.2.1.1.1
      have hw2 := T_ticks_Wf hw hck0 N (by omega) hck2
      refine lv_iload hx hb dL_law_321 (lv_at hl 0 rfl) ?_
      refine lv_iload hx hb dL_law_323 (lv_at hl 5 rfl) ?_
      refine lv_iadd hx hb dL_law_325 ?_
      refine lv_icmp_eq (tgt := 331) hx hb dL_law_326 (by decide) (fun _ => ?_) (fun c_35 => absurd (by rw [hc0b, hc0, nI_add]) c_35)
      refine lv_iload hx hb dL_law_331 (lv_at hl 2 rfl) ?_
      refine lv_if_lt (tgt := 366) hx hb dL_law_333 (by decide) (fun c_36 => absurd c_36 (nI_nneg (by omega))) (fun _ => ?_)
      refine lv_iload hx hb dL_law_336 (lv_at hl 1 rfl) ?_
      refine lv_if_lt (tgt := 345) hx hb dL_law_338 (by decide) (fun c_37 => ?_) (fun c_37 => ?_)
      · refine lv_iconst (v := 0) hx hb dL_law_345 (by decide) ?_
        refine lv_aload_n hx hb dL_law_346 rfl (lv_at hl 9 rfl) ?_
        refine lv_iload hx hb dL_law_347 (lv_at hl 2 rfl) ?_
        have hnv2 : ¬ T_no (T_ticks N a) (nI z_15) := nI_vno hw2 (by omega)
        have hiff := hIa N (Mb + 84 * N) b3 z_15 hN1 (by omega) (by omega) (by omega) (hw.mono (by omega)) hwb3 qV
        have hFc := m_free (C := (fun q e => TW cy K (some s0) (T_ticks N a) z_31 z_32 q e ∨ oW ob (K 0 0) (Lt 0 0) q e)) hP.1 hS hA (fun _ _ h => any_in (i := 0) rfl h)
        refine va_calli (va_runV (As := [.int (nI z_15)]) (rest := [.int 0]) ⟨hx, hb, hml, hown, hts⟩ (c_stateOf l dC dI cy K ((some s0)) (T_ticks N a) z_31 z_32 ob ((Lt 0 0)) ((M + 84 * N)) (nI z_15) H.size f_34.1 hw2 hnv2) (tp_cwV 1 hts tw_383 tw_384 tw_385 tw_20 tw_386 rfl rfl (by decide +kernel) ⟨Nat.le_of_ble_eq_true rfl, Nat.le_of_ble_eq_true rfl⟩) ⟨m_blind, va_recv hK (hP.one (e := .inr (8, [.ref (K 0 0), .ref (Lt 0 0)])) 0 rfl (Or.inr oW_mem)) (ci := 8) (q0 := 0) rfl rfl, fun U hU hW => ⟨rfl, m_pay hK hP.1 hE (fun _ _ h => any_in (i := 0) rfl h) U hU hW⟩⟩ rfl rfl hl.1 rfl (lv_room (Nat.le_of_ble_eq_true rfl)) dL_law_349 ⟨(by show cells + 0 + 0 + 0 + 0 + 0 + 0 + 0 + 0 + ((84 * cT ((some s0)) * N)) + 0 ≤ 600074; omega), (by show slots + 0 + 0 + 0 + 0 + 0 + 0 + 0 + 0 + ((84 * pB ((some s0)) 3100 * N)) + 0 ≤ 7301550; omega)⟩) hS (fun q _ h => hFc q h) hFc (fun r_38 u t H1 locs ht hvm hpo hB hz1 hk1 hS => ?_)
        obtain rfl := hpo
        obtain ⟨f_39, hP1⟩ := hB
        subst f_39
        rw [ht] at hP1
        have hP : ms (dC, dI) vwCl A [(fun q e => TW cy K (some s0) (T_ticks N a) z_31 z_32 q e ∨ oW ob (K 0 0) (Lt 0 0) q e), cel gp (gO ob bs qf (d + 1 + 1) nd nl nf), rwW cy 24 5 (qf 0) lr lv nl, rwW cy 10 6 (qf 9) fr9 fv nf, (TW cy Lt none b4 κ4 τ4)] H1 := hP.call 0 rfl hk1 hFc hP1
        clear hP1 hk1 hFc
        generalize H1 = H at hP hS ⊢
        refine W.eq (g2 := F0 m 352 ls [.int ((T_ticks N a) 15 z_15 3), .int 0]) (by rw [nI_clamp (by omega)]) ?_
        refine lv_iconst (v := 2) hx hb dL_law_352 (by decide) ?_
        refine lv_icmp_ne (tgt := 360) hx hb dL_law_353 (by decide) (fun c_40 => ?_) (fun c_40 => ?_)
        · refine lv_iconst (v := 0) hx hb dL_law_360 (by decide) ?_
          refine lv_icmp_eq (tgt := 366) hx hb dL_law_361 (by decide) (fun _ => ?_) (fun c_41 => absurd rfl c_41)
          refine W.widen (k := cells + 504) (n := slots + 260568) (by show cells + 0 + 0 + 0 + 0 + 0 + 0 + 0 + 0 + ((84 * cT ((some s0)) * N)) + 0 ≤ cells + 504; omega) (by show slots + 0 + 0 + 0 + 0 + 0 + 0 + 0 + 0 + ((84 * pB ((some s0)) 3100 * N)) + 0 ≤ slots + 260568; omega) ?_
          exact kk _ _ ls N (eIn N b a) (d + 1 + 1) (T_ticks N a) z_31 z_32 b4 κ4 τ4 hN1 hN6 (by omega) ⟨f_34.1, hw2.mono (by omega), f_34.2.1, f_34.2.2, hIv2⟩ (hwb4.mono (by omega)) hTt.none (hIe N Mb b hN1 (by omega) (by omega) (by omega) (hw.mono (by omega)) hwb) hP hS (lv_sub hl [6, 7, 8, 9, 10, 5, 3] rfl)
        · refine lv_iconst (v := 1) hx hb dL_law_356 (by decide) ?_
          refine lv_goto (tgt := 361) hx hb dL_law_357 (by decide) ?_
          refine lv_icmp_eq (tgt := 366) hx hb dL_law_361 (by decide) (fun _ => ?_) (fun c_42 => absurd (hiff.mpr c_40 c_37).elim c_42)
          refine W.widen (k := cells + 504) (n := slots + 260568) (by show cells + 0 + 0 + 0 + 0 + 0 + 0 + 0 + 0 + ((84 * cT ((some s0)) * N)) + 0 ≤ cells + 504; omega) (by show slots + 0 + 0 + 0 + 0 + 0 + 0 + 0 + 0 + ((84 * pB ((some s0)) 3100 * N)) + 0 ≤ slots + 260568; omega) ?_
          exact kk _ _ ls N (eIn N b a) (d + 1 + 1) (T_ticks N a) z_31 z_32 b4 κ4 τ4 hN1 hN6 (by omega) ⟨f_34.1, hw2.mono (by omega), f_34.2.1, f_34.2.2, hIv2⟩ (hwb4.mono (by omega)) hTt.none (hIe N Mb b hN1 (by omega) (by omega) (by omega) (hw.mono (by omega)) hwb) hP hS (lv_sub hl [6, 7, 8, 9, 10, 5, 3] rfl)
      · refine lv_iconst (v := 1) hx hb dL_law_341 (by decide) ?_
        refine lv_goto (tgt := 346) hx hb dL_law_342 (by decide) ?_
        refine lv_aload_n hx hb dL_law_346 rfl (lv_at hl 9 rfl) ?_
        refine lv_iload hx hb dL_law_347 (lv_at hl 2 rfl) ?_
        have hnv2 : ¬ T_no (T_ticks N a) (nI z_15) := nI_vno hw2 (by omega)
        have hiff := hIa N (Mb + 84 * N) b3 z_15 hN1 (by omega) (by omega) (by omega) (hw.mono (by omega)) hwb3 qV
        have hFc := m_free (C := (fun q e => TW cy K (some s0) (T_ticks N a) z_31 z_32 q e ∨ oW ob (K 0 0) (Lt 0 0) q e)) hP.1 hS hA (fun _ _ h => any_in (i := 0) rfl h)
        refine va_calli (va_runV (As := [.int (nI z_15)]) (rest := [.int 1]) ⟨hx, hb, hml, hown, hts⟩ (c_stateOf l dC dI cy K ((some s0)) (T_ticks N a) z_31 z_32 ob ((Lt 0 0)) ((M + 84 * N)) (nI z_15) H.size f_34.1 hw2 hnv2) (tp_cwV 1 hts tw_383 tw_384 tw_385 tw_20 tw_386 rfl rfl (by decide +kernel) ⟨Nat.le_of_ble_eq_true rfl, Nat.le_of_ble_eq_true rfl⟩) ⟨m_blind, va_recv hK (hP.one (e := .inr (8, [.ref (K 0 0), .ref (Lt 0 0)])) 0 rfl (Or.inr oW_mem)) (ci := 8) (q0 := 0) rfl rfl, fun U hU hW => ⟨rfl, m_pay hK hP.1 hE (fun _ _ h => any_in (i := 0) rfl h) U hU hW⟩⟩ rfl rfl hl.1 rfl (lv_room (Nat.le_of_ble_eq_true rfl)) dL_law_349 ⟨(by show cells + 0 + 0 + 0 + 0 + 0 + 0 + 0 + 0 + ((84 * cT ((some s0)) * N)) + 0 ≤ 600074; omega), (by show slots + 0 + 0 + 0 + 0 + 0 + 0 + 0 + 0 + ((84 * pB ((some s0)) 3100 * N)) + 0 ≤ 7301550; omega)⟩) hS (fun q _ h => hFc q h) hFc (fun r_43 u t H1 locs ht hvm hpo hB hz1 hk1 hS => ?_)
        obtain rfl := hpo
        obtain ⟨f_44, hP1⟩ := hB
        subst f_44
        rw [ht] at hP1
        have hP : ms (dC, dI) vwCl A [(fun q e => TW cy K (some s0) (T_ticks N a) z_31 z_32 q e ∨ oW ob (K 0 0) (Lt 0 0) q e), cel gp (gO ob bs qf (d + 1 + 1) nd nl nf), rwW cy 24 5 (qf 0) lr lv nl, rwW cy 10 6 (qf 9) fr9 fv nf, (TW cy Lt none b4 κ4 τ4)] H1 := hP.call 0 rfl hk1 hFc hP1
        clear hP1 hk1 hFc
        generalize H1 = H at hP hS ⊢
        refine W.eq (g2 := F0 m 352 ls [.int ((T_ticks N a) 15 z_15 3), .int 1]) (by rw [nI_clamp (by omega)]) ?_
        refine lv_iconst (v := 2) hx hb dL_law_352 (by decide) ?_
        refine lv_icmp_ne (tgt := 360) hx hb dL_law_353 (by decide) (fun c_45 => ?_) (fun c_45 => ?_)
        · refine lv_iconst (v := 0) hx hb dL_law_360 (by decide) ?_
          refine lv_icmp_eq (tgt := 366) hx hb dL_law_361 (by decide) (fun _ => ?_) (fun c_46 => absurd (c_45 (hiff.mp c_37)).elim c_46)
          refine W.widen (k := cells + 504) (n := slots + 260568) (by show cells + 0 + 0 + 0 + 0 + 0 + 0 + 0 + 0 + ((84 * cT ((some s0)) * N)) + 0 ≤ cells + 504; omega) (by show slots + 0 + 0 + 0 + 0 + 0 + 0 + 0 + 0 + ((84 * pB ((some s0)) 3100 * N)) + 0 ≤ slots + 260568; omega) ?_
          exact kk _ _ ls N (eIn N b a) (d + 1 + 1) (T_ticks N a) z_31 z_32 b4 κ4 τ4 hN1 hN6 (by omega) ⟨f_34.1, hw2.mono (by omega), f_34.2.1, f_34.2.2, hIv2⟩ (hwb4.mono (by omega)) hTt.none (hIe N Mb b hN1 (by omega) (by omega) (by omega) (hw.mono (by omega)) hwb) hP hS (lv_sub hl [6, 7, 8, 9, 10, 5, 3] rfl)
        · refine lv_iconst (v := 1) hx hb dL_law_356 (by decide) ?_
          refine lv_goto (tgt := 361) hx hb dL_law_357 (by decide) ?_
          refine lv_icmp_eq (tgt := 366) hx hb dL_law_361 (by decide) (fun _ => ?_) (fun c_47 => absurd rfl c_47)
          refine W.widen (k := cells + 504) (n := slots + 260568) (by show cells + 0 + 0 + 0 + 0 + 0 + 0 + 0 + 0 + ((84 * cT ((some s0)) * N)) + 0 ≤ cells + 504; omega) (by show slots + 0 + 0 + 0 + 0 + 0 + 0 + 0 + 0 + ((84 * pB ((some s0)) 3100 * N)) + 0 ≤ slots + 260568; omega) ?_
          exact kk _ _ ls N (eIn N b a) (d + 1 + 1) (T_ticks N a) z_31 z_32 b4 κ4 τ4 hN1 hN6 (by omega) ⟨f_34.1, hw2.mono (by omega), f_34.2.1, f_34.2.2, hIv2⟩ (hwb4.mono (by omega)) hTt.none (hIe N Mb b hN1 (by omega) (by omega) (by omega) (hw.mono (by omega)) hwb) hP hS (lv_sub hl [6, 7, 8, 9, 10, 5, 3] rfl)
    · refine lv_iload hx hb dL_law_302 (lv_at hl 0 rfl) ?_
      refine lv_if_eq (tgt := 309) hx hb dL_law_304 (by decide) (fun _ => ?_) (fun c_48 => absurd (if_pos c_27) c_48)
      refine lv_aload_n hx hb dL_law_309 rfl (lv_at hl 8 rfl) ?_
      have hFc := m_free (C := (fun q e => TW cy K (some s0) a z_20 τ q e ∨ oW ob (K 0 0) (Lt 0 0) q e)) hP.1 hS hA (fun _ _ h => any_in (i := 0) rfl h)
      refine va_calli (va_runV (As := []) (rest := []) ⟨hx, hb, hml, hown, hts⟩ (c_clock l dC dI cy K ((some s0)) a z_20 τ ob ((Lt 0 0)) H.size hT) (tp_cwV 0 hts tw_371 tw_372 tw_373 tw_20 tw_374 rfl rfl (by decide +kernel) ⟨Nat.le_of_ble_eq_true rfl, Nat.le_of_ble_eq_true rfl⟩) ⟨m_blind, va_recv hK (hP.one (e := .inr (8, [.ref (K 0 0), .ref (Lt 0 0)])) 0 rfl (Or.inr oW_mem)) (ci := 8) (q0 := 0) rfl rfl, fun U hU hW => ⟨rfl, m_pay hK hP.1 hE (fun _ _ h => any_in (i := 0) rfl h) U hU hW⟩⟩ rfl rfl hl.1 rfl (lv_room (Nat.le_of_ble_eq_true rfl)) dL_law_310 ⟨(by show cells + 0 + 0 + 0 + 0 + 0 + 0 + 0 + 0 ≤ 600074; omega), (by show slots + 0 + 0 + 0 + 0 + 0 + 0 + 0 + 0 ≤ 7301550; omega)⟩) hS (fun q _ h => hFc q h) hFc (fun r_49 u t H1 locs ht hvm hpo hB hz1 hk1 hS => ?_)
      obtain rfl := hpo
      obtain ⟨f_50, hP1⟩ := hB
      subst f_50
      rw [ht] at hP1
      have hP : ms (dC, dI) vwCl A [(fun q e => TW cy K (some s0) a z_20 τ q e ∨ oW ob (K 0 0) (Lt 0 0) q e), cel gp (gO ob bs qf (d + 1 + 1) nd nl nf), rwW cy 24 5 (qf 0) lr lv nl, rwW cy 10 6 (qf 9) fr9 fv nf, (TW cy Lt none b4 κ4 τ4)] H1 := hP.call 0 rfl hk1 hFc hP1
      clear hP1 hk1 hFc
      generalize H1 = H at hP hS ⊢
      refine lv_istore (lv' := [(13, .int (a 0 0 0)), (12, .int (aIn z_15 N b3 a)), (11, .int (nI z_15)), (10, .int (eIn N b a)), (8, .long (D_all a)), (7, .int (nI N)), (0, .ref bs), (1, .int tm), (2, .ref gp), (3, .ref ob), (4, .int sp9)]) hx hb dL_law_313 hl (by decide) rfl (fun ls hl => ?_)
      refine lv_aload_n hx hb dL_law_315 rfl (lv_at hl 9 rfl) ?_
      refine lv_iload hx hb dL_law_316 (lv_at hl 5 rfl) ?_
      have h9c := cst_c (s0 := s0) N hN6
      have h9s := cst_s (s0 := s0) N hN6
      have hFc := m_free (C := (fun q e => TW cy K (some s0) a z_20 τ q e ∨ oW ob (K 0 0) (Lt 0 0) q e)) hP.1 hS hA (fun _ _ h => any_in (i := 0) rfl h)
      refine va_calli (va_runV (As := [.int (nI N)]) (rest := []) ⟨hx, hb, hml, hown, hts⟩ (c_step l dC dI cy K ((some s0)) a z_20 τ ob ((Lt 0 0)) M 3100 N H.size hT hw ⟨hT, hCV, hTR⟩ hN1 (by omega) (by omega) (by omega) hck0 hck2) (tp_cwV 1 hts tw_155 tw_156 tw_157 tw_20 tw_158 rfl rfl (by decide +kernel) ⟨Nat.le_of_ble_eq_true rfl, Nat.le_of_ble_eq_true rfl⟩) ⟨m_blind, va_recv hK (hP.one (e := .inr (8, [.ref (K 0 0), .ref (Lt 0 0)])) 0 rfl (Or.inr oW_mem)) (ci := 8) (q0 := 0) rfl rfl, fun U hU hW => ⟨rfl, m_pay hK hP.1 hE (fun _ _ h => any_in (i := 0) rfl h) U hU hW⟩⟩ rfl rfl hl.1 rfl (lv_room (Nat.le_of_ble_eq_true rfl)) dL_law_318 ⟨(by show cells + 0 + 0 + 0 + 0 + 0 + 0 + 0 + 0 + ((84 * cT ((some s0)) * N)) ≤ 600074; omega), (by show slots + 0 + 0 + 0 + 0 + 0 + 0 + 0 + 0 + ((84 * pB ((some s0)) 3100 * N)) ≤ 7301550; omega)⟩) hS (fun q _ h => hFc q h) hFc (fun r_51 u t H1 locs ht hvm hpo hB hz1 hk1 hS => ?_)
      obtain rfl := hpo
      obtain ⟨z_52, z_53, f_54, f_55, hP1⟩ := hB
      subst f_54
      rw [ht] at hP1
      have hP : ms (dC, dI) vwCl A [(fun q e => TW cy K (some s0) (T_ticks N a) z_52 z_53 q e ∨ oW ob (K 0 0) (Lt 0 0) q e), cel gp (gO ob bs qf (d + 1 + 1) nd nl nf), rwW cy 24 5 (qf 0) lr lv nl, rwW cy 10 6 (qf 9) fr9 fv nf, (TW cy Lt none b4 κ4 τ4)] H1 := hP.call 0 rfl hk1 hFc hP1
      clear hP1 hk1 hFc
      generalize H1 = H at hP hS ⊢
      obtain ⟨hIv2, hmono⟩ := hIt N M (by omega) (by omega) (by omega) hw
      have hc0b := (hI _ _ _ _ _ _ _ hIv2).2.2.2.2.1.1.1
      have hw2 := T_ticks_Wf hw hck0 N (by omega) hck2
      refine lv_iload hx hb dL_law_321 (lv_at hl 0 rfl) ?_
      refine lv_iload hx hb dL_law_323 (lv_at hl 5 rfl) ?_
      refine lv_iadd hx hb dL_law_325 ?_
      refine lv_icmp_eq (tgt := 331) hx hb dL_law_326 (by decide) (fun _ => ?_) (fun c_56 => absurd (by rw [hc0b, hc0, nI_add]) c_56)
      refine lv_iload hx hb dL_law_331 (lv_at hl 2 rfl) ?_
      refine lv_if_lt (tgt := 366) hx hb dL_law_333 (by decide) (fun c_57 => absurd c_57 (nI_nneg (by omega))) (fun _ => ?_)
      refine lv_iload hx hb dL_law_336 (lv_at hl 1 rfl) ?_
      refine lv_if_lt (tgt := 345) hx hb dL_law_338 (by decide) (fun c_58 => ?_) (fun c_58 => ?_)
      · refine lv_iconst (v := 0) hx hb dL_law_345 (by decide) ?_
        refine lv_aload_n hx hb dL_law_346 rfl (lv_at hl 9 rfl) ?_
        refine lv_iload hx hb dL_law_347 (lv_at hl 2 rfl) ?_
        have hnv2 : ¬ T_no (T_ticks N a) (nI z_15) := nI_vno hw2 (by omega)
        have hiff := hIa N (Mb + 84 * N) b3 z_15 hN1 (by omega) (by omega) (by omega) (hw.mono (by omega)) hwb3 qV
        have hFc := m_free (C := (fun q e => TW cy K (some s0) (T_ticks N a) z_52 z_53 q e ∨ oW ob (K 0 0) (Lt 0 0) q e)) hP.1 hS hA (fun _ _ h => any_in (i := 0) rfl h)
        refine va_calli (va_runV (As := [.int (nI z_15)]) (rest := [.int 0]) ⟨hx, hb, hml, hown, hts⟩ (c_stateOf l dC dI cy K ((some s0)) (T_ticks N a) z_52 z_53 ob ((Lt 0 0)) ((M + 84 * N)) (nI z_15) H.size f_55.1 hw2 hnv2) (tp_cwV 1 hts tw_383 tw_384 tw_385 tw_20 tw_386 rfl rfl (by decide +kernel) ⟨Nat.le_of_ble_eq_true rfl, Nat.le_of_ble_eq_true rfl⟩) ⟨m_blind, va_recv hK (hP.one (e := .inr (8, [.ref (K 0 0), .ref (Lt 0 0)])) 0 rfl (Or.inr oW_mem)) (ci := 8) (q0 := 0) rfl rfl, fun U hU hW => ⟨rfl, m_pay hK hP.1 hE (fun _ _ h => any_in (i := 0) rfl h) U hU hW⟩⟩ rfl rfl hl.1 rfl (lv_room (Nat.le_of_ble_eq_true rfl)) dL_law_349 ⟨(by show cells + 0 + 0 + 0 + 0 + 0 + 0 + 0 + 0 + ((84 * cT ((some s0)) * N)) + 0 ≤ 600074; omega), (by show slots + 0 + 0 + 0 + 0 + 0 + 0 + 0 + 0 + ((84 * pB ((some s0)) 3100 * N)) + 0 ≤ 7301550; omega)⟩) hS (fun q _ h => hFc q h) hFc (fun r_59 u t H1 locs ht hvm hpo hB hz1 hk1 hS => ?_)
        obtain rfl := hpo
        obtain ⟨f_60, hP1⟩ := hB
        subst f_60
        rw [ht] at hP1
        have hP : ms (dC, dI) vwCl A [(fun q e => TW cy K (some s0) (T_ticks N a) z_52 z_53 q e ∨ oW ob (K 0 0) (Lt 0 0) q e), cel gp (gO ob bs qf (d + 1 + 1) nd nl nf), rwW cy 24 5 (qf 0) lr lv nl, rwW cy 10 6 (qf 9) fr9 fv nf, (TW cy Lt none b4 κ4 τ4)] H1 := hP.call 0 rfl hk1 hFc hP1
        clear hP1 hk1 hFc
        generalize H1 = H at hP hS ⊢
        refine W.eq (g2 := F0 m 352 ls [.int ((T_ticks N a) 15 z_15 3), .int 0]) (by rw [nI_clamp (by omega)]) ?_
        refine lv_iconst (v := 2) hx hb dL_law_352 (by decide) ?_
        refine lv_icmp_ne (tgt := 360) hx hb dL_law_353 (by decide) (fun c_61 => ?_) (fun c_61 => ?_)
        · refine lv_iconst (v := 0) hx hb dL_law_360 (by decide) ?_
          refine lv_icmp_eq (tgt := 366) hx hb dL_law_361 (by decide) (fun _ => ?_) (fun c_62 => absurd rfl c_62)
          refine W.widen (k := cells + 504) (n := slots + 260568) (by show cells + 0 + 0 + 0 + 0 + 0 + 0 + 0 + 0 + ((84 * cT ((some s0)) * N)) + 0 ≤ cells + 504; omega) (by show slots + 0 + 0 + 0 + 0 + 0 + 0 + 0 + 0 + ((84 * pB ((some s0)) 3100 * N)) + 0 ≤ slots + 260568; omega) ?_
          exact kk _ _ ls N (eIn N b a) (d + 1 + 1) (T_ticks N a) z_52 z_53 b4 κ4 τ4 hN1 hN6 (by omega) ⟨f_55.1, hw2.mono (by omega), f_55.2.1, f_55.2.2, hIv2⟩ (hwb4.mono (by omega)) hTt.none (hIe N Mb b hN1 (by omega) (by omega) (by omega) (hw.mono (by omega)) hwb) hP hS (lv_sub hl [6, 7, 8, 9, 10, 5, 3] rfl)
        · refine lv_iconst (v := 1) hx hb dL_law_356 (by decide) ?_
          refine lv_goto (tgt := 361) hx hb dL_law_357 (by decide) ?_
          refine lv_icmp_eq (tgt := 366) hx hb dL_law_361 (by decide) (fun _ => ?_) (fun c_63 => absurd (hiff.mpr c_61 c_58).elim c_63)
          refine W.widen (k := cells + 504) (n := slots + 260568) (by show cells + 0 + 0 + 0 + 0 + 0 + 0 + 0 + 0 + ((84 * cT ((some s0)) * N)) + 0 ≤ cells + 504; omega) (by show slots + 0 + 0 + 0 + 0 + 0 + 0 + 0 + 0 + ((84 * pB ((some s0)) 3100 * N)) + 0 ≤ slots + 260568; omega) ?_
          exact kk _ _ ls N (eIn N b a) (d + 1 + 1) (T_ticks N a) z_52 z_53 b4 κ4 τ4 hN1 hN6 (by omega) ⟨f_55.1, hw2.mono (by omega), f_55.2.1, f_55.2.2, hIv2⟩ (hwb4.mono (by omega)) hTt.none (hIe N Mb b hN1 (by omega) (by omega) (by omega) (hw.mono (by omega)) hwb) hP hS (lv_sub hl [6, 7, 8, 9, 10, 5, 3] rfl)
      · refine lv_iconst (v := 1) hx hb dL_law_341 (by decide) ?_
        refine lv_goto (tgt := 346) hx hb dL_law_342 (by decide) ?_
        refine lv_aload_n hx hb dL_law_346 rfl (lv_at hl 9 rfl) ?_
        refine lv_iload hx hb dL_law_347 (lv_at hl 2 rfl) ?_
        have hnv2 : ¬ T_no (T_ticks N a) (nI z_15) := nI_vno hw2 (by omega)
        have hiff := hIa N (Mb + 84 * N) b3 z_15 hN1 (by omega) (by omega) (by omega) (hw.mono (by omega)) hwb3 qV
        have hFc := m_free (C := (fun q e => TW cy K (some s0) (T_ticks N a) z_52 z_53 q e ∨ oW ob (K 0 0) (Lt 0 0) q e)) hP.1 hS hA (fun _ _ h => any_in (i := 0) rfl h)
        refine va_calli (va_runV (As := [.int (nI z_15)]) (rest := [.int 1]) ⟨hx, hb, hml, hown, hts⟩ (c_stateOf l dC dI cy K ((some s0)) (T_ticks N a) z_52 z_53 ob ((Lt 0 0)) ((M + 84 * N)) (nI z_15) H.size f_55.1 hw2 hnv2) (tp_cwV 1 hts tw_383 tw_384 tw_385 tw_20 tw_386 rfl rfl (by decide +kernel) ⟨Nat.le_of_ble_eq_true rfl, Nat.le_of_ble_eq_true rfl⟩) ⟨m_blind, va_recv hK (hP.one (e := .inr (8, [.ref (K 0 0), .ref (Lt 0 0)])) 0 rfl (Or.inr oW_mem)) (ci := 8) (q0 := 0) rfl rfl, fun U hU hW => ⟨rfl, m_pay hK hP.1 hE (fun _ _ h => any_in (i := 0) rfl h) U hU hW⟩⟩ rfl rfl hl.1 rfl (lv_room (Nat.le_of_ble_eq_true rfl)) dL_law_349 ⟨(by show cells + 0 + 0 + 0 + 0 + 0 + 0 + 0 + 0 + ((84 * cT ((some s0)) * N)) + 0 ≤ 600074; omega), (by show slots + 0 + 0 + 0 + 0 + 0 + 0 + 0 + 0 + ((84 * pB ((some s0)) 3100 * N)) + 0 ≤ 7301550; omega)⟩) hS (fun q _ h => hFc q h) hFc (fun r_64 u t H1 locs ht hvm hpo hB hz1 hk1 hS => ?_)
        obtain rfl := hpo
        obtain ⟨f_65, hP1⟩ := hB
        subst f_65
        rw [ht] at hP1
        have hP : ms (dC, dI) vwCl A [(fun q e => TW cy K (some s0) (T_ticks N a) z_52 z_53 q e ∨ oW ob (K 0 0) (Lt 0 0) q e), cel gp (gO ob bs qf (d + 1 + 1) nd nl nf), rwW cy 24 5 (qf 0) lr lv nl, rwW cy 10 6 (qf 9) fr9 fv nf, (TW cy Lt none b4 κ4 τ4)] H1 := hP.call 0 rfl hk1 hFc hP1
        clear hP1 hk1 hFc
        generalize H1 = H at hP hS ⊢
        refine W.eq (g2 := F0 m 352 ls [.int ((T_ticks N a) 15 z_15 3), .int 1]) (by rw [nI_clamp (by omega)]) ?_
        refine lv_iconst (v := 2) hx hb dL_law_352 (by decide) ?_
        refine lv_icmp_ne (tgt := 360) hx hb dL_law_353 (by decide) (fun c_66 => ?_) (fun c_66 => ?_)
        · refine lv_iconst (v := 0) hx hb dL_law_360 (by decide) ?_
          refine lv_icmp_eq (tgt := 366) hx hb dL_law_361 (by decide) (fun _ => ?_) (fun c_67 => absurd (c_66 (hiff.mp c_58)).elim c_67)
          refine W.widen (k := cells + 504) (n := slots + 260568) (by show cells + 0 + 0 + 0 + 0 + 0 + 0 + 0 + 0 + ((84 * cT ((some s0)) * N)) + 0 ≤ cells + 504; omega) (by show slots + 0 + 0 + 0 + 0 + 0 + 0 + 0 + 0 + ((84 * pB ((some s0)) 3100 * N)) + 0 ≤ slots + 260568; omega) ?_
          exact kk _ _ ls N (eIn N b a) (d + 1 + 1) (T_ticks N a) z_52 z_53 b4 κ4 τ4 hN1 hN6 (by omega) ⟨f_55.1, hw2.mono (by omega), f_55.2.1, f_55.2.2, hIv2⟩ (hwb4.mono (by omega)) hTt.none (hIe N Mb b hN1 (by omega) (by omega) (by omega) (hw.mono (by omega)) hwb) hP hS (lv_sub hl [6, 7, 8, 9, 10, 5, 3] rfl)
        · refine lv_iconst (v := 1) hx hb dL_law_356 (by decide) ?_
          refine lv_goto (tgt := 361) hx hb dL_law_357 (by decide) ?_
          refine lv_icmp_eq (tgt := 366) hx hb dL_law_361 (by decide) (fun _ => ?_) (fun c_68 => absurd rfl c_68)
          refine W.widen (k := cells + 504) (n := slots + 260568) (by show cells + 0 + 0 + 0 + 0 + 0 + 0 + 0 + 0 + ((84 * cT ((some s0)) * N)) + 0 ≤ cells + 504; omega) (by show slots + 0 + 0 + 0 + 0 + 0 + 0 + 0 + 0 + ((84 * pB ((some s0)) 3100 * N)) + 0 ≤ slots + 260568; omega) ?_
          exact kk _ _ ls N (eIn N b a) (d + 1 + 1) (T_ticks N a) z_52 z_53 b4 κ4 τ4 hN1 hN6 (by omega) ⟨f_55.1, hw2.mono (by omega), f_55.2.1, f_55.2.2, hIv2⟩ (hwb4.mono (by omega)) hTt.none (hIe N Mb b hN1 (by omega) (by omega) (by omega) (hw.mono (by omega)) hwb) hP hS (lv_sub hl [6, 7, 8, 9, 10, 5, 3] rfl)
  · refine lv_iconst (v := -1) hx hb dL_law_244 (by decide) ?_
    refine lv_goto (tgt := 256) hx hb dL_law_245 (by decide) ?_
    refine lv_istore (lv' := [(11, .int ((-1))), (10, .int (eIn N b a)), (8, .long (D_all a)), (7, .int (nI N)), (0, .ref bs), (1, .int tm), (2, .ref gp), (3, .ref ob), (4, .int sp9)]) hx hb dL_law_256 hl (by decide) rfl (fun ls hl => ?_)
    refine lv_iload hx hb dL_law_258 (lv_at hl 0 rfl) ?_
    refine lv_if_ge (tgt := 267) hx hb dL_law_260 (by decide) (fun c_69 => absurd c_69 (by decide)) (fun _ => ?_)
    refine lv_iconst (v := -1) hx hb dL_law_263 (by decide) ?_
    refine lv_goto (tgt := 275) hx hb dL_law_264 (by decide) ?_
    refine lv_istore (lv' := [(12, .int ((-1))), (11, .int ((-1))), (10, .int (eIn N b a)), (8, .long (D_all a)), (7, .int (nI N)), (0, .ref bs), (1, .int tm), (2, .ref gp), (3, .ref ob), (4, .int sp9)]) hx hb dL_law_275 hl (by decide) rfl (fun ls hl => ?_)
    refine lv_aload_n hx hb dL_law_277 rfl (lv_at hl 8 rfl) ?_
    have hFc := m_free (C := (fun q e => TW cy K (some s0) a z_6 τ q e ∨ oW ob (K 0 0) (Lt 0 0) q e)) hP.1 hS hA (fun _ _ h => any_in (i := 0) rfl h)
    refine va_calll (va_runV (As := []) (rest := []) ⟨hx, hb, hml, hown, hts⟩ (c_digest l dC dI cy K ((some s0)) a z_6 τ ob ((Lt 0 0)) M H.size hT hw hsh hCV) (tp_cwV 0 hts tw_497 tw_498 tw_499 tw_20 tw_500 rfl rfl (by decide +kernel) ⟨Nat.le_of_ble_eq_true rfl, Nat.le_of_ble_eq_true rfl⟩) ⟨m_blind, va_recv hK (hP.one (e := .inr (8, [.ref (K 0 0), .ref (Lt 0 0)])) 0 rfl (Or.inr oW_mem)) (ci := 8) (q0 := 0) rfl rfl, fun U hU hW => ⟨rfl, m_pay hK hP.1 hE (fun _ _ h => any_in (i := 0) rfl h) U hU hW⟩⟩ rfl rfl hl.1 rfl (lv_room (Nat.le_of_ble_eq_true rfl)) dL_law_278 ⟨(by show cells + 0 + 0 + 0 + 0 ≤ 600074; omega), (by show slots + 0 + 0 + 0 + 0 ≤ 7301550; omega)⟩) hS (fun q _ h => hFc q h) hFc (fun r_70 u t H1 locs ht hvm hpo hB hz1 hk1 hS => ?_)
    obtain rfl := hpo
    obtain ⟨z_71, f_72, f_73, hP1⟩ := hB
    subst f_72
    rw [ht] at hP1
    have hP : ms (dC, dI) vwCl A [(fun q e => TW cy K (some s0) a z_71 τ q e ∨ oW ob (K 0 0) (Lt 0 0) q e), cel gp (gO ob bs qf (d + 1) nd nl nf), rwW cy 24 5 (qf 0) lr lv nl, rwW cy 10 6 (qf 9) fr9 fv nf, (TW cy Lt none b3 κ3 τ3)] H1 := hP.call 0 rfl hk1 hFc hP1
    clear hP1 hk1 hFc
    generalize H1 = H at hP hS ⊢
    clear hCV
    have hCV := f_73
    refine lv_lload hx hb dL_law_281 (lv_at hl 3 rfl) ?_
    refine W.lcmp hx hb dL_law_283 ?_
    refine lv_if_ne (tgt := 307) hx hb dL_law_284 (by decide) (fun c_74 => absurd lcmp_self c_74) (fun _ => ?_)
    refine lv_iload hx hb dL_law_287 (lv_at hl 1 rfl) ?_
    refine lv_if_lt (tgt := 309) hx hb dL_law_289 (by decide) (fun _ => ?_) (fun c_75 => absurd (by decide) c_75)
    refine lv_aload_n hx hb dL_law_309 rfl (lv_at hl 8 rfl) ?_
    have hFc := m_free (C := (fun q e => TW cy K (some s0) a z_71 τ q e ∨ oW ob (K 0 0) (Lt 0 0) q e)) hP.1 hS hA (fun _ _ h => any_in (i := 0) rfl h)
    refine va_calli (va_runV (As := []) (rest := []) ⟨hx, hb, hml, hown, hts⟩ (c_clock l dC dI cy K ((some s0)) a z_71 τ ob ((Lt 0 0)) H.size hT) (tp_cwV 0 hts tw_371 tw_372 tw_373 tw_20 tw_374 rfl rfl (by decide +kernel) ⟨Nat.le_of_ble_eq_true rfl, Nat.le_of_ble_eq_true rfl⟩) ⟨m_blind, va_recv hK (hP.one (e := .inr (8, [.ref (K 0 0), .ref (Lt 0 0)])) 0 rfl (Or.inr oW_mem)) (ci := 8) (q0 := 0) rfl rfl, fun U hU hW => ⟨rfl, m_pay hK hP.1 hE (fun _ _ h => any_in (i := 0) rfl h) U hU hW⟩⟩ rfl rfl hl.1 rfl (lv_room (Nat.le_of_ble_eq_true rfl)) dL_law_310 ⟨(by show cells + 0 + 0 + 0 + 0 + 0 ≤ 600074; omega), (by show slots + 0 + 0 + 0 + 0 + 0 ≤ 7301550; omega)⟩) hS (fun q _ h => hFc q h) hFc (fun r_76 u t H1 locs ht hvm hpo hB hz1 hk1 hS => ?_)
    obtain rfl := hpo
    obtain ⟨f_77, hP1⟩ := hB
    subst f_77
    rw [ht] at hP1
    have hP : ms (dC, dI) vwCl A [(fun q e => TW cy K (some s0) a z_71 τ q e ∨ oW ob (K 0 0) (Lt 0 0) q e), cel gp (gO ob bs qf (d + 1) nd nl nf), rwW cy 24 5 (qf 0) lr lv nl, rwW cy 10 6 (qf 9) fr9 fv nf, (TW cy Lt none b3 κ3 τ3)] H1 := hP.call 0 rfl hk1 hFc hP1
    clear hP1 hk1 hFc
    generalize H1 = H at hP hS ⊢
    refine lv_istore (lv' := [(13, .int (a 0 0 0)), (12, .int ((-1))), (11, .int ((-1))), (10, .int (eIn N b a)), (8, .long (D_all a)), (7, .int (nI N)), (0, .ref bs), (1, .int tm), (2, .ref gp), (3, .ref ob), (4, .int sp9)]) hx hb dL_law_313 hl (by decide) rfl (fun ls hl => ?_)
    refine lv_aload_n hx hb dL_law_315 rfl (lv_at hl 9 rfl) ?_
    refine lv_iload hx hb dL_law_316 (lv_at hl 5 rfl) ?_
    have h9c := cst_c (s0 := s0) N hN6
    have h9s := cst_s (s0 := s0) N hN6
    have hFc := m_free (C := (fun q e => TW cy K (some s0) a z_71 τ q e ∨ oW ob (K 0 0) (Lt 0 0) q e)) hP.1 hS hA (fun _ _ h => any_in (i := 0) rfl h)
    refine va_calli (va_runV (As := [.int (nI N)]) (rest := []) ⟨hx, hb, hml, hown, hts⟩ (c_step l dC dI cy K ((some s0)) a z_71 τ ob ((Lt 0 0)) M 3100 N H.size hT hw ⟨hT, hCV, hTR⟩ hN1 (by omega) (by omega) (by omega) hck0 hck2) (tp_cwV 1 hts tw_155 tw_156 tw_157 tw_20 tw_158 rfl rfl (by decide +kernel) ⟨Nat.le_of_ble_eq_true rfl, Nat.le_of_ble_eq_true rfl⟩) ⟨m_blind, va_recv hK (hP.one (e := .inr (8, [.ref (K 0 0), .ref (Lt 0 0)])) 0 rfl (Or.inr oW_mem)) (ci := 8) (q0 := 0) rfl rfl, fun U hU hW => ⟨rfl, m_pay hK hP.1 hE (fun _ _ h => any_in (i := 0) rfl h) U hU hW⟩⟩ rfl rfl hl.1 rfl (lv_room (Nat.le_of_ble_eq_true rfl)) dL_law_318 ⟨(by show cells + 0 + 0 + 0 + 0 + 0 + ((84 * cT ((some s0)) * N)) ≤ 600074; omega), (by show slots + 0 + 0 + 0 + 0 + 0 + ((84 * pB ((some s0)) 3100 * N)) ≤ 7301550; omega)⟩) hS (fun q _ h => hFc q h) hFc (fun r_78 u t H1 locs ht hvm hpo hB hz1 hk1 hS => ?_)
    obtain rfl := hpo
    obtain ⟨z_79, z_80, f_81, f_82, hP1⟩ := hB
    subst f_81
    rw [ht] at hP1
    have hP : ms (dC, dI) vwCl A [(fun q e => TW cy K (some s0) (T_ticks N a) z_79 z_80 q e ∨ oW ob (K 0 0) (Lt 0 0) q e), cel gp (gO ob bs qf (d + 1) nd nl nf), rwW cy 24 5 (qf 0) lr lv nl, rwW cy 10 6 (qf 9) fr9 fv nf, (TW cy Lt none b3 κ3 τ3)] H1 := hP.call 0 rfl hk1 hFc hP1
    clear hP1 hk1 hFc
    generalize H1 = H at hP hS ⊢
    obtain ⟨hIv2, hmono⟩ := hIt N M (by omega) (by omega) (by omega) hw
    have hc0b := (hI _ _ _ _ _ _ _ hIv2).2.2.2.2.1.1.1
    have hw2 := T_ticks_Wf hw hck0 N (by omega) hck2
    refine lv_iload hx hb dL_law_321 (lv_at hl 0 rfl) ?_
    refine lv_iload hx hb dL_law_323 (lv_at hl 5 rfl) ?_
    refine lv_iadd hx hb dL_law_325 ?_
    refine lv_icmp_eq (tgt := 331) hx hb dL_law_326 (by decide) (fun _ => ?_) (fun c_83 => absurd (by rw [hc0b, hc0, nI_add]) c_83)
    refine lv_iload hx hb dL_law_331 (lv_at hl 2 rfl) ?_
    refine lv_if_lt (tgt := 366) hx hb dL_law_333 (by decide) (fun _ => ?_) (fun c_84 => absurd (by decide) c_84)
    refine W.widen (k := cells + 504) (n := slots + 260568) (by show cells + 0 + 0 + 0 + 0 + 0 + ((84 * cT ((some s0)) * N)) ≤ cells + 504; omega) (by show slots + 0 + 0 + 0 + 0 + 0 + ((84 * pB ((some s0)) 3100 * N)) ≤ slots + 260568; omega) ?_
    exact kk _ _ ls N (eIn N b a) (d + 1) (T_ticks N a) z_79 z_80 b3 κ3 τ3 hN1 hN6 (by omega) ⟨f_82.1, hw2.mono (by omega), f_82.2.1, f_82.2.2, hIv2⟩ (hwb3.mono (by omega)) hTt.none (hIe N Mb b hN1 (by omega) (by omega) (by omega) (hw.mono (by omega)) hwb) hP hS (lv_sub hl [6, 7, 8, 9, 10, 5, 3] rfl)
