def lx_At (p : Program) (s : State) (m : MethodId) (meth : Method) (c : Code) (A : Nat → Prop) (bs Ls : Nat) (xs : Nat → Int32) (dC : Nat → ClassId) (dI : Nat → Nat → Nat) (cy : Nat → ClassId) : Prop := p.tables.exec = Jvm.exec ∧ c.code = cL_law ∧ meth.sig.returnType = ret ∧ c.maxLocals = 24 ∧ s.vm.findClass RL = some m.cls ∧ (∀ w ∈ tp_all, w.before #[.ref bs] s = true) ∧ va_X bs Ls xs s s.heap ∧ bs < s.heap.size ∧ Ls ≤ 260 ∧ meth.locks = false ∧ va_K (dC, dI) vwCl (tp_ty cy) s ∧ tp_E s ∧ (∀ q : Nat, s.heap.size ≤ q → A q) ∧ ¬ A bs
theorem chk_nol {nd nl nf ck i : Nat} {a : St} (h : ChkN nd nl nf ck a) (hi : i < nl) (hn : nl ≤ 24) : ¬ G_no a (nI i) := by
  rintro (h9 | h9)
  · exact nI_nneg (by omega) h9
  · rw [h.2.1] at h9
    exact nI_ge hi (by omega) h9
theorem chk_non {nd nl nf ck i : Nat} {a : St} (h : ChkN nd nl nf ck a) (hi : i < nd) (hn : nd ≤ 12) : ¬ N_no a (nI i) := by
  rintro (h9 | h9)
  · exact nI_nneg (by omega) h9
  · rw [h.2.2.1] at h9
    exact nI_ge hi (by omega) h9
theorem chk_nof {nd nl nf ck i : Nat} {a : St} (h : ChkN nd nl nf ck a) (hi : i < nf) (hn : nf ≤ 10) : ¬ F_no a (nI i) := by
  rintro (h9 | h9)
  · exact nI_nneg (by omega) h9
  · rw [h.2.2.2.1] at h9
    exact nI_ge hi (by omega) h9
theorem rget {n p : Int32} {g : Nat → Int32} (h0 : ¬ p < 0) (h1 : ¬ n ≤ p) : R_get n g p = g p.toNatClampNeg := by
  unfold R_get
  rw [if_neg h0, if_neg h1]
theorem pE_s {a : St} {k j v : Nat} (h : a 4 k j = nI v) (hv : v < 2 ^ 31) : pE a k (j + 1) = a 15 v 6 := by
  unfold pE
  rw [if_neg (by omega), Nat.add_sub_cancel, h, nI_clamp hv]
theorem tw_941 : Cond.fieldLink RL 37 "TurnpikeLaw$Roads" "links" "I" ∈ tp_all := tp_mem 941 (by decide +kernel) rfl
theorem tw_431 : Cond.methodLink RL 77 yX8_onLink ∈ tp_all := tp_mem 431 (by decide +kernel) rfl
theorem tw_944 : Cond.fieldLink RL 80 "TurnpikeLaw$Roads" "link" "[[I" ∈ tp_all := tp_mem 944 (by decide +kernel) rfl
theorem tw_446 : Cond.methodLink RL 84 yX8_count ∈ tp_all := tp_mem 446 (by decide +kernel) rfl
theorem tw_441 : Cond.methodLink RL 87 yX8_queue ∈ tp_all := tp_mem 441 (by decide +kernel) rfl
theorem tw_375 : Cond.methodLink RL 90 yX8_costOf ∈ tp_all := tp_mem 375 (by decide +kernel) rfl
theorem tw_435 : Cond.methodLink RL 93 yX8_vehicleAt ∈ tp_all := tp_mem 435 (by decide +kernel) rfl
theorem tw_393 : Cond.methodLink RL 96 yX8_linkOf ∈ tp_all := tp_mem 393 (by decide +kernel) rfl
theorem tw_383 : Cond.methodLink RL 68 yX8_stateOf ∈ tp_all := tp_mem 383 (by decide +kernel) rfl
theorem tw_397 : Cond.methodLink RL 99 yX8_endOf ∈ tp_all := tp_mem 397 (by decide +kernel) rfl
theorem dL_law_366 : decode cL_law 366 = .ok (.iconst 0, 1) := by decide +kernel
theorem dL_law_367 : decode cL_law 367 = .ok (.istore 14, 2) := by decide +kernel
theorem dL_law_369 : decode cL_law 369 = .ok (.iconst 0, 1) := by decide +kernel
theorem dL_law_370 : decode cL_law 370 = .ok (.istore 15, 2) := by decide +kernel
theorem dL_law_372 : decode cL_law 372 = .ok (.iconst 0, 1) := by decide +kernel
theorem dL_law_373 : decode cL_law 373 = .ok (.istore 16, 2) := by decide +kernel
theorem dL_law_375 : decode cL_law 375 = .ok (.iload 16, 2) := by decide +kernel
theorem dL_law_377 : decode cL_law 377 = .ok (.aload_n 2, 1) := by decide +kernel
theorem dL_law_378 : decode cL_law 378 = .ok (.getfield 37, 3) := by decide +kernel
theorem dL_law_381 : decode cL_law 381 = .ok (.if_icmp .ge 172, 3) := by decide +kernel
theorem dL_law_384 : decode cL_law 384 = .ok (.aload_n 3, 1) := by decide +kernel
theorem dL_law_385 : decode cL_law 385 = .ok (.iload 16, 2) := by decide +kernel
theorem dL_law_387 : decode cL_law 387 = .ok (.invokevirtual 77, 3) := by decide +kernel
theorem dL_law_390 : decode cL_law 390 = .ok (.aload_n 2, 1) := by decide +kernel
theorem dL_law_391 : decode cL_law 391 = .ok (.getfield 80, 3) := by decide +kernel
theorem dL_law_394 : decode cL_law 394 = .ok (.iload 16, 2) := by decide +kernel
theorem dL_law_396 : decode cL_law 396 = .ok (.aaload, 1) := by decide +kernel
theorem dL_law_397 : decode cL_law 397 = .ok (.iconst 3, 1) := by decide +kernel
theorem dL_law_398 : decode cL_law 398 = .ok (.iaload, 1) := by decide +kernel
theorem dL_law_399 : decode cL_law 399 = .ok (.if_icmp .gt 60, 3) := by decide +kernel
theorem dL_law_402 : decode cL_law 402 = .ok (.aload_n 3, 1) := by decide +kernel
theorem dL_law_403 : decode cL_law 403 = .ok (.iload 16, 2) := by decide +kernel
theorem dL_law_405 : decode cL_law 405 = .ok (.invokevirtual 77, 3) := by decide +kernel
theorem dL_law_408 : decode cL_law 408 = .ok (.aload_n 3, 1) := by decide +kernel
theorem dL_law_409 : decode cL_law 409 = .ok (.iload 16, 2) := by decide +kernel
theorem dL_law_411 : decode cL_law 411 = .ok (.iconst 0, 1) := by decide +kernel
theorem dL_law_412 : decode cL_law 412 = .ok (.invokevirtual 84, 3) := by decide +kernel
theorem dL_law_415 : decode cL_law 415 = .ok (.aload_n 3, 1) := by decide +kernel
theorem dL_law_416 : decode cL_law 416 = .ok (.iload 16, 2) := by decide +kernel
theorem dL_law_418 : decode cL_law 418 = .ok (.iconst 1, 1) := by decide +kernel
theorem dL_law_419 : decode cL_law 419 = .ok (.invokevirtual 84, 3) := by decide +kernel
theorem dL_law_422 : decode cL_law 422 = .ok (.isub, 1) := by decide +kernel
theorem dL_law_423 : decode cL_law 423 = .ok (.if_icmp .ne 36, 3) := by decide +kernel
theorem dL_law_426 : decode cL_law 426 = .ok (.aload_n 3, 1) := by decide +kernel
theorem dL_law_427 : decode cL_law 427 = .ok (.iload 16, 2) := by decide +kernel
theorem dL_law_429 : decode cL_law 429 = .ok (.invokevirtual 87, 3) := by decide +kernel
theorem dL_law_432 : decode cL_law 432 = .ok (.aload_n 3, 1) := by decide +kernel
theorem dL_law_433 : decode cL_law 433 = .ok (.iload 16, 2) := by decide +kernel
theorem dL_law_435 : decode cL_law 435 = .ok (.invokevirtual 77, 3) := by decide +kernel
theorem dL_law_438 : decode cL_law 438 = .ok (.if_icmp .gt 21, 3) := by decide +kernel
theorem dL_law_441 : decode cL_law 441 = .ok (.aload_n 3, 1) := by decide +kernel
theorem dL_law_442 : decode cL_law 442 = .ok (.iload 16, 2) := by decide +kernel
theorem dL_law_444 : decode cL_law 444 = .ok (.invokevirtual 90, 3) := by decide +kernel
theorem dL_law_447 : decode cL_law 447 = .ok (.aload_n 2, 1) := by decide +kernel
theorem dL_law_448 : decode cL_law 448 = .ok (.getfield 80, 3) := by decide +kernel
theorem dL_law_451 : decode cL_law 451 = .ok (.iload 16, 2) := by decide +kernel
theorem dL_law_453 : decode cL_law 453 = .ok (.aaload, 1) := by decide +kernel
theorem dL_law_454 : decode cL_law 454 = .ok (.iconst 2, 1) := by decide +kernel
theorem dL_law_455 : decode cL_law 455 = .ok (.iaload, 1) := by decide +kernel
theorem dL_law_456 : decode cL_law 456 = .ok (.if_icmp .ge 5, 3) := by decide +kernel
theorem dL_law_461 : decode cL_law 461 = .ok (.iconst (-1), 1) := by decide +kernel
theorem dL_law_462 : decode cL_law 462 = .ok (.istore 17, 2) := by decide +kernel
theorem dL_law_464 : decode cL_law 464 = .ok (.iconst 0, 1) := by decide +kernel
theorem dL_law_465 : decode cL_law 465 = .ok (.istore 18, 2) := by decide +kernel
theorem dL_law_467 : decode cL_law 467 = .ok (.iload 18, 2) := by decide +kernel
theorem dL_law_469 : decode cL_law 469 = .ok (.aload_n 3, 1) := by decide +kernel
theorem dL_law_470 : decode cL_law 470 = .ok (.iload 16, 2) := by decide +kernel
theorem dL_law_472 : decode cL_law 472 = .ok (.invokevirtual 77, 3) := by decide +kernel
theorem dL_law_475 : decode cL_law 475 = .ok (.if_icmp .ge 61, 3) := by decide +kernel
theorem dL_law_536 : decode cL_law 536 = .ok (.iload 14, 2) := by decide +kernel
theorem dL_law_538 : decode cL_law 538 = .ok (.aload_n 3, 1) := by decide +kernel
theorem dL_law_539 : decode cL_law 539 = .ok (.iload 16, 2) := by decide +kernel
theorem dL_law_541 : decode cL_law 541 = .ok (.invokevirtual 77, 3) := by decide +kernel
theorem dL_law_544 : decode cL_law 544 = .ok (.iadd, 1) := by decide +kernel
theorem dL_law_545 : decode cL_law 545 = .ok (.istore 14, 2) := by decide +kernel
theorem dL_law_547 : decode cL_law 547 = .ok (.iinc 16 1, 3) := by decide +kernel
theorem dL_law_550 : decode cL_law 550 = .ok (.goto (-175), 3) := by decide +kernel
theorem dL_law_478 : decode cL_law 478 = .ok (.aload_n 3, 1) := by decide +kernel
theorem dL_law_479 : decode cL_law 479 = .ok (.iload 16, 2) := by decide +kernel
theorem dL_law_481 : decode cL_law 481 = .ok (.iload 18, 2) := by decide +kernel
theorem dL_law_483 : decode cL_law 483 = .ok (.invokevirtual 93, 3) := by decide +kernel
theorem dL_law_486 : decode cL_law 486 = .ok (.istore 19, 2) := by decide +kernel
theorem dL_law_488 : decode cL_law 488 = .ok (.aload_n 3, 1) := by decide +kernel
theorem dL_law_489 : decode cL_law 489 = .ok (.iload 19, 2) := by decide +kernel
theorem dL_law_491 : decode cL_law 491 = .ok (.invokevirtual 96, 3) := by decide +kernel
theorem dL_law_494 : decode cL_law 494 = .ok (.iload 16, 2) := by decide +kernel
theorem dL_law_496 : decode cL_law 496 = .ok (.if_icmp .ne 24, 3) := by decide +kernel
theorem dL_law_499 : decode cL_law 499 = .ok (.aload_n 3, 1) := by decide +kernel
theorem dL_law_500 : decode cL_law 500 = .ok (.iload 19, 2) := by decide +kernel
theorem dL_law_502 : decode cL_law 502 = .ok (.invokevirtual 68, 3) := by decide +kernel
theorem dL_law_505 : decode cL_law 505 = .ok (.iconst 1, 1) := by decide +kernel
theorem dL_law_506 : decode cL_law 506 = .ok (.if_icmp .ne 14, 3) := by decide +kernel
theorem dL_law_509 : decode cL_law 509 = .ok (.aload_n 3, 1) := by decide +kernel
theorem dL_law_510 : decode cL_law 510 = .ok (.iload 19, 2) := by decide +kernel
theorem dL_law_512 : decode cL_law 512 = .ok (.invokevirtual 99, 3) := by decide +kernel
theorem dL_law_515 : decode cL_law 515 = .ok (.iload 17, 2) := by decide +kernel
theorem dL_law_517 : decode cL_law 517 = .ok (.if_icmp .ge 5, 3) := by decide +kernel
theorem dL_law_522 : decode cL_law 522 = .ok (.aload_n 3, 1) := by decide +kernel
theorem dL_law_523 : decode cL_law 523 = .ok (.iload 19, 2) := by decide +kernel
theorem dL_law_525 : decode cL_law 525 = .ok (.invokevirtual 99, 3) := by decide +kernel
theorem dL_law_528 : decode cL_law 528 = .ok (.istore 17, 2) := by decide +kernel
theorem dL_law_530 : decode cL_law 530 = .ok (.iinc 18 1, 3) := by decide +kernel
theorem dL_law_533 : decode cL_law 533 = .ok (.goto (-66), 3) := by decide +kernel
set_option maxRecDepth 100000 in
set_option maxHeartbeats 4000000 in
/-- the checks of the links -/
theorem lx_links {p : Program} {l : Launch} {e : Env} {s : State} {m : MethodId} {below : List Frame} {meth : Method} {c : Code} {A : Nat → Prop} {dC : Nat → ClassId} {dI : Nat → Nat → Nat} {cy : Nat → ClassId} {bs Ls : Nat} {xs : Nat → Int32} {Q : State → Prop} {cells slots : Nat} (C1 : lx_At p s m meth c A bs Ls xs dC dI cy) (hcells : cells ≤ 590000) (hslots : slots ≤ 7040000) {gp : Nat} {ob : Nat} {qf : Nat → Nat} {d : Nat} {nd : Nat} {nl : Nat} {nf : Nat} {lr : Nat → Nat} {lv : Tb} {fr9 : Nat → Nat} {fv : Tb} {K : Lay} {s0 : Nat} {Lt : Lay} {a : St} {κ : Kap} {τ : Tau} {b : St} {κt : Kap} {τt : Tau} {M : Nat} {ck : Nat} (hT : TL K (some s0) τ) (hw : Wf M a) (hM : M < 20000) (hTR : TRab (some s0) a τ) (hchk : Chk nd nl nf lv fv ck a) (hnd : nd ≤ 12) (hnl : nl ≤ 24) (hnf : nf ≤ 10) (tm : Int32) (sp9 : Int32) (tk9 : Int32) (em9 : Int32) (H : Heap) (locs : List Loc) (ls : Array Slot) (hP : ms (dC, dI) vwCl A [(fun q e => TW cy K (some s0) a κ τ q e ∨ oW ob (K 0 0) (Lt 0 0) q e), cel gp (gO ob bs qf d nd nl nf), rwW cy 24 5 (qf 0) lr lv nl, rwW cy 10 6 (qf 9) fr9 fv nf, (TW cy Lt none b κt τt)] H) (hS : va_S A s.heap H locs) (hl : lv_has ls 24 [(0, .ref bs), (1, .int tm), (2, .ref gp), (3, .ref ob), (4, .int sp9), (7, .int tk9), (10, .int em9)]) (kk : ∀ (H : Heap) (locs : List Loc) (ls : Array Slot), ms (dC, dI) vwCl A [(fun q e => TW cy K (some s0) a κ τ q e ∨ oW ob (K 0 0) (Lt 0 0) q e), cel gp (gO ob bs qf d nd nl nf), rwW cy 24 5 (qf 0) lr lv nl, rwW cy 10 6 (qf 9) fr9 fv nf, (TW cy Lt none b κt τt)] H → va_S A s.heap H locs → lv_has ls 24 [(0, .ref bs), (1, .int tm), (2, .ref gp), (3, .ref ob), (4, .int sp9), (7, .int tk9), (10, .int em9), (14, .int (onE a nl)), (15, .int 0)] → W p l e room_1 s m #[.ref bs] below meth c H locs (cells) (slots) Q (F0 m 553 ls [])) : W p l e room_1 s m #[.ref bs] below meth c H locs cells slots Q (F0 m 366 ls []) := by
  obtain ⟨hx, hb, hr, hml, hown, hts, hX, hbl, hbL, hlocks, hK, hE, hA, hbA⟩ := C1
  have hl : lv_has ls 24 [(0, .ref bs), (1, .int tm), (2, .ref gp), (3, .ref ob), (4, .int sp9), (7, .int tk9), (10, .int em9)] := hl
  refine lv_iconst (v := 0) hx hb dL_law_366 (by decide) ?_
  refine lv_istore (lv' := [(14, .int 0), (0, .ref bs), (1, .int tm), (2, .ref gp), (3, .ref ob), (4, .int sp9), (7, .int tk9), (10, .int em9)]) hx hb dL_law_367 hl (by decide) rfl (fun ls hl => ?_)
  refine lv_iconst (v := 0) hx hb dL_law_369 (by decide) ?_
  refine lv_istore (lv' := [(15, .int 0), (14, .int 0), (0, .ref bs), (1, .int tm), (2, .ref gp), (3, .ref ob), (4, .int sp9), (7, .int tk9), (10, .int em9)]) hx hb dL_law_370 hl (by decide) rfl (fun ls hl => ?_)
  refine lv_iconst (v := 0) hx hb dL_law_372 (by decide) ?_
  refine lv_istore (lv' := [(16, .int 0), (15, .int 0), (14, .int 0), (0, .ref bs), (1, .int tm), (2, .ref gp), (3, .ref ob), (4, .int sp9), (7, .int tk9), (10, .int em9)]) hx hb dL_law_373 hl (by decide) rfl (fun ls hl => ?_)
  refine tp_for (σ := Unit) nl (fun _ => cells) (fun _ => slots) (fun (i : Nat) (_ : Unit) (H : Heap) (locs : List Loc) (ls : Array Slot) => ms (dC, dI) vwCl A [(fun q e => TW cy K (some s0) a κ τ q e ∨ oW ob (K 0 0) (Lt 0 0) q e), cel gp (gO ob bs qf d nd nl nf), rwW cy 24 5 (qf 0) lr lv nl, rwW cy 10 6 (qf 9) fr9 fv nf, (TW cy Lt none b κt τt)] H ∧ va_S A s.heap H locs ∧ lv_has ls 24 [(16, .int (nI i)), (14, .int (sumI (fun k => a 3 k 0) i)), (15, .int 0), (0, .ref bs), (1, .int tm), (2, .ref gp), (3, .ref ob), (4, .int sp9), (7, .int tk9), (10, .int em9)]) ?_ ?_ nl 0 (Nat.zero_add _) () _ _ ls ⟨hP, hS, lv_sub hl [0, 2, 1, 3, 4, 5, 6, 7, 8, 9] rfl⟩
  · rintro _ H locs ls ⟨hP, hS, hl⟩
    have hl : lv_has ls 24 [(16, .int (nI nl)), (14, .int (sumI (fun k => a 3 k 0) nl)), (15, .int 0), (0, .ref bs), (1, .int tm), (2, .ref gp), (3, .ref ob), (4, .int sp9), (7, .int tk9), (10, .int em9)] := hl
    show W _ _ _ _ _ _ _ _ _ _ _ _ (cells) (slots) _ _
    refine lv_iload hx hb dL_law_375 (lv_at hl 0 rfl) ?_
    refine lv_aload_n hx hb dL_law_377 rfl (lv_at hl 5 rfl) ?_
    refine va_get (D := (dC, dI)) (ws := [(gp, .inr (9, [.ref ob, .ref bs, .int (nI d), .int (nI nd), .int 0, .int 1, .int (nI nl), .ref (qf 0), .ref (qf 1), .ref (qf 2), .ref (qf 3), .ref (qf 4), .ref (qf 5), .ref (qf 6), .ref (qf 7), .ref (qf 8), .int (nI nf), .ref (qf 9), .int 0, .ref (qf 10), .ref (qf 11), .ref (qf 12), .ref (qf 13), .ref (qf 14), .ref (qf 15)]))]) (ci := 9) (v := .int (nI nl)) (C := RX9) (T := TX9) (N := 25) hx hb hts tl_X9 hown hK (hP.one 1 rfl cel_in) 0 rfl rfl 6 (by decide) (hts _ tw_941) (fun _ h9 => h9) rfl dL_law_378 ?_
    refine lv_icmp_ge (tgt := 553) hx hb dL_law_381 (by decide) (fun _ => ?_) (fun c_1 => absurd (Int32.le_refl _) c_1)
    exact kk _ _ ls hP hS (lv_sub hl [3, 4, 5, 6, 7, 8, 9, 1, 2] rfl)
  · rintro i _ H locs ls hi ⟨hP, hS, hl⟩ ihi
    have hl : lv_has ls 24 [(16, .int (nI i)), (14, .int (sumI (fun k => a 3 k 0) i)), (15, .int 0), (0, .ref bs), (1, .int tm), (2, .ref gp), (3, .ref ob), (4, .int sp9), (7, .int tk9), (10, .int em9)] := hl
    show W _ _ _ _ _ _ _ _ _ _ _ _ (cells) (slots) _ _
    obtain ⟨hN5, hL5, hR5, -⟩ := hchk
    obtain ⟨e1, e2, e3, e4⟩ := hL5 i hi
    have h24 : i < 24 := by omega
    have hno : ¬ G_no a (nI i) := chk_nol hN5 hi hnl
    refine lv_iload hx hb dL_law_375 (lv_at hl 0 rfl) ?_
    refine lv_aload_n hx hb dL_law_377 rfl (lv_at hl 5 rfl) ?_
    refine va_get (D := (dC, dI)) (ws := [(gp, .inr (9, [.ref ob, .ref bs, .int (nI d), .int (nI nd), .int 0, .int 1, .int (nI nl), .ref (qf 0), .ref (qf 1), .ref (qf 2), .ref (qf 3), .ref (qf 4), .ref (qf 5), .ref (qf 6), .ref (qf 7), .ref (qf 8), .int (nI nf), .ref (qf 9), .int 0, .ref (qf 10), .ref (qf 11), .ref (qf 12), .ref (qf 13), .ref (qf 14), .ref (qf 15)]))]) (ci := 9) (v := .int (nI nl)) (C := RX9) (T := TX9) (N := 25) hx hb hts tl_X9 hown hK (hP.one 1 rfl cel_in) 0 rfl rfl 6 (by decide) (hts _ tw_941) (fun _ h9 => h9) rfl dL_law_378 ?_
    refine lv_icmp_ge (tgt := 553) hx hb dL_law_381 (by decide) (fun c_2 => absurd c_2 (nI_ge hi (by omega))) (fun _ => ?_)
    refine lv_aload_n hx hb dL_law_384 rfl (lv_at hl 6 rfl) ?_
    refine lv_iload hx hb dL_law_385 (lv_at hl 0 rfl) ?_
    have hFc := m_free (C := (fun q e => TW cy K (some s0) a κ τ q e ∨ oW ob (K 0 0) (Lt 0 0) q e)) hP.1 hS hA (fun _ _ h => any_in (i := 0) rfl h)
    refine va_calli (va_runV (As := [.int (nI i)]) (rest := []) ⟨hx, hb, hml, hown, hts⟩ (c_onLink l dC dI cy K ((some s0)) a κ τ ob ((Lt 0 0)) M (nI i) H.size hT hw hno) (tp_cwV 1 hts tw_431 tw_432 tw_433 tw_20 tw_434 rfl rfl (by decide +kernel) ⟨Nat.le_of_ble_eq_true rfl, Nat.le_of_ble_eq_true rfl⟩) ⟨m_blind, va_recv hK (hP.one (e := .inr (8, [.ref (K 0 0), .ref (Lt 0 0)])) 0 rfl (Or.inr oW_mem)) (ci := 8) (q0 := 0) rfl rfl, fun U hU hW => ⟨rfl, m_pay hK hP.1 hE (fun _ _ h => any_in (i := 0) rfl h) U hU hW⟩⟩ rfl rfl hl.1 rfl (lv_room (Nat.le_of_ble_eq_true rfl)) dL_law_387 ⟨(by show cells + 0 ≤ 600074; omega), (by show slots + 0 ≤ 7301550; omega)⟩) hS (fun q _ h => hFc q h) hFc (fun r_3 u t H1 locs ht hvm hpo hB hz1 hk1 hS => ?_)
    obtain rfl := hpo
    obtain ⟨f_4, hP1⟩ := hB
    subst f_4
    rw [ht] at hP1
    have hP : ms (dC, dI) vwCl A [(fun q e => TW cy K (some s0) a κ τ q e ∨ oW ob (K 0 0) (Lt 0 0) q e), cel gp (gO ob bs qf d nd nl nf), rwW cy 24 5 (qf 0) lr lv nl, rwW cy 10 6 (qf 9) fr9 fv nf, (TW cy Lt none b κt τt)] H1 := hP.call 0 rfl hk1 hFc hP1
    clear hP1 hk1 hFc
    generalize H1 = H at hP hS ⊢
    refine W.eq (g2 := F0 m 390 ls [.int (a 3 i 0)]) (by rw [nI_clamp (by omega)]) ?_
    refine lv_aload_n hx hb dL_law_390 rfl (lv_at hl 5 rfl) ?_
    refine va_get (D := (dC, dI)) (ws := [(gp, .inr (9, [.ref ob, .ref bs, .int (nI d), .int (nI nd), .int 0, .int 1, .int (nI nl), .ref (qf 0), .ref (qf 1), .ref (qf 2), .ref (qf 3), .ref (qf 4), .ref (qf 5), .ref (qf 6), .ref (qf 7), .ref (qf 8), .int (nI nf), .ref (qf 9), .int 0, .ref (qf 10), .ref (qf 11), .ref (qf 12), .ref (qf 13), .ref (qf 14), .ref (qf 15)]))]) (ci := 9) (v := .ref (qf 0)) (C := RX9) (T := TX9) (N := 25) hx hb hts tl_X9 hown hK (hP.one 1 rfl cel_in) 0 rfl rfl 7 (by decide) (hts _ tw_944) (fun _ h9 => h9) rfl dL_law_391 ?_
    refine lv_iload hx hb dL_law_394 (lv_at hl 0 rfl) ?_
    have j_5 : (nI i : Int32).toNatClampNeg = i := m_cl (n := 24) rfl (by omega) (by decide)
    refine m_aldA hx hb hK (ws := [(qf 0, arQ (cy 8) 24 (fun j => if j < nl then some (lr j) else none))]) (hP.one 2 rfl (Or.inl ⟨rfl, rfl⟩)) 0 8 rfl rfl (m_in (n := 24) rfl (by omega) (by decide)) dL_law_396 ?_
    refine W.eq (g2 := F0 m 397 ls [.ref (lr i), .int (a 3 i 0)]) (by rw [j_5, if_pos hi]; rfl) ?_
    refine lv_iconst (v := 3) hx hb dL_law_397 (by decide) ?_
    have j_6 : (3 : Int32).toNatClampNeg = 3 := m_cl (n := 5) rfl (by decide) (by decide)
    refine va_iald hx hb hK (ws := [(lr i, .inl (cy 0, 5, .inl (lv i)))]) (hP.one 2 rfl (Or.inr ⟨i, hi, rfl, rfl⟩)) 0 0 rfl rfl (m_in (n := 5) rfl (by decide) (by decide)) dL_law_398 ?_
    refine W.eq (g2 := F0 m 399 ls [.int (lv i 3), .int (a 3 i 0)]) (by rw [j_6]) ?_
    refine lv_icmp_gt (tgt := 459) hx hb dL_law_399 (by decide) (fun c_7 => absurd c_7 (Int32.not_lt.mpr e1)) (fun _ => ?_)
    refine lv_aload_n hx hb dL_law_402 rfl (lv_at hl 6 rfl) ?_
    refine lv_iload hx hb dL_law_403 (lv_at hl 0 rfl) ?_
    have hFc := m_free (C := (fun q e => TW cy K (some s0) a κ τ q e ∨ oW ob (K 0 0) (Lt 0 0) q e)) hP.1 hS hA (fun _ _ h => any_in (i := 0) rfl h)
    refine va_calli (va_runV (As := [.int (nI i)]) (rest := []) ⟨hx, hb, hml, hown, hts⟩ (c_onLink l dC dI cy K ((some s0)) a κ τ ob ((Lt 0 0)) M (nI i) H.size hT hw hno) (tp_cwV 1 hts tw_431 tw_432 tw_433 tw_20 tw_434 rfl rfl (by decide +kernel) ⟨Nat.le_of_ble_eq_true rfl, Nat.le_of_ble_eq_true rfl⟩) ⟨m_blind, va_recv hK (hP.one (e := .inr (8, [.ref (K 0 0), .ref (Lt 0 0)])) 0 rfl (Or.inr oW_mem)) (ci := 8) (q0 := 0) rfl rfl, fun U hU hW => ⟨rfl, m_pay hK hP.1 hE (fun _ _ h => any_in (i := 0) rfl h) U hU hW⟩⟩ rfl rfl hl.1 rfl (lv_room (Nat.le_of_ble_eq_true rfl)) dL_law_405 ⟨(by show cells + 0 + 0 ≤ 600074; omega), (by show slots + 0 + 0 ≤ 7301550; omega)⟩) hS (fun q _ h => hFc q h) hFc (fun r_8 u t H1 locs ht hvm hpo hB hz1 hk1 hS => ?_)
    obtain rfl := hpo
    obtain ⟨f_9, hP1⟩ := hB
    subst f_9
    rw [ht] at hP1
    have hP : ms (dC, dI) vwCl A [(fun q e => TW cy K (some s0) a κ τ q e ∨ oW ob (K 0 0) (Lt 0 0) q e), cel gp (gO ob bs qf d nd nl nf), rwW cy 24 5 (qf 0) lr lv nl, rwW cy 10 6 (qf 9) fr9 fv nf, (TW cy Lt none b κt τt)] H1 := hP.call 0 rfl hk1 hFc hP1
    clear hP1 hk1 hFc
    generalize H1 = H at hP hS ⊢
    refine W.eq (g2 := F0 m 408 ls [.int (a 3 i 0)]) (by rw [nI_clamp (by omega)]) ?_
    refine lv_aload_n hx hb dL_law_408 rfl (lv_at hl 6 rfl) ?_
    refine lv_iload hx hb dL_law_409 (lv_at hl 0 rfl) ?_
    refine lv_iconst (v := 0) hx hb dL_law_411 (by decide) ?_
    have hFc := m_free (C := (fun q e => TW cy K (some s0) a κ τ q e ∨ oW ob (K 0 0) (Lt 0 0) q e)) hP.1 hS hA (fun _ _ h => any_in (i := 0) rfl h)
    refine va_calli (va_runV (As := [.int (nI i), .int 0]) (rest := [.int (a 3 i 0)]) ⟨hx, hb, hml, hown, hts⟩ (c_count l dC dI cy K ((some s0)) a κ τ ob ((Lt 0 0)) M (nI i) 0 H.size hT hw hno (by decide)) (tp_cwV 2 hts tw_446 tw_447 tw_448 tw_20 tw_449 rfl rfl (by decide +kernel) ⟨Nat.le_of_ble_eq_true rfl, Nat.le_of_ble_eq_true rfl⟩) ⟨m_blind, va_recv hK (hP.one (e := .inr (8, [.ref (K 0 0), .ref (Lt 0 0)])) 0 rfl (Or.inr oW_mem)) (ci := 8) (q0 := 0) rfl rfl, fun U hU hW => ⟨rfl, m_pay hK hP.1 hE (fun _ _ h => any_in (i := 0) rfl h) U hU hW⟩⟩ rfl rfl hl.1 rfl (lv_room (Nat.le_of_ble_eq_true rfl)) dL_law_412 ⟨(by show cells + 0 + 0 + 0 ≤ 600074; omega), (by show slots + 0 + 0 + 0 ≤ 7301550; omega)⟩) hS (fun q _ h => hFc q h) hFc (fun r_10 u t H1 locs ht hvm hpo hB hz1 hk1 hS => ?_)
    obtain rfl := hpo
    obtain ⟨f_11, hP1⟩ := hB
    subst f_11
    rw [ht] at hP1
    have hP : ms (dC, dI) vwCl A [(fun q e => TW cy K (some s0) a κ τ q e ∨ oW ob (K 0 0) (Lt 0 0) q e), cel gp (gO ob bs qf d nd nl nf), rwW cy 24 5 (qf 0) lr lv nl, rwW cy 10 6 (qf 9) fr9 fv nf, (TW cy Lt none b κt τt)] H1 := hP.call 0 rfl hk1 hFc hP1
    clear hP1 hk1 hFc
    generalize H1 = H at hP hS ⊢
    refine W.eq (g2 := F0 m 415 ls [.int (a 2 i (9 + 0)), .int (a 3 i 0)]) (by rw [nI_clamp (by omega)]) ?_
    refine lv_aload_n hx hb dL_law_415 rfl (lv_at hl 6 rfl) ?_
    refine lv_iload hx hb dL_law_416 (lv_at hl 0 rfl) ?_
    refine lv_iconst (v := 1) hx hb dL_law_418 (by decide) ?_
    have hFc := m_free (C := (fun q e => TW cy K (some s0) a κ τ q e ∨ oW ob (K 0 0) (Lt 0 0) q e)) hP.1 hS hA (fun _ _ h => any_in (i := 0) rfl h)
    refine va_calli (va_runV (As := [.int (nI i), .int 1]) (rest := [.int (a 2 i (9 + 0)), .int (a 3 i 0)]) ⟨hx, hb, hml, hown, hts⟩ (c_count l dC dI cy K ((some s0)) a κ τ ob ((Lt 0 0)) M (nI i) 1 H.size hT hw hno (by decide)) (tp_cwV 2 hts tw_446 tw_447 tw_448 tw_20 tw_449 rfl rfl (by decide +kernel) ⟨Nat.le_of_ble_eq_true rfl, Nat.le_of_ble_eq_true rfl⟩) ⟨m_blind, va_recv hK (hP.one (e := .inr (8, [.ref (K 0 0), .ref (Lt 0 0)])) 0 rfl (Or.inr oW_mem)) (ci := 8) (q0 := 0) rfl rfl, fun U hU hW => ⟨rfl, m_pay hK hP.1 hE (fun _ _ h => any_in (i := 0) rfl h) U hU hW⟩⟩ rfl rfl hl.1 rfl (lv_room (Nat.le_of_ble_eq_true rfl)) dL_law_419 ⟨(by show cells + 0 + 0 + 0 + 0 ≤ 600074; omega), (by show slots + 0 + 0 + 0 + 0 ≤ 7301550; omega)⟩) hS (fun q _ h => hFc q h) hFc (fun r_12 u t H1 locs ht hvm hpo hB hz1 hk1 hS => ?_)
    obtain rfl := hpo
    obtain ⟨f_13, hP1⟩ := hB
    subst f_13
    rw [ht] at hP1
    have hP : ms (dC, dI) vwCl A [(fun q e => TW cy K (some s0) a κ τ q e ∨ oW ob (K 0 0) (Lt 0 0) q e), cel gp (gO ob bs qf d nd nl nf), rwW cy 24 5 (qf 0) lr lv nl, rwW cy 10 6 (qf 9) fr9 fv nf, (TW cy Lt none b κt τt)] H1 := hP.call 0 rfl hk1 hFc hP1
    clear hP1 hk1 hFc
    generalize H1 = H at hP hS ⊢
    refine W.eq (g2 := F0 m 422 ls [.int (a 2 i (9 + 1)), .int (a 2 i (9 + 0)), .int (a 3 i 0)]) (by rw [nI_clamp (by omega)]) ?_
    refine lv_isub hx hb dL_law_422 ?_
    refine lv_icmp_ne (tgt := 459) hx hb dL_law_423 (by decide) (fun c_14 => absurd e2 c_14) (fun _ => ?_)
    refine lv_aload_n hx hb dL_law_426 rfl (lv_at hl 6 rfl) ?_
    refine lv_iload hx hb dL_law_427 (lv_at hl 0 rfl) ?_
    have hFc := m_free (C := (fun q e => TW cy K (some s0) a κ τ q e ∨ oW ob (K 0 0) (Lt 0 0) q e)) hP.1 hS hA (fun _ _ h => any_in (i := 0) rfl h)
    refine va_calli (va_runV (As := [.int (nI i)]) (rest := []) ⟨hx, hb, hml, hown, hts⟩ (c_queue l dC dI cy K ((some s0)) a κ τ ob ((Lt 0 0)) M (nI i) H.size hT hw hno) (tp_cwV 1 hts tw_441 tw_442 tw_443 tw_20 tw_444 rfl rfl (by decide +kernel) ⟨Nat.le_of_ble_eq_true rfl, Nat.le_of_ble_eq_true rfl⟩) ⟨m_blind, va_recv hK (hP.one (e := .inr (8, [.ref (K 0 0), .ref (Lt 0 0)])) 0 rfl (Or.inr oW_mem)) (ci := 8) (q0 := 0) rfl rfl, fun U hU hW => ⟨rfl, m_pay hK hP.1 hE (fun _ _ h => any_in (i := 0) rfl h) U hU hW⟩⟩ rfl rfl hl.1 rfl (lv_room (Nat.le_of_ble_eq_true rfl)) dL_law_429 ⟨(by show cells + 0 + 0 + 0 + 0 + 0 ≤ 600074; omega), (by show slots + 0 + 0 + 0 + 0 + 0 ≤ 7301550; omega)⟩) hS (fun q _ h => hFc q h) hFc (fun r_15 u t H1 locs ht hvm hpo hB hz1 hk1 hS => ?_)
    obtain rfl := hpo
    obtain ⟨f_16, hP1⟩ := hB
    subst f_16
    rw [ht] at hP1
    have hP : ms (dC, dI) vwCl A [(fun q e => TW cy K (some s0) a κ τ q e ∨ oW ob (K 0 0) (Lt 0 0) q e), cel gp (gO ob bs qf d nd nl nf), rwW cy 24 5 (qf 0) lr lv nl, rwW cy 10 6 (qf 9) fr9 fv nf, (TW cy Lt none b κt τt)] H1 := hP.call 0 rfl hk1 hFc hP1
    clear hP1 hk1 hFc
    generalize H1 = H at hP hS ⊢
    refine W.eq (g2 := F0 m 432 ls [.int (L_q a i (a 0 0 0))]) (by rw [nI_clamp (by omega)]) ?_
    refine lv_aload_n hx hb dL_law_432 rfl (lv_at hl 6 rfl) ?_
    refine lv_iload hx hb dL_law_433 (lv_at hl 0 rfl) ?_
    have hFc := m_free (C := (fun q e => TW cy K (some s0) a κ τ q e ∨ oW ob (K 0 0) (Lt 0 0) q e)) hP.1 hS hA (fun _ _ h => any_in (i := 0) rfl h)
    refine va_calli (va_runV (As := [.int (nI i)]) (rest := [.int (L_q a i (a 0 0 0))]) ⟨hx, hb, hml, hown, hts⟩ (c_onLink l dC dI cy K ((some s0)) a κ τ ob ((Lt 0 0)) M (nI i) H.size hT hw hno) (tp_cwV 1 hts tw_431 tw_432 tw_433 tw_20 tw_434 rfl rfl (by decide +kernel) ⟨Nat.le_of_ble_eq_true rfl, Nat.le_of_ble_eq_true rfl⟩) ⟨m_blind, va_recv hK (hP.one (e := .inr (8, [.ref (K 0 0), .ref (Lt 0 0)])) 0 rfl (Or.inr oW_mem)) (ci := 8) (q0 := 0) rfl rfl, fun U hU hW => ⟨rfl, m_pay hK hP.1 hE (fun _ _ h => any_in (i := 0) rfl h) U hU hW⟩⟩ rfl rfl hl.1 rfl (lv_room (Nat.le_of_ble_eq_true rfl)) dL_law_435 ⟨(by show cells + 0 + 0 + 0 + 0 + 0 + 0 ≤ 600074; omega), (by show slots + 0 + 0 + 0 + 0 + 0 + 0 ≤ 7301550; omega)⟩) hS (fun q _ h => hFc q h) hFc (fun r_17 u t H1 locs ht hvm hpo hB hz1 hk1 hS => ?_)
    obtain rfl := hpo
    obtain ⟨f_18, hP1⟩ := hB
    subst f_18
    rw [ht] at hP1
    have hP : ms (dC, dI) vwCl A [(fun q e => TW cy K (some s0) a κ τ q e ∨ oW ob (K 0 0) (Lt 0 0) q e), cel gp (gO ob bs qf d nd nl nf), rwW cy 24 5 (qf 0) lr lv nl, rwW cy 10 6 (qf 9) fr9 fv nf, (TW cy Lt none b κt τt)] H1 := hP.call 0 rfl hk1 hFc hP1
    clear hP1 hk1 hFc
    generalize H1 = H at hP hS ⊢
    refine W.eq (g2 := F0 m 438 ls [.int (a 3 i 0), .int (L_q a i (a 0 0 0))]) (by rw [nI_clamp (by omega)]) ?_
    refine lv_icmp_gt (tgt := 459) hx hb dL_law_438 (by decide) (fun c_19 => absurd c_19 (Int32.not_lt.mpr e3)) (fun _ => ?_)
    refine lv_aload_n hx hb dL_law_441 rfl (lv_at hl 6 rfl) ?_
    refine lv_iload hx hb dL_law_442 (lv_at hl 0 rfl) ?_
    have hFc := m_free (C := (fun q e => TW cy K (some s0) a κ τ q e ∨ oW ob (K 0 0) (Lt 0 0) q e)) hP.1 hS hA (fun _ _ h => any_in (i := 0) rfl h)
    refine va_calli (va_runV (As := [.int (nI i)]) (rest := []) ⟨hx, hb, hml, hown, hts⟩ (c_costOf l dC dI cy K ((some s0)) a κ τ ob ((Lt 0 0)) M (nI i) H.size hT hw hno) (tp_cwV 1 hts tw_375 tw_376 tw_377 tw_20 tw_378 rfl rfl (by decide +kernel) ⟨Nat.le_of_ble_eq_true rfl, Nat.le_of_ble_eq_true rfl⟩) ⟨m_blind, va_recv hK (hP.one (e := .inr (8, [.ref (K 0 0), .ref (Lt 0 0)])) 0 rfl (Or.inr oW_mem)) (ci := 8) (q0 := 0) rfl rfl, fun U hU hW => ⟨rfl, m_pay hK hP.1 hE (fun _ _ h => any_in (i := 0) rfl h) U hU hW⟩⟩ rfl rfl hl.1 rfl (lv_room (Nat.le_of_ble_eq_true rfl)) dL_law_444 ⟨(by show cells + 0 + 0 + 0 + 0 + 0 + 0 + 0 ≤ 600074; omega), (by show slots + 0 + 0 + 0 + 0 + 0 + 0 + 0 ≤ 7301550; omega)⟩) hS (fun q _ h => hFc q h) hFc (fun r_20 u t H1 locs ht hvm hpo hB hz1 hk1 hS => ?_)
    obtain rfl := hpo
    obtain ⟨f_21, hP1⟩ := hB
    subst f_21
    rw [ht] at hP1
    have hP : ms (dC, dI) vwCl A [(fun q e => TW cy K (some s0) a κ τ q e ∨ oW ob (K 0 0) (Lt 0 0) q e), cel gp (gO ob bs qf d nd nl nf), rwW cy 24 5 (qf 0) lr lv nl, rwW cy 10 6 (qf 9) fr9 fv nf, (TW cy Lt none b κt τt)] H1 := hP.call 0 rfl hk1 hFc hP1
    clear hP1 hk1 hFc
    generalize H1 = H at hP hS ⊢
    refine W.eq (g2 := F0 m 447 ls [.int (a 2 i 8)]) (by rw [nI_clamp (by omega)]) ?_
    refine lv_aload_n hx hb dL_law_447 rfl (lv_at hl 5 rfl) ?_
    refine va_get (D := (dC, dI)) (ws := [(gp, .inr (9, [.ref ob, .ref bs, .int (nI d), .int (nI nd), .int 0, .int 1, .int (nI nl), .ref (qf 0), .ref (qf 1), .ref (qf 2), .ref (qf 3), .ref (qf 4), .ref (qf 5), .ref (qf 6), .ref (qf 7), .ref (qf 8), .int (nI nf), .ref (qf 9), .int 0, .ref (qf 10), .ref (qf 11), .ref (qf 12), .ref (qf 13), .ref (qf 14), .ref (qf 15)]))]) (ci := 9) (v := .ref (qf 0)) (C := RX9) (T := TX9) (N := 25) hx hb hts tl_X9 hown hK (hP.one 1 rfl cel_in) 0 rfl rfl 7 (by decide) (hts _ tw_944) (fun _ h9 => h9) rfl dL_law_448 ?_
    refine lv_iload hx hb dL_law_451 (lv_at hl 0 rfl) ?_
    have j_22 : (nI i : Int32).toNatClampNeg = i := m_cl (n := 24) rfl (by omega) (by decide)
    refine m_aldA hx hb hK (ws := [(qf 0, arQ (cy 8) 24 (fun j => if j < nl then some (lr j) else none))]) (hP.one 2 rfl (Or.inl ⟨rfl, rfl⟩)) 0 8 rfl rfl (m_in (n := 24) rfl (by omega) (by decide)) dL_law_453 ?_
    refine W.eq (g2 := F0 m 454 ls [.ref (lr i), .int (a 2 i 8)]) (by rw [j_22, if_pos hi]; rfl) ?_
    refine lv_iconst (v := 2) hx hb dL_law_454 (by decide) ?_
    have j_23 : (2 : Int32).toNatClampNeg = 2 := m_cl (n := 5) rfl (by decide) (by decide)
    refine va_iald hx hb hK (ws := [(lr i, .inl (cy 0, 5, .inl (lv i)))]) (hP.one 2 rfl (Or.inr ⟨i, hi, rfl, rfl⟩)) 0 0 rfl rfl (m_in (n := 5) rfl (by decide) (by decide)) dL_law_455 ?_
    refine W.eq (g2 := F0 m 456 ls [.int (lv i 2), .int (a 2 i 8)]) (by rw [j_23]) ?_
    refine lv_icmp_ge (tgt := 461) hx hb dL_law_456 (by decide) (fun _ => ?_) (fun c_24 => absurd e4 c_24)
    refine lv_iconst (v := -1) hx hb dL_law_461 (by decide) ?_
    refine lv_istore (lv' := [(17, .int ((-1))), (16, .int (nI i)), (14, .int (sumI (fun k => a 3 k 0) i)), (15, .int 0), (0, .ref bs), (1, .int tm), (2, .ref gp), (3, .ref ob), (4, .int sp9), (7, .int tk9), (10, .int em9)]) hx hb dL_law_462 hl (by decide) rfl (fun ls hl => ?_)
    refine lv_iconst (v := 0) hx hb dL_law_464 (by decide) ?_
    refine lv_istore (lv' := [(18, .int 0), (17, .int ((-1))), (16, .int (nI i)), (14, .int (sumI (fun k => a 3 k 0) i)), (15, .int 0), (0, .ref bs), (1, .int tm), (2, .ref gp), (3, .ref ob), (4, .int sp9), (7, .int tk9), (10, .int em9)]) hx hb dL_law_465 hl (by decide) rfl (fun ls hl => ?_)
    obtain ⟨Nn, hNn, eN⟩ : ∃ y : Nat, y ≤ 30 ∧ a 3 i 0 = nI y := ⟨_, in_le (hw.2.1 i h24).2.2.2.2.1, m_n0 (hw.2.1 i h24).2.2.2.2.1.1⟩
    refine tp_for (σ := Unit) Nn (fun _ => cells + 0 + 0 + 0 + 0 + 0 + 0 + 0) (fun _ => slots + 0 + 0 + 0 + 0 + 0 + 0 + 0) (fun (j : Nat) (_ : Unit) (H : Heap) (locs : List Loc) (ls : Array Slot) => ms (dC, dI) vwCl A [(fun q e => TW cy K (some s0) a κ τ q e ∨ oW ob (K 0 0) (Lt 0 0) q e), cel gp (gO ob bs qf d nd nl nf), rwW cy 24 5 (qf 0) lr lv nl, rwW cy 10 6 (qf 9) fr9 fv nf, (TW cy Lt none b κt τt)] H ∧ va_S A s.heap H locs ∧ lv_has ls 24 [(18, .int (nI j)), (17, .int (pE a i j)), (16, .int (nI i)), (14, .int (sumI (fun k => a 3 k 0) i)), (15, .int 0), (0, .ref bs), (1, .int tm), (2, .ref gp), (3, .ref ob), (4, .int sp9), (7, .int tk9), (10, .int em9)]) ?_ ?_ Nn 0 (Nat.zero_add _) () _ _ ls ⟨hP, hS, lv_sub hl [0, 1, 2, 3, 4, 5, 6, 7, 8, 9, 10, 11] rfl⟩
    · rintro _ H locs ls ⟨hP, hS, hl⟩
      have hl : lv_has ls 24 [(18, .int (nI Nn)), (17, .int (pE a i Nn)), (16, .int (nI i)), (14, .int (sumI (fun k => a 3 k 0) i)), (15, .int 0), (0, .ref bs), (1, .int tm), (2, .ref gp), (3, .ref ob), (4, .int sp9), (7, .int tk9), (10, .int em9)] := hl
      show W _ _ _ _ _ _ _ _ _ _ _ _ (cells + 0 + 0 + 0 + 0 + 0 + 0 + 0) (slots + 0 + 0 + 0 + 0 + 0 + 0 + 0) _ _
      refine lv_iload hx hb dL_law_467 (lv_at hl 0 rfl) ?_
      refine lv_aload_n hx hb dL_law_469 rfl (lv_at hl 8 rfl) ?_
      refine lv_iload hx hb dL_law_470 (lv_at hl 2 rfl) ?_
      have hFc := m_free (C := (fun q e => TW cy K (some s0) a κ τ q e ∨ oW ob (K 0 0) (Lt 0 0) q e)) hP.1 hS hA (fun _ _ h => any_in (i := 0) rfl h)
      refine va_calli (va_runV (As := [.int (nI i)]) (rest := [.int (nI Nn)]) ⟨hx, hb, hml, hown, hts⟩ (c_onLink l dC dI cy K ((some s0)) a κ τ ob ((Lt 0 0)) M (nI i) H.size hT hw hno) (tp_cwV 1 hts tw_431 tw_432 tw_433 tw_20 tw_434 rfl rfl (by decide +kernel) ⟨Nat.le_of_ble_eq_true rfl, Nat.le_of_ble_eq_true rfl⟩) ⟨m_blind, va_recv hK (hP.one (e := .inr (8, [.ref (K 0 0), .ref (Lt 0 0)])) 0 rfl (Or.inr oW_mem)) (ci := 8) (q0 := 0) rfl rfl, fun U hU hW => ⟨rfl, m_pay hK hP.1 hE (fun _ _ h => any_in (i := 0) rfl h) U hU hW⟩⟩ rfl rfl hl.1 rfl (lv_room (Nat.le_of_ble_eq_true rfl)) dL_law_472 ⟨(by show cells + 0 + 0 + 0 + 0 + 0 + 0 + 0 + 0 ≤ 600074; omega), (by show slots + 0 + 0 + 0 + 0 + 0 + 0 + 0 + 0 ≤ 7301550; omega)⟩) hS (fun q _ h => hFc q h) hFc (fun r_25 u t H1 locs ht hvm hpo hB hz1 hk1 hS => ?_)
      obtain rfl := hpo
      obtain ⟨f_26, hP1⟩ := hB
      subst f_26
      rw [ht] at hP1
      have hP : ms (dC, dI) vwCl A [(fun q e => TW cy K (some s0) a κ τ q e ∨ oW ob (K 0 0) (Lt 0 0) q e), cel gp (gO ob bs qf d nd nl nf), rwW cy 24 5 (qf 0) lr lv nl, rwW cy 10 6 (qf 9) fr9 fv nf, (TW cy Lt none b κt τt)] H1 := hP.call 0 rfl hk1 hFc hP1
      clear hP1 hk1 hFc
      generalize H1 = H at hP hS ⊢
      refine W.eq (g2 := F0 m 475 ls [.int (a 3 i 0), .int (nI Nn)]) (by rw [nI_clamp (by omega)]) ?_
      refine W.eq (g2 := F0 m 475 ls [.int (nI Nn), .int (nI Nn)]) (by rw [eN]) ?_
      refine lv_icmp_ge (tgt := 536) hx hb dL_law_475 (by decide) (fun _ => ?_) (fun c_27 => absurd (Int32.le_refl _) c_27)
      refine lv_iload hx hb dL_law_536 (lv_at hl 3 rfl) ?_
      refine lv_aload_n hx hb dL_law_538 rfl (lv_at hl 8 rfl) ?_
      refine lv_iload hx hb dL_law_539 (lv_at hl 2 rfl) ?_
      have hFc := m_free (C := (fun q e => TW cy K (some s0) a κ τ q e ∨ oW ob (K 0 0) (Lt 0 0) q e)) hP.1 hS hA (fun _ _ h => any_in (i := 0) rfl h)
      refine va_calli (va_runV (As := [.int (nI i)]) (rest := [.int (sumI (fun k => a 3 k 0) i)]) ⟨hx, hb, hml, hown, hts⟩ (c_onLink l dC dI cy K ((some s0)) a κ τ ob ((Lt 0 0)) M (nI i) H.size hT hw hno) (tp_cwV 1 hts tw_431 tw_432 tw_433 tw_20 tw_434 rfl rfl (by decide +kernel) ⟨Nat.le_of_ble_eq_true rfl, Nat.le_of_ble_eq_true rfl⟩) ⟨m_blind, va_recv hK (hP.one (e := .inr (8, [.ref (K 0 0), .ref (Lt 0 0)])) 0 rfl (Or.inr oW_mem)) (ci := 8) (q0 := 0) rfl rfl, fun U hU hW => ⟨rfl, m_pay hK hP.1 hE (fun _ _ h => any_in (i := 0) rfl h) U hU hW⟩⟩ rfl rfl hl.1 rfl (lv_room (Nat.le_of_ble_eq_true rfl)) dL_law_541 ⟨(by show cells + 0 + 0 + 0 + 0 + 0 + 0 + 0 + 0 + 0 ≤ 600074; omega), (by show slots + 0 + 0 + 0 + 0 + 0 + 0 + 0 + 0 + 0 ≤ 7301550; omega)⟩) hS (fun q _ h => hFc q h) hFc (fun r_28 u t H1 locs ht hvm hpo hB hz1 hk1 hS => ?_)
      obtain rfl := hpo
      obtain ⟨f_29, hP1⟩ := hB
      subst f_29
      rw [ht] at hP1
      have hP : ms (dC, dI) vwCl A [(fun q e => TW cy K (some s0) a κ τ q e ∨ oW ob (K 0 0) (Lt 0 0) q e), cel gp (gO ob bs qf d nd nl nf), rwW cy 24 5 (qf 0) lr lv nl, rwW cy 10 6 (qf 9) fr9 fv nf, (TW cy Lt none b κt τt)] H1 := hP.call 0 rfl hk1 hFc hP1
      clear hP1 hk1 hFc
      generalize H1 = H at hP hS ⊢
      refine W.eq (g2 := F0 m 544 ls [.int (a 3 i 0), .int (sumI (fun k => a 3 k 0) i)]) (by rw [nI_clamp (by omega)]) ?_
      refine lv_iadd hx hb dL_law_544 ?_
      refine lv_istore (lv' := [(14, .int ((sumI (fun k => a 3 k 0) i) + (a 3 i 0))), (18, .int (nI Nn)), (17, .int (pE a i Nn)), (16, .int (nI i)), (15, .int 0), (0, .ref bs), (1, .int tm), (2, .ref gp), (3, .ref ob), (4, .int sp9), (7, .int tk9), (10, .int em9)]) hx hb dL_law_545 hl (by decide) rfl (fun ls hl => ?_)
      refine lv_iinc (v := nI (i + 1)) (lv' := [(16, .int (nI (i + 1))), (14, .int ((sumI (fun k => a 3 k 0) i) + (a 3 i 0))), (18, .int (nI Nn)), (17, .int (pE a i Nn)), (15, .int 0), (0, .ref bs), (1, .int tm), (2, .ref gp), (3, .ref ob), (4, .int sp9), (7, .int tk9), (10, .int em9)]) hx hb dL_law_547 hl (k := 3) rfl (nI_1 i) (by decide) rfl (fun ls hl => ?_)
      refine lv_goto (tgt := 375) hx hb dL_law_550 (by decide) ?_
      exact ihi () _ _ ls ⟨hP, hS, lv_sub hl [0, 1, 4, 5, 6, 7, 8, 9, 10, 11] rfl⟩
    · rintro j _ H locs ls hj ⟨hP, hS, hl⟩ ihj
      have hl : lv_has ls 24 [(18, .int (nI j)), (17, .int (pE a i j)), (16, .int (nI i)), (14, .int (sumI (fun k => a 3 k 0) i)), (15, .int 0), (0, .ref bs), (1, .int tm), (2, .ref gp), (3, .ref ob), (4, .int sp9), (7, .int tk9), (10, .int em9)] := hl
      show W _ _ _ _ _ _ _ _ _ _ _ _ (cells + 0 + 0 + 0 + 0 + 0 + 0 + 0) (slots + 0 + 0 + 0 + 0 + 0 + 0 + 0) _ _
      obtain ⟨v, hv, v1, v2, v3, v4⟩ := hR5 i hi j (by rw [eN, nI_clamp (by omega)]; exact hj)
      have hnv : ¬ T_no a (nI v) := nI_vno hw hv
      have hv2 : v < 200 := Nat.lt_of_lt_of_le hv (in_le hw.1.2.2.2)
      refine lv_iload hx hb dL_law_467 (lv_at hl 0 rfl) ?_
      refine lv_aload_n hx hb dL_law_469 rfl (lv_at hl 8 rfl) ?_
      refine lv_iload hx hb dL_law_470 (lv_at hl 2 rfl) ?_
      have hFc := m_free (C := (fun q e => TW cy K (some s0) a κ τ q e ∨ oW ob (K 0 0) (Lt 0 0) q e)) hP.1 hS hA (fun _ _ h => any_in (i := 0) rfl h)
      refine va_calli (va_runV (As := [.int (nI i)]) (rest := [.int (nI j)]) ⟨hx, hb, hml, hown, hts⟩ (c_onLink l dC dI cy K ((some s0)) a κ τ ob ((Lt 0 0)) M (nI i) H.size hT hw hno) (tp_cwV 1 hts tw_431 tw_432 tw_433 tw_20 tw_434 rfl rfl (by decide +kernel) ⟨Nat.le_of_ble_eq_true rfl, Nat.le_of_ble_eq_true rfl⟩) ⟨m_blind, va_recv hK (hP.one (e := .inr (8, [.ref (K 0 0), .ref (Lt 0 0)])) 0 rfl (Or.inr oW_mem)) (ci := 8) (q0 := 0) rfl rfl, fun U hU hW => ⟨rfl, m_pay hK hP.1 hE (fun _ _ h => any_in (i := 0) rfl h) U hU hW⟩⟩ rfl rfl hl.1 rfl (lv_room (Nat.le_of_ble_eq_true rfl)) dL_law_472 ⟨(by show cells + 0 + 0 + 0 + 0 + 0 + 0 + 0 + 0 ≤ 600074; omega), (by show slots + 0 + 0 + 0 + 0 + 0 + 0 + 0 + 0 ≤ 7301550; omega)⟩) hS (fun q _ h => hFc q h) hFc (fun r_30 u t H1 locs ht hvm hpo hB hz1 hk1 hS => ?_)
      obtain rfl := hpo
      obtain ⟨f_31, hP1⟩ := hB
      subst f_31
      rw [ht] at hP1
      have hP : ms (dC, dI) vwCl A [(fun q e => TW cy K (some s0) a κ τ q e ∨ oW ob (K 0 0) (Lt 0 0) q e), cel gp (gO ob bs qf d nd nl nf), rwW cy 24 5 (qf 0) lr lv nl, rwW cy 10 6 (qf 9) fr9 fv nf, (TW cy Lt none b κt τt)] H1 := hP.call 0 rfl hk1 hFc hP1
      clear hP1 hk1 hFc
      generalize H1 = H at hP hS ⊢
      refine W.eq (g2 := F0 m 475 ls [.int (a 3 i 0), .int (nI j)]) (by rw [nI_clamp (by omega)]) ?_
      refine W.eq (g2 := F0 m 475 ls [.int (nI Nn), .int (nI j)]) (by rw [eN]) ?_
      refine lv_icmp_ge (tgt := 536) hx hb dL_law_475 (by decide) (fun c_32 => absurd c_32 (nI_ge hj (by omega))) (fun _ => ?_)
      refine lv_aload_n hx hb dL_law_478 rfl (lv_at hl 8 rfl) ?_
      refine lv_iload hx hb dL_law_479 (lv_at hl 2 rfl) ?_
      refine lv_iload hx hb dL_law_481 (lv_at hl 0 rfl) ?_
      have hFc := m_free (C := (fun q e => TW cy K (some s0) a κ τ q e ∨ oW ob (K 0 0) (Lt 0 0) q e)) hP.1 hS hA (fun _ _ h => any_in (i := 0) rfl h)
      refine va_calli (va_runV (As := [.int (nI i), .int (nI j)]) (rest := []) ⟨hx, hb, hml, hown, hts⟩ (c_vehicleAt l dC dI cy K ((some s0)) a κ τ ob ((Lt 0 0)) M (nI i) (nI j) H.size hT hw hno (nI_nneg (by omega)) (by rw [nI_clamp (by omega), eN]; exact nI_lt hj (by omega))) (tp_cwV 2 hts tw_435 tw_436 tw_437 tw_20 tw_438 rfl rfl (by decide +kernel) ⟨Nat.le_of_ble_eq_true rfl, Nat.le_of_ble_eq_true rfl⟩) ⟨m_blind, va_recv hK (hP.one (e := .inr (8, [.ref (K 0 0), .ref (Lt 0 0)])) 0 rfl (Or.inr oW_mem)) (ci := 8) (q0 := 0) rfl rfl, fun U hU hW => ⟨rfl, m_pay hK hP.1 hE (fun _ _ h => any_in (i := 0) rfl h) U hU hW⟩⟩ rfl rfl hl.1 rfl (lv_room (Nat.le_of_ble_eq_true rfl)) dL_law_483 ⟨(by show cells + 0 + 0 + 0 + 0 + 0 + 0 + 0 + 0 + 0 ≤ 600074; omega), (by show slots + 0 + 0 + 0 + 0 + 0 + 0 + 0 + 0 + 0 ≤ 7301550; omega)⟩) hS (fun q _ h => hFc q h) hFc (fun r_33 u t H1 locs ht hvm hpo hB hz1 hk1 hS => ?_)
      obtain rfl := hpo
      obtain ⟨f_34, hP1⟩ := hB
      subst f_34
      rw [ht] at hP1
      have hP : ms (dC, dI) vwCl A [(fun q e => TW cy K (some s0) a κ τ q e ∨ oW ob (K 0 0) (Lt 0 0) q e), cel gp (gO ob bs qf d nd nl nf), rwW cy 24 5 (qf 0) lr lv nl, rwW cy 10 6 (qf 9) fr9 fv nf, (TW cy Lt none b κt τt)] H1 := hP.call 0 rfl hk1 hFc hP1
      clear hP1 hk1 hFc
      generalize H1 = H at hP hS ⊢
      refine W.eq (g2 := F0 m 486 ls [.int (nI v)]) (by rw [nI_clamp (n := i) (by omega), rget (nI_nneg (by omega)) (by rw [eN]; exact nI_ge hj (by omega)), nI_clamp (n := j) (by omega), v1]) ?_
      refine lv_istore (lv' := [(19, .int (nI v)), (18, .int (nI j)), (17, .int (pE a i j)), (16, .int (nI i)), (14, .int (sumI (fun k => a 3 k 0) i)), (15, .int 0), (0, .ref bs), (1, .int tm), (2, .ref gp), (3, .ref ob), (4, .int sp9), (7, .int tk9), (10, .int em9)]) hx hb dL_law_486 hl (by decide) rfl (fun ls hl => ?_)
      refine lv_aload_n hx hb dL_law_488 rfl (lv_at hl 9 rfl) ?_
      refine lv_iload hx hb dL_law_489 (lv_at hl 0 rfl) ?_
      have hFc := m_free (C := (fun q e => TW cy K (some s0) a κ τ q e ∨ oW ob (K 0 0) (Lt 0 0) q e)) hP.1 hS hA (fun _ _ h => any_in (i := 0) rfl h)
      refine va_calli (va_runV (As := [.int (nI v)]) (rest := []) ⟨hx, hb, hml, hown, hts⟩ (c_linkOf l dC dI cy K ((some s0)) a κ τ ob ((Lt 0 0)) M (nI v) H.size hT hw hnv) (tp_cwV 1 hts tw_393 tw_394 tw_395 tw_20 tw_396 rfl rfl (by decide +kernel) ⟨Nat.le_of_ble_eq_true rfl, Nat.le_of_ble_eq_true rfl⟩) ⟨m_blind, va_recv hK (hP.one (e := .inr (8, [.ref (K 0 0), .ref (Lt 0 0)])) 0 rfl (Or.inr oW_mem)) (ci := 8) (q0 := 0) rfl rfl, fun U hU hW => ⟨rfl, m_pay hK hP.1 hE (fun _ _ h => any_in (i := 0) rfl h) U hU hW⟩⟩ rfl rfl hl.1 rfl (lv_room (Nat.le_of_ble_eq_true rfl)) dL_law_491 ⟨(by show cells + 0 + 0 + 0 + 0 + 0 + 0 + 0 + 0 + 0 + 0 ≤ 600074; omega), (by show slots + 0 + 0 + 0 + 0 + 0 + 0 + 0 + 0 + 0 + 0 ≤ 7301550; omega)⟩) hS (fun q _ h => hFc q h) hFc (fun r_35 u t H1 locs ht hvm hpo hB hz1 hk1 hS => ?_)
      obtain rfl := hpo
      obtain ⟨f_36, hP1⟩ := hB
      subst f_36
      rw [ht] at hP1
      have hP : ms (dC, dI) vwCl A [(fun q e => TW cy K (some s0) a κ τ q e ∨ oW ob (K 0 0) (Lt 0 0) q e), cel gp (gO ob bs qf d nd nl nf), rwW cy 24 5 (qf 0) lr lv nl, rwW cy 10 6 (qf 9) fr9 fv nf, (TW cy Lt none b κt τt)] H1 := hP.call 0 rfl hk1 hFc hP1
      clear hP1 hk1 hFc
      generalize H1 = H at hP hS ⊢
      refine W.eq (g2 := F0 m 494 ls [.int (a 15 v 5)]) (by rw [nI_clamp (by omega)]) ?_
      refine lv_iload hx hb dL_law_494 (lv_at hl 3 rfl) ?_
      refine lv_icmp_ne (tgt := 520) hx hb dL_law_496 (by decide) (fun c_37 => absurd v2 c_37) (fun _ => ?_)
      refine lv_aload_n hx hb dL_law_499 rfl (lv_at hl 9 rfl) ?_
      refine lv_iload hx hb dL_law_500 (lv_at hl 0 rfl) ?_
      have hFc := m_free (C := (fun q e => TW cy K (some s0) a κ τ q e ∨ oW ob (K 0 0) (Lt 0 0) q e)) hP.1 hS hA (fun _ _ h => any_in (i := 0) rfl h)
      refine va_calli (va_runV (As := [.int (nI v)]) (rest := []) ⟨hx, hb, hml, hown, hts⟩ (c_stateOf l dC dI cy K ((some s0)) a κ τ ob ((Lt 0 0)) M (nI v) H.size hT hw hnv) (tp_cwV 1 hts tw_383 tw_384 tw_385 tw_20 tw_386 rfl rfl (by decide +kernel) ⟨Nat.le_of_ble_eq_true rfl, Nat.le_of_ble_eq_true rfl⟩) ⟨m_blind, va_recv hK (hP.one (e := .inr (8, [.ref (K 0 0), .ref (Lt 0 0)])) 0 rfl (Or.inr oW_mem)) (ci := 8) (q0 := 0) rfl rfl, fun U hU hW => ⟨rfl, m_pay hK hP.1 hE (fun _ _ h => any_in (i := 0) rfl h) U hU hW⟩⟩ rfl rfl hl.1 rfl (lv_room (Nat.le_of_ble_eq_true rfl)) dL_law_502 ⟨(by show cells + 0 + 0 + 0 + 0 + 0 + 0 + 0 + 0 + 0 + 0 + 0 ≤ 600074; omega), (by show slots + 0 + 0 + 0 + 0 + 0 + 0 + 0 + 0 + 0 + 0 + 0 ≤ 7301550; omega)⟩) hS (fun q _ h => hFc q h) hFc (fun r_38 u t H1 locs ht hvm hpo hB hz1 hk1 hS => ?_)
      obtain rfl := hpo
      obtain ⟨f_39, hP1⟩ := hB
      subst f_39
      rw [ht] at hP1
      have hP : ms (dC, dI) vwCl A [(fun q e => TW cy K (some s0) a κ τ q e ∨ oW ob (K 0 0) (Lt 0 0) q e), cel gp (gO ob bs qf d nd nl nf), rwW cy 24 5 (qf 0) lr lv nl, rwW cy 10 6 (qf 9) fr9 fv nf, (TW cy Lt none b κt τt)] H1 := hP.call 0 rfl hk1 hFc hP1
      clear hP1 hk1 hFc
      generalize H1 = H at hP hS ⊢
      refine W.eq (g2 := F0 m 505 ls [.int (a 15 v 3)]) (by rw [nI_clamp (by omega)]) ?_
      refine lv_iconst (v := 1) hx hb dL_law_505 (by decide) ?_
      refine lv_icmp_ne (tgt := 520) hx hb dL_law_506 (by decide) (fun c_40 => absurd v3 c_40) (fun _ => ?_)
      refine lv_aload_n hx hb dL_law_509 rfl (lv_at hl 9 rfl) ?_
      refine lv_iload hx hb dL_law_510 (lv_at hl 0 rfl) ?_
      have hFc := m_free (C := (fun q e => TW cy K (some s0) a κ τ q e ∨ oW ob (K 0 0) (Lt 0 0) q e)) hP.1 hS hA (fun _ _ h => any_in (i := 0) rfl h)
      refine va_calli (va_runV (As := [.int (nI v)]) (rest := []) ⟨hx, hb, hml, hown, hts⟩ (c_endOf l dC dI cy K ((some s0)) a κ τ ob ((Lt 0 0)) M (nI v) H.size hT hw hnv) (tp_cwV 1 hts tw_397 tw_398 tw_399 tw_20 tw_400 rfl rfl (by decide +kernel) ⟨Nat.le_of_ble_eq_true rfl, Nat.le_of_ble_eq_true rfl⟩) ⟨m_blind, va_recv hK (hP.one (e := .inr (8, [.ref (K 0 0), .ref (Lt 0 0)])) 0 rfl (Or.inr oW_mem)) (ci := 8) (q0 := 0) rfl rfl, fun U hU hW => ⟨rfl, m_pay hK hP.1 hE (fun _ _ h => any_in (i := 0) rfl h) U hU hW⟩⟩ rfl rfl hl.1 rfl (lv_room (Nat.le_of_ble_eq_true rfl)) dL_law_512 ⟨(by show cells + 0 + 0 + 0 + 0 + 0 + 0 + 0 + 0 + 0 + 0 + 0 + 0 ≤ 600074; omega), (by show slots + 0 + 0 + 0 + 0 + 0 + 0 + 0 + 0 + 0 + 0 + 0 + 0 ≤ 7301550; omega)⟩) hS (fun q _ h => hFc q h) hFc (fun r_41 u t H1 locs ht hvm hpo hB hz1 hk1 hS => ?_)
      obtain rfl := hpo
      obtain ⟨f_42, hP1⟩ := hB
      subst f_42
      rw [ht] at hP1
      have hP : ms (dC, dI) vwCl A [(fun q e => TW cy K (some s0) a κ τ q e ∨ oW ob (K 0 0) (Lt 0 0) q e), cel gp (gO ob bs qf d nd nl nf), rwW cy 24 5 (qf 0) lr lv nl, rwW cy 10 6 (qf 9) fr9 fv nf, (TW cy Lt none b κt τt)] H1 := hP.call 0 rfl hk1 hFc hP1
      clear hP1 hk1 hFc
      generalize H1 = H at hP hS ⊢
      refine W.eq (g2 := F0 m 515 ls [.int (a 15 v 6)]) (by rw [nI_clamp (by omega)]) ?_
      refine lv_iload hx hb dL_law_515 (lv_at hl 2 rfl) ?_
      refine lv_icmp_ge (tgt := 522) hx hb dL_law_517 (by decide) (fun _ => ?_) (fun c_43 => absurd v4 c_43)
      refine lv_aload_n hx hb dL_law_522 rfl (lv_at hl 9 rfl) ?_
      refine lv_iload hx hb dL_law_523 (lv_at hl 0 rfl) ?_
      have hFc := m_free (C := (fun q e => TW cy K (some s0) a κ τ q e ∨ oW ob (K 0 0) (Lt 0 0) q e)) hP.1 hS hA (fun _ _ h => any_in (i := 0) rfl h)
      refine va_calli (va_runV (As := [.int (nI v)]) (rest := []) ⟨hx, hb, hml, hown, hts⟩ (c_endOf l dC dI cy K ((some s0)) a κ τ ob ((Lt 0 0)) M (nI v) H.size hT hw hnv) (tp_cwV 1 hts tw_397 tw_398 tw_399 tw_20 tw_400 rfl rfl (by decide +kernel) ⟨Nat.le_of_ble_eq_true rfl, Nat.le_of_ble_eq_true rfl⟩) ⟨m_blind, va_recv hK (hP.one (e := .inr (8, [.ref (K 0 0), .ref (Lt 0 0)])) 0 rfl (Or.inr oW_mem)) (ci := 8) (q0 := 0) rfl rfl, fun U hU hW => ⟨rfl, m_pay hK hP.1 hE (fun _ _ h => any_in (i := 0) rfl h) U hU hW⟩⟩ rfl rfl hl.1 rfl (lv_room (Nat.le_of_ble_eq_true rfl)) dL_law_525 ⟨(by show cells + 0 + 0 + 0 + 0 + 0 + 0 + 0 + 0 + 0 + 0 + 0 + 0 + 0 ≤ 600074; omega), (by show slots + 0 + 0 + 0 + 0 + 0 + 0 + 0 + 0 + 0 + 0 + 0 + 0 + 0 ≤ 7301550; omega)⟩) hS (fun q _ h => hFc q h) hFc (fun r_44 u t H1 locs ht hvm hpo hB hz1 hk1 hS => ?_)
      obtain rfl := hpo
      obtain ⟨f_45, hP1⟩ := hB
      subst f_45
      rw [ht] at hP1
      have hP : ms (dC, dI) vwCl A [(fun q e => TW cy K (some s0) a κ τ q e ∨ oW ob (K 0 0) (Lt 0 0) q e), cel gp (gO ob bs qf d nd nl nf), rwW cy 24 5 (qf 0) lr lv nl, rwW cy 10 6 (qf 9) fr9 fv nf, (TW cy Lt none b κt τt)] H1 := hP.call 0 rfl hk1 hFc hP1
      clear hP1 hk1 hFc
      generalize H1 = H at hP hS ⊢
      refine W.eq (g2 := F0 m 528 ls [.int (a 15 v 6)]) (by rw [nI_clamp (by omega)]) ?_
      refine W.eq (g2 := F0 m 528 ls [.int (pE a i (j + 1))]) (by rw [pE_s v1 (by omega)]) ?_
      refine lv_istore (lv' := [(17, .int (pE a i (j + 1))), (19, .int (nI v)), (18, .int (nI j)), (16, .int (nI i)), (14, .int (sumI (fun k => a 3 k 0) i)), (15, .int 0), (0, .ref bs), (1, .int tm), (2, .ref gp), (3, .ref ob), (4, .int sp9), (7, .int tk9), (10, .int em9)]) hx hb dL_law_528 hl (by decide) rfl (fun ls hl => ?_)
      refine lv_iinc (v := nI (j + 1)) (lv' := [(18, .int (nI (j + 1))), (17, .int (pE a i (j + 1))), (19, .int (nI v)), (16, .int (nI i)), (14, .int (sumI (fun k => a 3 k 0) i)), (15, .int 0), (0, .ref bs), (1, .int tm), (2, .ref gp), (3, .ref ob), (4, .int sp9), (7, .int tk9), (10, .int em9)]) hx hb dL_law_530 hl (k := 2) rfl (nI_1 j) (by decide) rfl (fun ls hl => ?_)
      refine lv_goto (tgt := 467) hx hb dL_law_533 (by decide) ?_
      exact ihj () _ _ ls ⟨hP, hS, lv_sub hl [0, 1, 3, 4, 5, 6, 7, 8, 9, 10, 11, 12] rfl⟩
