theorem hrE_s {lv : Tb} {a : St} {v j k : Nat} (h : a 30 v j = nI k) (hk : k < 2 ^ 31) : hrE lv a v (j + 1) = lv k 1 := by
  unfold hrE
  rw [if_neg (by omega), Nat.add_sub_cancel, h, nI_clamp hk]
theorem lstE_s {lv : Tb} {a : St} {v j k : Nat} (h : a 30 v j = nI k) (hk : k < 2 ^ 31) : lstE lv a v (j + 1) = lstE lv a v j + lv k 2 := by
  show lstE lv a v j + lv (a 30 v j).toNatClampNeg 2 = _
  rw [h, nI_clamp hk]
theorem cnt_s {a : St} {yy : Nat → Int32} {st i : Nat} (h : ∀ q : Nat, q < 4 → yy q = cntI a (nI q) i) (hs : st < 4) (e : a 15 i 3 = nI st) : ∀ q : Nat, q < 4 → upd yy st (yy st + 1) q = cntI a (nI q) (i + 1) := by
  intro q hq
  show _ = cntI a (nI q) i + (if a 15 i 3 = nI q then 1 else 0)
  by_cases hqs : q = st
  · subst hqs
    rw [upd_eq, h q hq, if_pos e]
  · rw [upd_ne hqs, h q hq, e, if_neg (fun h9 => hqs ((nI_eq (by omega) (by omega)).mp h9).symm), Int32.add_zero]
theorem tw_379 : Cond.methodLink RL 60 yX8_vehicles ∈ tp_all := tp_mem 379 (by decide +kernel) rfl
theorem tw_401 : Cond.methodLink RL 105 yX8_linksOf ∈ tp_all := tp_mem 401 (by decide +kernel) rfl
theorem tw_414 : Cond.methodLink RL 111 yX8_tripOf ∈ tp_all := tp_mem 414 (by decide +kernel) rfl
theorem tw_418 : Cond.methodLink RL 114 yX8_delayOf ∈ tp_all := tp_mem 418 (by decide +kernel) rfl
theorem tw_408 : Cond.code yX8_linkAt cX8_linkAt 4 (some .int) ∈ tp_all := tp_mem 408 (by decide +kernel) rfl
theorem tw_405 : Cond.methodLink RL 108 yX8_linkAt ∈ tp_all := tp_mem 405 (by decide +kernel) rfl
theorem tw_406 : Cond.instanceMethod yX8_linkAt ∈ tp_all := tp_mem 406 (by decide +kernel) rfl
theorem tw_407 : Cond.selects RX8 yX8_linkAt yX8_linkAt ∈ tp_all := tp_mem 407 (by decide +kernel) rfl
theorem dL_law_582 : decode cL_law 582 = .ok (.iconst 4, 1) := by decide +kernel
theorem dL_law_583 : decode cL_law 583 = .ok (.newarray .int, 2) := by decide +kernel
theorem dL_law_585 : decode cL_law 585 = .ok (.astore 16, 2) := by decide +kernel
theorem dL_law_587 : decode cL_law 587 = .ok (.iconst 0, 1) := by decide +kernel
theorem dL_law_588 : decode cL_law 588 = .ok (.istore 17, 2) := by decide +kernel
theorem dL_law_590 : decode cL_law 590 = .ok (.iconst 0, 1) := by decide +kernel
theorem dL_law_591 : decode cL_law 591 = .ok (.istore 18, 2) := by decide +kernel
theorem dL_law_593 : decode cL_law 593 = .ok (.iconst 0, 1) := by decide +kernel
theorem dL_law_594 : decode cL_law 594 = .ok (.istore 19, 2) := by decide +kernel
theorem dL_law_596 : decode cL_law 596 = .ok (.iload 19, 2) := by decide +kernel
theorem dL_law_598 : decode cL_law 598 = .ok (.aload_n 3, 1) := by decide +kernel
theorem dL_law_599 : decode cL_law 599 = .ok (.invokevirtual 60, 3) := by decide +kernel
theorem dL_law_602 : decode cL_law 602 = .ok (.if_icmp .ge 135, 3) := by decide +kernel
theorem dL_law_605 : decode cL_law 605 = .ok (.aload 16, 2) := by decide +kernel
theorem dL_law_607 : decode cL_law 607 = .ok (.aload_n 3, 1) := by decide +kernel
theorem dL_law_608 : decode cL_law 608 = .ok (.iload 19, 2) := by decide +kernel
theorem dL_law_610 : decode cL_law 610 = .ok (.invokevirtual 68, 3) := by decide +kernel
theorem dL_law_613 : decode cL_law 613 = .ok (.dup2, 1) := by decide +kernel
theorem dL_law_614 : decode cL_law 614 = .ok (.iaload, 1) := by decide +kernel
theorem dL_law_615 : decode cL_law 615 = .ok (.iconst 1, 1) := by decide +kernel
theorem dL_law_616 : decode cL_law 616 = .ok (.iadd, 1) := by decide +kernel
theorem dL_law_617 : decode cL_law 617 = .ok (.iastore, 1) := by decide +kernel
theorem dL_law_618 : decode cL_law 618 = .ok (.iconst 0, 1) := by decide +kernel
theorem dL_law_619 : decode cL_law 619 = .ok (.istore 20, 2) := by decide +kernel
theorem dL_law_621 : decode cL_law 621 = .ok (.iconst (-1), 1) := by decide +kernel
theorem dL_law_622 : decode cL_law 622 = .ok (.istore 21, 2) := by decide +kernel
theorem dL_law_624 : decode cL_law 624 = .ok (.iconst 0, 1) := by decide +kernel
theorem dL_law_625 : decode cL_law 625 = .ok (.istore 22, 2) := by decide +kernel
theorem dL_law_627 : decode cL_law 627 = .ok (.iload 22, 2) := by decide +kernel
theorem dL_law_629 : decode cL_law 629 = .ok (.aload_n 3, 1) := by decide +kernel
theorem dL_law_630 : decode cL_law 630 = .ok (.iload 19, 2) := by decide +kernel
theorem dL_law_632 : decode cL_law 632 = .ok (.invokevirtual 105, 3) := by decide +kernel
theorem dL_law_635 : decode cL_law 635 = .ok (.if_icmp .ge 55, 3) := by decide +kernel
theorem dL_law_690 : decode cL_law 690 = .ok (.aload_n 3, 1) := by decide +kernel
theorem dL_law_691 : decode cL_law 691 = .ok (.iload 19, 2) := by decide +kernel
theorem dL_law_693 : decode cL_law 693 = .ok (.invokevirtual 68, 3) := by decide +kernel
theorem dL_law_696 : decode cL_law 696 = .ok (.iconst 2, 1) := by decide +kernel
theorem dL_law_697 : decode cL_law 697 = .ok (.if_icmp .ne 34, 3) := by decide +kernel
theorem dL_law_731 : decode cL_law 731 = .ok (.iinc 19 1, 3) := by decide +kernel
theorem dL_law_734 : decode cL_law 734 = .ok (.goto (-138), 3) := by decide +kernel
theorem dL_law_700 : decode cL_law 700 = .ok (.aload_n 3, 1) := by decide +kernel
theorem dL_law_701 : decode cL_law 701 = .ok (.iload 19, 2) := by decide +kernel
theorem dL_law_703 : decode cL_law 703 = .ok (.invokevirtual 111, 3) := by decide +kernel
theorem dL_law_706 : decode cL_law 706 = .ok (.iload 20, 2) := by decide +kernel
theorem dL_law_708 : decode cL_law 708 = .ok (.if_icmp .lt 21, 3) := by decide +kernel
theorem dL_law_711 : decode cL_law 711 = .ok (.aload_n 3, 1) := by decide +kernel
theorem dL_law_712 : decode cL_law 712 = .ok (.iload 19, 2) := by decide +kernel
theorem dL_law_714 : decode cL_law 714 = .ok (.invokevirtual 114, 3) := by decide +kernel
theorem dL_law_717 : decode cL_law 717 = .ok (.aload_n 3, 1) := by decide +kernel
theorem dL_law_718 : decode cL_law 718 = .ok (.iload 19, 2) := by decide +kernel
theorem dL_law_720 : decode cL_law 720 = .ok (.invokevirtual 111, 3) := by decide +kernel
theorem dL_law_723 : decode cL_law 723 = .ok (.iload 20, 2) := by decide +kernel
theorem dL_law_725 : decode cL_law 725 = .ok (.isub, 1) := by decide +kernel
theorem dL_law_726 : decode cL_law 726 = .ok (.if_icmp .eq 5, 3) := by decide +kernel
theorem dL_law_638 : decode cL_law 638 = .ok (.aload_n 2, 1) := by decide +kernel
theorem dL_law_639 : decode cL_law 639 = .ok (.getfield 80, 3) := by decide +kernel
theorem dL_law_642 : decode cL_law 642 = .ok (.aload_n 3, 1) := by decide +kernel
theorem dL_law_643 : decode cL_law 643 = .ok (.iload 19, 2) := by decide +kernel
theorem dL_law_645 : decode cL_law 645 = .ok (.iload 22, 2) := by decide +kernel
theorem dL_law_647 : decode cL_law 647 = .ok (.invokevirtual 108, 3) := by decide +kernel
theorem dL_law_650 : decode cL_law 650 = .ok (.aaload, 1) := by decide +kernel
theorem dL_law_651 : decode cL_law 651 = .ok (.astore 23, 2) := by decide +kernel
theorem dL_law_653 : decode cL_law 653 = .ok (.iload 21, 2) := by decide +kernel
theorem dL_law_655 : decode cL_law 655 = .ok (.ifCond .lt 14, 3) := by decide +kernel
theorem dL_law_669 : decode cL_law 669 = .ok (.aload 23, 2) := by decide +kernel
theorem dL_law_671 : decode cL_law 671 = .ok (.iconst 1, 1) := by decide +kernel
theorem dL_law_672 : decode cL_law 672 = .ok (.iaload, 1) := by decide +kernel
theorem dL_law_673 : decode cL_law 673 = .ok (.istore 21, 2) := by decide +kernel
theorem dL_law_675 : decode cL_law 675 = .ok (.iload 20, 2) := by decide +kernel
theorem dL_law_677 : decode cL_law 677 = .ok (.aload 23, 2) := by decide +kernel
theorem dL_law_679 : decode cL_law 679 = .ok (.iconst 2, 1) := by decide +kernel
theorem dL_law_680 : decode cL_law 680 = .ok (.iaload, 1) := by decide +kernel
theorem dL_law_681 : decode cL_law 681 = .ok (.iadd, 1) := by decide +kernel
theorem dL_law_682 : decode cL_law 682 = .ok (.istore 20, 2) := by decide +kernel
theorem dL_law_684 : decode cL_law 684 = .ok (.iinc 22 1, 3) := by decide +kernel
theorem dL_law_687 : decode cL_law 687 = .ok (.goto (-60), 3) := by decide +kernel
theorem dL_law_658 : decode cL_law 658 = .ok (.aload 23, 2) := by decide +kernel
theorem dL_law_660 : decode cL_law 660 = .ok (.iconst 0, 1) := by decide +kernel
theorem dL_law_661 : decode cL_law 661 = .ok (.iaload, 1) := by decide +kernel
theorem dL_law_662 : decode cL_law 662 = .ok (.iload 21, 2) := by decide +kernel
theorem dL_law_664 : decode cL_law 664 = .ok (.if_icmp .eq 5, 3) := by decide +kernel
set_option maxRecDepth 100000 in
set_option maxHeartbeats 4000000 in
/-- the checks of the vehicles -/
theorem lx_vehs {p : Program} {l : Launch} {e : Env} {s : State} {m : MethodId} {below : List Frame} {meth : Method} {c : Code} {A : Nat → Prop} {dC : Nat → ClassId} {dI : Nat → Nat → Nat} {cy : Nat → ClassId} {bs Ls : Nat} {xs : Nat → Int32} {Q : State → Prop} {cells slots : Nat} (C1 : lx_At p s m meth c A bs Ls xs dC dI cy) (hcells : cells ≤ 590000) (hslots : slots ≤ 7040000) {gp : Nat} {ob : Nat} {qf : Nat → Nat} {d : Nat} {nd : Nat} {nl : Nat} {nf : Nat} {lr : Nat → Nat} {lv : Tb} {fr9 : Nat → Nat} {fv : Tb} {K : Lay} {s0 : Nat} {Lt : Lay} {a : St} {κ : Kap} {τ : Tau} {b : St} {κt : Kap} {τt : Tau} {M : Nat} {ck : Nat} (hT : TL K (some s0) τ) (hw : Wf M a) (hM : M < 20000) (hTR : TRab (some s0) a τ) (hchk : Chk nd nl nf lv fv ck a) (hnd : nd ≤ 12) (hnl : nl ≤ 24) (hnf : nf ≤ 10) (tm : Int32) (sp9 : Int32) (tk9 : Int32) (em9 : Int32) (on9 : Int32) (wt9 : Int32) (H : Heap) (locs : List Loc) (ls : Array Slot) (hP : ms (dC, dI) vwCl A [(fun q e => TW cy K (some s0) a κ τ q e ∨ oW ob (K 0 0) (Lt 0 0) q e), cel gp (gO ob bs qf d nd nl nf), rwW cy 24 5 (qf 0) lr lv nl, rwW cy 10 6 (qf 9) fr9 fv nf, (TW cy Lt none b κt τt)] H) (hS : va_S A s.heap H locs) (hl : lv_has ls 24 [(0, .ref bs), (1, .int tm), (2, .ref gp), (3, .ref ob), (4, .int sp9), (7, .int tk9), (10, .int em9), (14, .int on9), (15, .int wt9)]) (kk : ∀ (H : Heap) (locs : List Loc) (ls : Array Slot) (sa : Nat) (y9 : Nat → Int32), (∀ q : Nat, q < 4 → y9 q = cntI a (nI q) (nV a)) → ms (dC, dI) vwCl A [(fun q e => TW cy K (some s0) a κ τ q e ∨ oW ob (K 0 0) (Lt 0 0) q e), cel gp (gO ob bs qf d nd nl nf), rwW cy 24 5 (qf 0) lr lv nl, rwW cy 10 6 (qf 9) fr9 fv nf, (TW cy Lt none b κt τt), cel sa (.inl (cy 0, 4, .inl (y9)))] H → va_S A s.heap H locs → lv_has ls 24 [(0, .ref bs), (1, .int tm), (2, .ref gp), (3, .ref ob), (4, .int sp9), (7, .int tk9), (10, .int em9), (14, .int on9), (15, .int wt9), (16, .ref sa), (17, .int 0), (18, .int 0)] → W p l e room_1 s m #[.ref bs] below meth c H locs (cells + 1) (slots + 4) Q (F0 m 737 ls [])) : W p l e room_1 s m #[.ref bs] below meth c H locs cells slots Q (F0 m 582 ls []) := by
  obtain ⟨hx, hb, hr, hml, hown, hts, hX, hbl, hbL, hlocks, hK, hE, hA, hbA⟩ := C1
  have hl : lv_has ls 24 [(0, .ref bs), (1, .int tm), (2, .ref gp), (3, .ref ob), (4, .int sp9), (7, .int tk9), (10, .int em9), (14, .int on9), (15, .int wt9)] := hl
  refine lv_iconst (v := 4) hx hb dL_law_582 (by decide) ?_
  obtain ⟨ws9, hPw, hDw, -, hbk⟩ := hP.push
  refine va_newa hx hb (atype := .int) (hts _ tw_623) (ty := .int) rfl hK hPw hDw hS hA (a0 := (4, .inl (fun _ => 0))) (N' := 4) (fun _ => rfl) (by decide) (by decide) (Nat.le_of_ble_eq_true rfl) (by show cells + 1 ≤ 600074; omega) (by show slots + 4 ≤ 7301550; omega) dL_law_583 (fun a_1 k9 H hK9 hPw hDw hS => ?_)
  obtain rfl : k9 = cy 0 := tp_one hK9 11 0 rfl rfl
  have hP : ms (dC, dI) vwCl A [(fun q e => TW cy K (some s0) a κ τ q e ∨ oW ob (K 0 0) (Lt 0 0) q e), cel gp (gO ob bs qf d nd nl nf), rwW cy 24 5 (qf 0) lr lv nl, rwW cy 10 6 (qf 9) fr9 fv nf, (TW cy Lt none b κt τt), cel a_1 (.inl (cy 0, 4, .inl (fun _ => 0)))] H := hbk _ _ _ hPw hDw
  clear hbk hPw hDw hK9
  refine lv_astore (lv' := [(16, .ref a_1), (0, .ref bs), (1, .int tm), (2, .ref gp), (3, .ref ob), (4, .int sp9), (7, .int tk9), (10, .int em9), (14, .int on9), (15, .int wt9)]) hx hb dL_law_585 hl (by decide) rfl (fun ls hl => ?_)
  refine lv_iconst (v := 0) hx hb dL_law_587 (by decide) ?_
  refine lv_istore (lv' := [(17, .int 0), (16, .ref a_1), (0, .ref bs), (1, .int tm), (2, .ref gp), (3, .ref ob), (4, .int sp9), (7, .int tk9), (10, .int em9), (14, .int on9), (15, .int wt9)]) hx hb dL_law_588 hl (by decide) rfl (fun ls hl => ?_)
  refine lv_iconst (v := 0) hx hb dL_law_590 (by decide) ?_
  refine lv_istore (lv' := [(18, .int 0), (17, .int 0), (16, .ref a_1), (0, .ref bs), (1, .int tm), (2, .ref gp), (3, .ref ob), (4, .int sp9), (7, .int tk9), (10, .int em9), (14, .int on9), (15, .int wt9)]) hx hb dL_law_591 hl (by decide) rfl (fun ls hl => ?_)
  refine lv_iconst (v := 0) hx hb dL_law_593 (by decide) ?_
  refine lv_istore (lv' := [(19, .int 0), (18, .int 0), (17, .int 0), (16, .ref a_1), (0, .ref bs), (1, .int tm), (2, .ref gp), (3, .ref ob), (4, .int sp9), (7, .int tk9), (10, .int em9), (14, .int on9), (15, .int wt9)]) hx hb dL_law_594 hl (by decide) rfl (fun ls hl => ?_)
  have hv200 : nV a ≤ 200 := in_le hw.1.2.2.2
  refine tp_for (σ := Unit) (nV a) (fun _ => cells + 1) (fun _ => slots + 4) (fun (i : Nat) (_ : Unit) (H : Heap) (locs : List Loc) (ls : Array Slot) => ∃ (yy : Nat → Int32), (∀ q : Nat, q < 4 → yy q = cntI a (nI q) i) ∧ ms (dC, dI) vwCl A [(fun q e => TW cy K (some s0) a κ τ q e ∨ oW ob (K 0 0) (Lt 0 0) q e), cel gp (gO ob bs qf d nd nl nf), rwW cy 24 5 (qf 0) lr lv nl, rwW cy 10 6 (qf 9) fr9 fv nf, (TW cy Lt none b κt τt), cel a_1 (.inl (cy 0, 4, .inl (yy)))] H ∧ va_S A s.heap H locs ∧ lv_has ls 24 [(19, .int (nI i)), (18, .int 0), (17, .int 0), (16, .ref a_1), (0, .ref bs), (1, .int tm), (2, .ref gp), (3, .ref ob), (4, .int sp9), (7, .int tk9), (10, .int em9), (14, .int on9), (15, .int wt9)]) ?_ ?_ (nV a) 0 (Nat.zero_add _) () _ _ ls ⟨(fun _ => 0), (fun q _ => rfl), hP, hS, lv_sub hl [0, 1, 2, 3, 4, 5, 6, 7, 8, 9, 10, 11, 12] rfl⟩
  · rintro _ H locs ls ⟨yy, ki0, hP, hS, hl⟩
    have hl : lv_has ls 24 [(19, .int (nI (nV a))), (18, .int 0), (17, .int 0), (16, .ref a_1), (0, .ref bs), (1, .int tm), (2, .ref gp), (3, .ref ob), (4, .int sp9), (7, .int tk9), (10, .int em9), (14, .int on9), (15, .int wt9)] := hl
    show W _ _ _ _ _ _ _ _ _ _ _ _ (cells + 1) (slots + 4) _ _
    refine lv_iload hx hb dL_law_596 (lv_at hl 0 rfl) ?_
    refine lv_aload_n hx hb dL_law_598 rfl (lv_at hl 7 rfl) ?_
    have hFc := m_free (C := (fun q e => TW cy K (some s0) a κ τ q e ∨ oW ob (K 0 0) (Lt 0 0) q e)) hP.1 hS hA (fun _ _ h => any_in (i := 0) rfl h)
    refine va_calli (va_runV (As := []) (rest := [.int (nI (nV a))]) ⟨hx, hb, hml, hown, hts⟩ (c_vehicles l dC dI cy K ((some s0)) a κ τ ob ((Lt 0 0)) H.size hT) (tp_cwV 0 hts tw_379 tw_380 tw_381 tw_20 tw_382 rfl rfl (by decide +kernel) ⟨Nat.le_of_ble_eq_true rfl, Nat.le_of_ble_eq_true rfl⟩) ⟨m_blind, va_recv hK (hP.one (e := .inr (8, [.ref (K 0 0), .ref (Lt 0 0)])) 0 rfl (Or.inr oW_mem)) (ci := 8) (q0 := 0) rfl rfl, fun U hU hW => ⟨rfl, m_pay hK hP.1 hE (fun _ _ h => any_in (i := 0) rfl h) U hU hW⟩⟩ rfl rfl hl.1 rfl (lv_room (Nat.le_of_ble_eq_true rfl)) dL_law_599 ⟨(by show cells + 1 + 0 ≤ 600074; omega), (by show slots + 4 + 0 ≤ 7301550; omega)⟩) hS (fun q _ h => hFc q h) hFc (fun r_2 u t H1 locs ht hvm hpo hB hz1 hk1 hS => ?_)
    obtain rfl := hpo
    obtain ⟨f_3, hP1⟩ := hB
    subst f_3
    rw [ht] at hP1
    have hP : ms (dC, dI) vwCl A [(fun q e => TW cy K (some s0) a κ τ q e ∨ oW ob (K 0 0) (Lt 0 0) q e), cel gp (gO ob bs qf d nd nl nf), rwW cy 24 5 (qf 0) lr lv nl, rwW cy 10 6 (qf 9) fr9 fv nf, (TW cy Lt none b κt τt), cel a_1 (.inl (cy 0, 4, .inl (yy)))] H1 := hP.call 0 rfl hk1 hFc hP1
    clear hP1 hk1 hFc
    generalize H1 = H at hP hS ⊢
    refine W.eq (g2 := F0 m 602 ls [.int (nI (nV a)), .int (nI (nV a))]) (by rw [← m_n0 hw.1.2.2.2.1]) ?_
    refine lv_icmp_ge (tgt := 737) hx hb dL_law_602 (by decide) (fun _ => ?_) (fun c_4 => absurd (Int32.le_refl _) c_4)
    exact kk _ _ ls a_1 yy ki0 hP hS (lv_sub hl [4, 5, 6, 7, 8, 9, 10, 11, 12, 3, 2, 1] rfl)
  · rintro i _ H locs ls hi ⟨yy, ki0, hP, hS, hl⟩ ihi
    have hl : lv_has ls 24 [(19, .int (nI i)), (18, .int 0), (17, .int 0), (16, .ref a_1), (0, .ref bs), (1, .int tm), (2, .ref gp), (3, .ref ob), (4, .int sp9), (7, .int tk9), (10, .int em9), (14, .int on9), (15, .int wt9)] := hl
    show W _ _ _ _ _ _ _ _ _ _ _ _ (cells + 1) (slots + 4) _ _
    obtain ⟨⟨st, hs4, est⟩, ht1, ht2⟩ := hchk.2.2.2.1 i hi
    have hnv : ¬ T_no a (nI i) := nI_vno hw hi
    have hi2 : i < 200 := Nat.lt_of_lt_of_le hi hv200
    obtain ⟨gn, hgn, eG⟩ : ∃ y : Nat, y ≤ M ∧ a 15 i 7 = nI y := ⟨_, in_le (hw.2.2.2.2 i hi2).2.2, m_n0 (hw.2.2.2.2 i hi2).2.2.1⟩
    rw [eG, nI_clamp (by omega)] at ht1 ht2
    refine lv_iload hx hb dL_law_596 (lv_at hl 0 rfl) ?_
    refine lv_aload_n hx hb dL_law_598 rfl (lv_at hl 7 rfl) ?_
    have hFc := m_free (C := (fun q e => TW cy K (some s0) a κ τ q e ∨ oW ob (K 0 0) (Lt 0 0) q e)) hP.1 hS hA (fun _ _ h => any_in (i := 0) rfl h)
    refine va_calli (va_runV (As := []) (rest := [.int (nI i)]) ⟨hx, hb, hml, hown, hts⟩ (c_vehicles l dC dI cy K ((some s0)) a κ τ ob ((Lt 0 0)) H.size hT) (tp_cwV 0 hts tw_379 tw_380 tw_381 tw_20 tw_382 rfl rfl (by decide +kernel) ⟨Nat.le_of_ble_eq_true rfl, Nat.le_of_ble_eq_true rfl⟩) ⟨m_blind, va_recv hK (hP.one (e := .inr (8, [.ref (K 0 0), .ref (Lt 0 0)])) 0 rfl (Or.inr oW_mem)) (ci := 8) (q0 := 0) rfl rfl, fun U hU hW => ⟨rfl, m_pay hK hP.1 hE (fun _ _ h => any_in (i := 0) rfl h) U hU hW⟩⟩ rfl rfl hl.1 rfl (lv_room (Nat.le_of_ble_eq_true rfl)) dL_law_599 ⟨(by show cells + 1 + 0 ≤ 600074; omega), (by show slots + 4 + 0 ≤ 7301550; omega)⟩) hS (fun q _ h => hFc q h) hFc (fun r_5 u t H1 locs ht hvm hpo hB hz1 hk1 hS => ?_)
    obtain rfl := hpo
    obtain ⟨f_6, hP1⟩ := hB
    subst f_6
    rw [ht] at hP1
    have hP : ms (dC, dI) vwCl A [(fun q e => TW cy K (some s0) a κ τ q e ∨ oW ob (K 0 0) (Lt 0 0) q e), cel gp (gO ob bs qf d nd nl nf), rwW cy 24 5 (qf 0) lr lv nl, rwW cy 10 6 (qf 9) fr9 fv nf, (TW cy Lt none b κt τt), cel a_1 (.inl (cy 0, 4, .inl (yy)))] H1 := hP.call 0 rfl hk1 hFc hP1
    clear hP1 hk1 hFc
    generalize H1 = H at hP hS ⊢
    refine W.eq (g2 := F0 m 602 ls [.int (nI (nV a)), .int (nI i)]) (by rw [← m_n0 hw.1.2.2.2.1]) ?_
    refine lv_icmp_ge (tgt := 737) hx hb dL_law_602 (by decide) (fun c_7 => absurd c_7 (nI_ge hi (by omega))) (fun _ => ?_)
    refine lv_aload hx hb dL_law_605 (lv_at hl 3 rfl) ?_
    refine lv_aload_n hx hb dL_law_607 rfl (lv_at hl 7 rfl) ?_
    refine lv_iload hx hb dL_law_608 (lv_at hl 0 rfl) ?_
    have hFc := m_free (C := (fun q e => TW cy K (some s0) a κ τ q e ∨ oW ob (K 0 0) (Lt 0 0) q e)) hP.1 hS hA (fun _ _ h => any_in (i := 0) rfl h)
    refine va_calli (va_runV (As := [.int (nI i)]) (rest := [.ref a_1]) ⟨hx, hb, hml, hown, hts⟩ (c_stateOf l dC dI cy K ((some s0)) a κ τ ob ((Lt 0 0)) M (nI i) H.size hT hw hnv) (tp_cwV 1 hts tw_383 tw_384 tw_385 tw_20 tw_386 rfl rfl (by decide +kernel) ⟨Nat.le_of_ble_eq_true rfl, Nat.le_of_ble_eq_true rfl⟩) ⟨m_blind, va_recv hK (hP.one (e := .inr (8, [.ref (K 0 0), .ref (Lt 0 0)])) 0 rfl (Or.inr oW_mem)) (ci := 8) (q0 := 0) rfl rfl, fun U hU hW => ⟨rfl, m_pay hK hP.1 hE (fun _ _ h => any_in (i := 0) rfl h) U hU hW⟩⟩ rfl rfl hl.1 rfl (lv_room (Nat.le_of_ble_eq_true rfl)) dL_law_610 ⟨(by show cells + 1 + 0 + 0 ≤ 600074; omega), (by show slots + 4 + 0 + 0 ≤ 7301550; omega)⟩) hS (fun q _ h => hFc q h) hFc (fun r_8 u t H1 locs ht hvm hpo hB hz1 hk1 hS => ?_)
    obtain rfl := hpo
    obtain ⟨f_9, hP1⟩ := hB
    subst f_9
    rw [ht] at hP1
    have hP : ms (dC, dI) vwCl A [(fun q e => TW cy K (some s0) a κ τ q e ∨ oW ob (K 0 0) (Lt 0 0) q e), cel gp (gO ob bs qf d nd nl nf), rwW cy 24 5 (qf 0) lr lv nl, rwW cy 10 6 (qf 9) fr9 fv nf, (TW cy Lt none b κt τt), cel a_1 (.inl (cy 0, 4, .inl (yy)))] H1 := hP.call 0 rfl hk1 hFc hP1
    clear hP1 hk1 hFc
    generalize H1 = H at hP hS ⊢
    refine W.eq (g2 := F0 m 613 ls [.int (a 15 i 3), .ref a_1]) (by rw [nI_clamp (by omega)]) ?_
    refine W.eq (g2 := F0 m 613 ls [.int (nI st), .ref a_1]) (by rw [est]) ?_
    refine lv_dup2_11 hx hb dL_law_613 rfl rfl ?_
    have j_10 : (nI st : Int32).toNatClampNeg = st := m_cl (n := 4) rfl hs4 (by decide)
    refine va_iald hx hb hK (ws := [(a_1, .inl (cy 0, 4, .inl (yy)))]) (hP.one 5 rfl cel_in) 0 0 rfl rfl (m_in (n := 4) rfl hs4 (by decide)) dL_law_614 ?_
    refine W.eq (g2 := F0 m 615 ls [.int (yy st), .int (nI st), .ref a_1]) (by rw [j_10]) ?_
    refine lv_iconst (v := 1) hx hb dL_law_615 (by decide) ?_
    refine lv_iadd hx hb dL_law_616 ?_
    have j_11 : (nI st : Int32).toNatClampNeg = st := m_cl (n := 4) rfl hs4 (by decide)
    obtain ⟨ws9, k9, hPw, hDw, hk9, -, hbk⟩ := hP.cutc (e := .inl (cy 0, 4, .inl (yy))) 5 rfl
    refine va_iast hx hb hK hPw hDw hS k9 0 hk9 rfl (m_in (n := 4) rfl hs4 (by decide)) dL_law_617 (fun H locs hPw hDw hS => ?_)
    rw [j_11] at hPw hDw
    have hP : ms (dC, dI) vwCl A [(fun q e => TW cy K (some s0) a κ τ q e ∨ oW ob (K 0 0) (Lt 0 0) q e), cel gp (gO ob bs qf d nd nl nf), rwW cy 24 5 (qf 0) lr lv nl, rwW cy 10 6 (qf 9) fr9 fv nf, (TW cy Lt none b κt τt), cel a_1 (.inl (cy 0, 4, .inl (upd yy st ((yy st) + 1))))] H := hbk _ _ hPw hDw
    clear hbk hPw hDw hk9
    refine lv_iconst (v := 0) hx hb dL_law_618 (by decide) ?_
    refine lv_istore (lv' := [(20, .int 0), (19, .int (nI i)), (18, .int 0), (17, .int 0), (16, .ref a_1), (0, .ref bs), (1, .int tm), (2, .ref gp), (3, .ref ob), (4, .int sp9), (7, .int tk9), (10, .int em9), (14, .int on9), (15, .int wt9)]) hx hb dL_law_619 hl (by decide) rfl (fun ls hl => ?_)
    refine lv_iconst (v := -1) hx hb dL_law_621 (by decide) ?_
    refine lv_istore (lv' := [(21, .int ((-1))), (20, .int 0), (19, .int (nI i)), (18, .int 0), (17, .int 0), (16, .ref a_1), (0, .ref bs), (1, .int tm), (2, .ref gp), (3, .ref ob), (4, .int sp9), (7, .int tk9), (10, .int em9), (14, .int on9), (15, .int wt9)]) hx hb dL_law_622 hl (by decide) rfl (fun ls hl => ?_)
    refine lv_iconst (v := 0) hx hb dL_law_624 (by decide) ?_
    refine lv_istore (lv' := [(22, .int 0), (21, .int ((-1))), (20, .int 0), (19, .int (nI i)), (18, .int 0), (17, .int 0), (16, .ref a_1), (0, .ref bs), (1, .int tm), (2, .ref gp), (3, .ref ob), (4, .int sp9), (7, .int tk9), (10, .int em9), (14, .int on9), (15, .int wt9)]) hx hb dL_law_625 hl (by decide) rfl (fun ls hl => ?_)
    refine tp_for (σ := Unit) gn (fun _ => cells + 1 + 0 + 0) (fun _ => slots + 4 + 0 + 0) (fun (j : Nat) (_ : Unit) (H : Heap) (locs : List Loc) (ls : Array Slot) => ms (dC, dI) vwCl A [(fun q e => TW cy K (some s0) a κ τ q e ∨ oW ob (K 0 0) (Lt 0 0) q e), cel gp (gO ob bs qf d nd nl nf), rwW cy 24 5 (qf 0) lr lv nl, rwW cy 10 6 (qf 9) fr9 fv nf, (TW cy Lt none b κt τt), cel a_1 (.inl (cy 0, 4, .inl (upd yy st ((yy st) + 1))))] H ∧ va_S A s.heap H locs ∧ lv_has ls 24 [(22, .int (nI j)), (20, .int (lstE lv a i j)), (21, .int (hrE lv a i j)), (19, .int (nI i)), (18, .int 0), (17, .int 0), (16, .ref a_1), (0, .ref bs), (1, .int tm), (2, .ref gp), (3, .ref ob), (4, .int sp9), (7, .int tk9), (10, .int em9), (14, .int on9), (15, .int wt9)]) ?_ ?_ gn 0 (Nat.zero_add _) () _ _ ls ⟨hP, hS, lv_sub hl [0, 2, 1, 3, 4, 5, 6, 7, 8, 9, 10, 11, 12, 13, 14, 15] rfl⟩
    · rintro _ H locs ls ⟨hP, hS, hl⟩
      have hl : lv_has ls 24 [(22, .int (nI gn)), (20, .int (lstE lv a i gn)), (21, .int (hrE lv a i gn)), (19, .int (nI i)), (18, .int 0), (17, .int 0), (16, .ref a_1), (0, .ref bs), (1, .int tm), (2, .ref gp), (3, .ref ob), (4, .int sp9), (7, .int tk9), (10, .int em9), (14, .int on9), (15, .int wt9)] := hl
      show W _ _ _ _ _ _ _ _ _ _ _ _ (cells + 1 + 0 + 0) (slots + 4 + 0 + 0) _ _
      refine lv_iload hx hb dL_law_627 (lv_at hl 0 rfl) ?_
      refine lv_aload_n hx hb dL_law_629 rfl (lv_at hl 10 rfl) ?_
      refine lv_iload hx hb dL_law_630 (lv_at hl 3 rfl) ?_
      have hFc := m_free (C := (fun q e => TW cy K (some s0) a κ τ q e ∨ oW ob (K 0 0) (Lt 0 0) q e)) hP.1 hS hA (fun _ _ h => any_in (i := 0) rfl h)
      refine va_calli (va_runV (As := [.int (nI i)]) (rest := [.int (nI gn)]) ⟨hx, hb, hml, hown, hts⟩ (c_linksOf l dC dI cy K ((some s0)) a κ τ ob ((Lt 0 0)) M (nI i) H.size hT hw hnv) (tp_cwV 1 hts tw_401 tw_402 tw_403 tw_20 tw_404 rfl rfl (by decide +kernel) ⟨Nat.le_of_ble_eq_true rfl, Nat.le_of_ble_eq_true rfl⟩) ⟨m_blind, va_recv hK (hP.one (e := .inr (8, [.ref (K 0 0), .ref (Lt 0 0)])) 0 rfl (Or.inr oW_mem)) (ci := 8) (q0 := 0) rfl rfl, fun U hU hW => ⟨rfl, m_pay hK hP.1 hE (fun _ _ h => any_in (i := 0) rfl h) U hU hW⟩⟩ rfl rfl hl.1 rfl (lv_room (Nat.le_of_ble_eq_true rfl)) dL_law_632 ⟨(by show cells + 1 + 0 + 0 + 0 ≤ 600074; omega), (by show slots + 4 + 0 + 0 + 0 ≤ 7301550; omega)⟩) hS (fun q _ h => hFc q h) hFc (fun r_12 u t H1 locs ht hvm hpo hB hz1 hk1 hS => ?_)
      obtain rfl := hpo
      obtain ⟨f_13, hP1⟩ := hB
      subst f_13
      rw [ht] at hP1
      have hP : ms (dC, dI) vwCl A [(fun q e => TW cy K (some s0) a κ τ q e ∨ oW ob (K 0 0) (Lt 0 0) q e), cel gp (gO ob bs qf d nd nl nf), rwW cy 24 5 (qf 0) lr lv nl, rwW cy 10 6 (qf 9) fr9 fv nf, (TW cy Lt none b κt τt), cel a_1 (.inl (cy 0, 4, .inl (upd yy st ((yy st) + 1))))] H1 := hP.call 0 rfl hk1 hFc hP1
      clear hP1 hk1 hFc
      generalize H1 = H at hP hS ⊢
      refine W.eq (g2 := F0 m 635 ls [.int (a 15 i 7), .int (nI gn)]) (by rw [nI_clamp (by omega)]) ?_
      refine W.eq (g2 := F0 m 635 ls [.int (nI gn), .int (nI gn)]) (by rw [eG]) ?_
      refine lv_icmp_ge (tgt := 690) hx hb dL_law_635 (by decide) (fun _ => ?_) (fun c_14 => absurd (Int32.le_refl _) c_14)
      refine lv_aload_n hx hb dL_law_690 rfl (lv_at hl 10 rfl) ?_
      refine lv_iload hx hb dL_law_691 (lv_at hl 3 rfl) ?_
      have hFc := m_free (C := (fun q e => TW cy K (some s0) a κ τ q e ∨ oW ob (K 0 0) (Lt 0 0) q e)) hP.1 hS hA (fun _ _ h => any_in (i := 0) rfl h)
      refine va_calli (va_runV (As := [.int (nI i)]) (rest := []) ⟨hx, hb, hml, hown, hts⟩ (c_stateOf l dC dI cy K ((some s0)) a κ τ ob ((Lt 0 0)) M (nI i) H.size hT hw hnv) (tp_cwV 1 hts tw_383 tw_384 tw_385 tw_20 tw_386 rfl rfl (by decide +kernel) ⟨Nat.le_of_ble_eq_true rfl, Nat.le_of_ble_eq_true rfl⟩) ⟨m_blind, va_recv hK (hP.one (e := .inr (8, [.ref (K 0 0), .ref (Lt 0 0)])) 0 rfl (Or.inr oW_mem)) (ci := 8) (q0 := 0) rfl rfl, fun U hU hW => ⟨rfl, m_pay hK hP.1 hE (fun _ _ h => any_in (i := 0) rfl h) U hU hW⟩⟩ rfl rfl hl.1 rfl (lv_room (Nat.le_of_ble_eq_true rfl)) dL_law_693 ⟨(by show cells + 1 + 0 + 0 + 0 + 0 ≤ 600074; omega), (by show slots + 4 + 0 + 0 + 0 + 0 ≤ 7301550; omega)⟩) hS (fun q _ h => hFc q h) hFc (fun r_15 u t H1 locs ht hvm hpo hB hz1 hk1 hS => ?_)
      obtain rfl := hpo
      obtain ⟨f_16, hP1⟩ := hB
      subst f_16
      rw [ht] at hP1
      have hP : ms (dC, dI) vwCl A [(fun q e => TW cy K (some s0) a κ τ q e ∨ oW ob (K 0 0) (Lt 0 0) q e), cel gp (gO ob bs qf d nd nl nf), rwW cy 24 5 (qf 0) lr lv nl, rwW cy 10 6 (qf 9) fr9 fv nf, (TW cy Lt none b κt τt), cel a_1 (.inl (cy 0, 4, .inl (upd yy st ((yy st) + 1))))] H1 := hP.call 0 rfl hk1 hFc hP1
      clear hP1 hk1 hFc
      generalize H1 = H at hP hS ⊢
      refine W.eq (g2 := F0 m 696 ls [.int (a 15 i 3)]) (by rw [nI_clamp (by omega)]) ?_
      refine W.eq (g2 := F0 m 696 ls [.int (nI st)]) (by rw [est]) ?_
      refine lv_iconst (v := 2) hx hb dL_law_696 (by decide) ?_
      refine lv_icmp_ne (tgt := 731) hx hb dL_law_697 (by decide) (fun c_17 => ?_) (fun c_17 => ?_)
      · refine lv_iinc (v := nI (i + 1)) (lv' := [(19, .int (nI (i + 1))), (22, .int (nI gn)), (20, .int (lstE lv a i gn)), (21, .int (hrE lv a i gn)), (18, .int 0), (17, .int 0), (16, .ref a_1), (0, .ref bs), (1, .int tm), (2, .ref gp), (3, .ref ob), (4, .int sp9), (7, .int tk9), (10, .int em9), (14, .int on9), (15, .int wt9)]) hx hb dL_law_731 hl (k := 3) rfl (nI_1 i) (by decide) rfl (fun ls hl => ?_)
        refine lv_goto (tgt := 596) hx hb dL_law_734 (by decide) ?_
        exact ihi () _ _ ls ⟨(upd yy st ((yy st) + 1)), (cnt_s ki0 hs4 est), hP, hS, lv_sub hl [0, 4, 5, 6, 7, 8, 9, 10, 11, 12, 13, 14, 15] rfl⟩
      · refine lv_aload_n hx hb dL_law_700 rfl (lv_at hl 10 rfl) ?_
        refine lv_iload hx hb dL_law_701 (lv_at hl 3 rfl) ?_
        have hFc := m_free (C := (fun q e => TW cy K (some s0) a κ τ q e ∨ oW ob (K 0 0) (Lt 0 0) q e)) hP.1 hS hA (fun _ _ h => any_in (i := 0) rfl h)
        refine va_calli (va_runV (As := [.int (nI i)]) (rest := []) ⟨hx, hb, hml, hown, hts⟩ (c_tripOf l dC dI cy K ((some s0)) a κ τ ob ((Lt 0 0)) M (nI i) H.size hT hw hnv) (tp_cwV 1 hts tw_414 tw_415 tw_416 tw_20 tw_417 rfl rfl (by decide +kernel) ⟨Nat.le_of_ble_eq_true rfl, Nat.le_of_ble_eq_true rfl⟩) ⟨m_blind, va_recv hK (hP.one (e := .inr (8, [.ref (K 0 0), .ref (Lt 0 0)])) 0 rfl (Or.inr oW_mem)) (ci := 8) (q0 := 0) rfl rfl, fun U hU hW => ⟨rfl, m_pay hK hP.1 hE (fun _ _ h => any_in (i := 0) rfl h) U hU hW⟩⟩ rfl rfl hl.1 rfl (lv_room (Nat.le_of_ble_eq_true rfl)) dL_law_703 ⟨(by show cells + 1 + 0 + 0 + 0 + 0 + 0 ≤ 600074; omega), (by show slots + 4 + 0 + 0 + 0 + 0 + 0 ≤ 7301550; omega)⟩) hS (fun q _ h => hFc q h) hFc (fun r_18 u t H1 locs ht hvm hpo hB hz1 hk1 hS => ?_)
        obtain rfl := hpo
        obtain ⟨f_19, hP1⟩ := hB
        subst f_19
        rw [ht] at hP1
        have hP : ms (dC, dI) vwCl A [(fun q e => TW cy K (some s0) a κ τ q e ∨ oW ob (K 0 0) (Lt 0 0) q e), cel gp (gO ob bs qf d nd nl nf), rwW cy 24 5 (qf 0) lr lv nl, rwW cy 10 6 (qf 9) fr9 fv nf, (TW cy Lt none b κt τt), cel a_1 (.inl (cy 0, 4, .inl (upd yy st ((yy st) + 1))))] H1 := hP.call 0 rfl hk1 hFc hP1
        clear hP1 hk1 hFc
        generalize H1 = H at hP hS ⊢
        refine W.eq (g2 := F0 m 706 ls [.int (a 15 i 9)]) (by rw [nI_clamp (by omega)]) ?_
        refine lv_iload hx hb dL_law_706 (lv_at hl 1 rfl) ?_
        refine lv_icmp_lt (tgt := 729) hx hb dL_law_708 (by decide) (fun c_20 => absurd c_20 (Int32.not_lt.mpr (ht2 (est.trans c_17)).1)) (fun _ => ?_)
        refine lv_aload_n hx hb dL_law_711 rfl (lv_at hl 10 rfl) ?_
        refine lv_iload hx hb dL_law_712 (lv_at hl 3 rfl) ?_
        have hFc := m_free (C := (fun q e => TW cy K (some s0) a κ τ q e ∨ oW ob (K 0 0) (Lt 0 0) q e)) hP.1 hS hA (fun _ _ h => any_in (i := 0) rfl h)
        refine va_calli (va_runV (As := [.int (nI i)]) (rest := []) ⟨hx, hb, hml, hown, hts⟩ (c_delayOf l dC dI cy K ((some s0)) a κ τ ob ((Lt 0 0)) M (nI i) H.size hT hw hnv) (tp_cwV 1 hts tw_418 tw_419 tw_420 tw_20 tw_421 rfl rfl (by decide +kernel) ⟨Nat.le_of_ble_eq_true rfl, Nat.le_of_ble_eq_true rfl⟩) ⟨m_blind, va_recv hK (hP.one (e := .inr (8, [.ref (K 0 0), .ref (Lt 0 0)])) 0 rfl (Or.inr oW_mem)) (ci := 8) (q0 := 0) rfl rfl, fun U hU hW => ⟨rfl, m_pay hK hP.1 hE (fun _ _ h => any_in (i := 0) rfl h) U hU hW⟩⟩ rfl rfl hl.1 rfl (lv_room (Nat.le_of_ble_eq_true rfl)) dL_law_714 ⟨(by show cells + 1 + 0 + 0 + 0 + 0 + 0 + 0 ≤ 600074; omega), (by show slots + 4 + 0 + 0 + 0 + 0 + 0 + 0 ≤ 7301550; omega)⟩) hS (fun q _ h => hFc q h) hFc (fun r_21 u t H1 locs ht hvm hpo hB hz1 hk1 hS => ?_)
        obtain rfl := hpo
        obtain ⟨f_22, hP1⟩ := hB
        subst f_22
        rw [ht] at hP1
        have hP : ms (dC, dI) vwCl A [(fun q e => TW cy K (some s0) a κ τ q e ∨ oW ob (K 0 0) (Lt 0 0) q e), cel gp (gO ob bs qf d nd nl nf), rwW cy 24 5 (qf 0) lr lv nl, rwW cy 10 6 (qf 9) fr9 fv nf, (TW cy Lt none b κt τt), cel a_1 (.inl (cy 0, 4, .inl (upd yy st ((yy st) + 1))))] H1 := hP.call 0 rfl hk1 hFc hP1
        clear hP1 hk1 hFc
        generalize H1 = H at hP hS ⊢
        refine W.eq (g2 := F0 m 717 ls [.int (a 15 i 10)]) (by rw [nI_clamp (by omega)]) ?_
        refine lv_aload_n hx hb dL_law_717 rfl (lv_at hl 10 rfl) ?_
        refine lv_iload hx hb dL_law_718 (lv_at hl 3 rfl) ?_
        have hFc := m_free (C := (fun q e => TW cy K (some s0) a κ τ q e ∨ oW ob (K 0 0) (Lt 0 0) q e)) hP.1 hS hA (fun _ _ h => any_in (i := 0) rfl h)
        refine va_calli (va_runV (As := [.int (nI i)]) (rest := [.int (a 15 i 10)]) ⟨hx, hb, hml, hown, hts⟩ (c_tripOf l dC dI cy K ((some s0)) a κ τ ob ((Lt 0 0)) M (nI i) H.size hT hw hnv) (tp_cwV 1 hts tw_414 tw_415 tw_416 tw_20 tw_417 rfl rfl (by decide +kernel) ⟨Nat.le_of_ble_eq_true rfl, Nat.le_of_ble_eq_true rfl⟩) ⟨m_blind, va_recv hK (hP.one (e := .inr (8, [.ref (K 0 0), .ref (Lt 0 0)])) 0 rfl (Or.inr oW_mem)) (ci := 8) (q0 := 0) rfl rfl, fun U hU hW => ⟨rfl, m_pay hK hP.1 hE (fun _ _ h => any_in (i := 0) rfl h) U hU hW⟩⟩ rfl rfl hl.1 rfl (lv_room (Nat.le_of_ble_eq_true rfl)) dL_law_720 ⟨(by show cells + 1 + 0 + 0 + 0 + 0 + 0 + 0 + 0 ≤ 600074; omega), (by show slots + 4 + 0 + 0 + 0 + 0 + 0 + 0 + 0 ≤ 7301550; omega)⟩) hS (fun q _ h => hFc q h) hFc (fun r_23 u t H1 locs ht hvm hpo hB hz1 hk1 hS => ?_)
        obtain rfl := hpo
        obtain ⟨f_24, hP1⟩ := hB
        subst f_24
        rw [ht] at hP1
        have hP : ms (dC, dI) vwCl A [(fun q e => TW cy K (some s0) a κ τ q e ∨ oW ob (K 0 0) (Lt 0 0) q e), cel gp (gO ob bs qf d nd nl nf), rwW cy 24 5 (qf 0) lr lv nl, rwW cy 10 6 (qf 9) fr9 fv nf, (TW cy Lt none b κt τt), cel a_1 (.inl (cy 0, 4, .inl (upd yy st ((yy st) + 1))))] H1 := hP.call 0 rfl hk1 hFc hP1
        clear hP1 hk1 hFc
        generalize H1 = H at hP hS ⊢
        refine W.eq (g2 := F0 m 723 ls [.int (a 15 i 9), .int (a 15 i 10)]) (by rw [nI_clamp (by omega)]) ?_
        refine lv_iload hx hb dL_law_723 (lv_at hl 1 rfl) ?_
        refine lv_isub hx hb dL_law_725 ?_
        refine lv_icmp_eq (tgt := 731) hx hb dL_law_726 (by decide) (fun _ => ?_) (fun c_25 => absurd (ht2 (est.trans c_17)).2 c_25)
        refine lv_iinc (v := nI (i + 1)) (lv' := [(19, .int (nI (i + 1))), (22, .int (nI gn)), (20, .int (lstE lv a i gn)), (21, .int (hrE lv a i gn)), (18, .int 0), (17, .int 0), (16, .ref a_1), (0, .ref bs), (1, .int tm), (2, .ref gp), (3, .ref ob), (4, .int sp9), (7, .int tk9), (10, .int em9), (14, .int on9), (15, .int wt9)]) hx hb dL_law_731 hl (k := 3) rfl (nI_1 i) (by decide) rfl (fun ls hl => ?_)
        refine lv_goto (tgt := 596) hx hb dL_law_734 (by decide) ?_
        exact ihi () _ _ ls ⟨(upd yy st ((yy st) + 1)), (cnt_s ki0 hs4 est), hP, hS, lv_sub hl [0, 4, 5, 6, 7, 8, 9, 10, 11, 12, 13, 14, 15] rfl⟩
    · rintro j _ H locs ls hj ⟨hP, hS, hl⟩ ihj
      have hl : lv_has ls 24 [(22, .int (nI j)), (20, .int (lstE lv a i j)), (21, .int (hrE lv a i j)), (19, .int (nI i)), (18, .int 0), (17, .int 0), (16, .ref a_1), (0, .ref bs), (1, .int tm), (2, .ref gp), (3, .ref ob), (4, .int sp9), (7, .int tk9), (10, .int em9), (14, .int on9), (15, .int wt9)] := hl
      show W _ _ _ _ _ _ _ _ _ _ _ _ (cells + 1 + 0 + 0) (slots + 4 + 0 + 0) _ _
      obtain ⟨k, hk, t1, t2, t3⟩ := ht1 j hj
      refine lv_iload hx hb dL_law_627 (lv_at hl 0 rfl) ?_
      refine lv_aload_n hx hb dL_law_629 rfl (lv_at hl 10 rfl) ?_
      refine lv_iload hx hb dL_law_630 (lv_at hl 3 rfl) ?_
      have hFc := m_free (C := (fun q e => TW cy K (some s0) a κ τ q e ∨ oW ob (K 0 0) (Lt 0 0) q e)) hP.1 hS hA (fun _ _ h => any_in (i := 0) rfl h)
      refine va_calli (va_runV (As := [.int (nI i)]) (rest := [.int (nI j)]) ⟨hx, hb, hml, hown, hts⟩ (c_linksOf l dC dI cy K ((some s0)) a κ τ ob ((Lt 0 0)) M (nI i) H.size hT hw hnv) (tp_cwV 1 hts tw_401 tw_402 tw_403 tw_20 tw_404 rfl rfl (by decide +kernel) ⟨Nat.le_of_ble_eq_true rfl, Nat.le_of_ble_eq_true rfl⟩) ⟨m_blind, va_recv hK (hP.one (e := .inr (8, [.ref (K 0 0), .ref (Lt 0 0)])) 0 rfl (Or.inr oW_mem)) (ci := 8) (q0 := 0) rfl rfl, fun U hU hW => ⟨rfl, m_pay hK hP.1 hE (fun _ _ h => any_in (i := 0) rfl h) U hU hW⟩⟩ rfl rfl hl.1 rfl (lv_room (Nat.le_of_ble_eq_true rfl)) dL_law_632 ⟨(by show cells + 1 + 0 + 0 + 0 ≤ 600074; omega), (by show slots + 4 + 0 + 0 + 0 ≤ 7301550; omega)⟩) hS (fun q _ h => hFc q h) hFc (fun r_26 u t H1 locs ht hvm hpo hB hz1 hk1 hS => ?_)
      obtain rfl := hpo
      obtain ⟨f_27, hP1⟩ := hB
      subst f_27
      rw [ht] at hP1
      have hP : ms (dC, dI) vwCl A [(fun q e => TW cy K (some s0) a κ τ q e ∨ oW ob (K 0 0) (Lt 0 0) q e), cel gp (gO ob bs qf d nd nl nf), rwW cy 24 5 (qf 0) lr lv nl, rwW cy 10 6 (qf 9) fr9 fv nf, (TW cy Lt none b κt τt), cel a_1 (.inl (cy 0, 4, .inl (upd yy st ((yy st) + 1))))] H1 := hP.call 0 rfl hk1 hFc hP1
      clear hP1 hk1 hFc
      generalize H1 = H at hP hS ⊢
      refine W.eq (g2 := F0 m 635 ls [.int (a 15 i 7), .int (nI j)]) (by rw [nI_clamp (by omega)]) ?_
      refine W.eq (g2 := F0 m 635 ls [.int (nI gn), .int (nI j)]) (by rw [eG]) ?_
      refine lv_icmp_ge (tgt := 690) hx hb dL_law_635 (by decide) (fun c_28 => absurd c_28 (nI_ge hj (by omega))) (fun _ => ?_)
      refine lv_aload_n hx hb dL_law_638 rfl (lv_at hl 9 rfl) ?_
      refine va_get (D := (dC, dI)) (ws := [(gp, .inr (9, [.ref ob, .ref bs, .int (nI d), .int (nI nd), .int 0, .int 1, .int (nI nl), .ref (qf 0), .ref (qf 1), .ref (qf 2), .ref (qf 3), .ref (qf 4), .ref (qf 5), .ref (qf 6), .ref (qf 7), .ref (qf 8), .int (nI nf), .ref (qf 9), .int 0, .ref (qf 10), .ref (qf 11), .ref (qf 12), .ref (qf 13), .ref (qf 14), .ref (qf 15)]))]) (ci := 9) (v := .ref (qf 0)) (C := RX9) (T := TX9) (N := 25) hx hb hts tl_X9 hown hK (hP.one 1 rfl cel_in) 0 rfl rfl 7 (by decide) (hts _ tw_944) (fun _ h9 => h9) rfl dL_law_639 ?_
      refine lv_aload_n hx hb dL_law_642 rfl (lv_at hl 10 rfl) ?_
      refine lv_iload hx hb dL_law_643 (lv_at hl 3 rfl) ?_
      refine lv_iload hx hb dL_law_645 (lv_at hl 0 rfl) ?_
      have hFc := m_free (C := (fun q e => TW cy K (some s0) a κ τ q e ∨ oW ob (K 0 0) (Lt 0 0) q e)) hP.1 hS hA (fun _ _ h => any_in (i := 0) rfl h)
      refine va_calli (va_runV (As := [.int (nI i), .int (nI j)]) (rest := [.ref (qf 0)]) ⟨hx, hb, hml, hown, hts⟩ (c_linkAt l dC dI cy K s0 a κ τ ob ((Lt 0 0)) M (nI i) (nI j) j H.size hT hw hnv (by omega) rfl (by rw [nI_clamp (by omega), eG, nI_clamp (by omega)]; exact hj) (hTR (fun h => by cases h)).2) (tp_cwV 2 hts tw_405 tw_406 tw_407 tw_20 tw_408 rfl rfl (by decide +kernel) ⟨Nat.le_of_ble_eq_true rfl, Nat.le_of_ble_eq_true rfl⟩) ⟨m_blind, va_recv hK (hP.one (e := .inr (8, [.ref (K 0 0), .ref (Lt 0 0)])) 0 rfl (Or.inr oW_mem)) (ci := 8) (q0 := 0) rfl rfl, fun U hU hW => ⟨rfl, m_pay hK hP.1 hE (fun _ _ h => any_in (i := 0) rfl h) U hU hW⟩⟩ rfl rfl hl.1 rfl (lv_room (Nat.le_of_ble_eq_true rfl)) dL_law_647 ⟨(by show cells + 1 + 0 + 0 + 0 + 0 ≤ 600074; omega), (by show slots + 4 + 0 + 0 + 0 + 0 ≤ 7301550; omega)⟩) hS (fun q _ h => hFc q h) hFc (fun r_29 u t H1 locs ht hvm hpo hB hz1 hk1 hS => ?_)
      obtain rfl := hpo
      obtain ⟨f_30, hP1⟩ := hB
      subst f_30
      rw [ht] at hP1
      have hP : ms (dC, dI) vwCl A [(fun q e => TW cy K (some s0) a κ τ q e ∨ oW ob (K 0 0) (Lt 0 0) q e), cel gp (gO ob bs qf d nd nl nf), rwW cy 24 5 (qf 0) lr lv nl, rwW cy 10 6 (qf 9) fr9 fv nf, (TW cy Lt none b κt τt), cel a_1 (.inl (cy 0, 4, .inl (upd yy st ((yy st) + 1))))] H1 := hP.call 0 rfl hk1 hFc hP1
      clear hP1 hk1 hFc
      generalize H1 = H at hP hS ⊢
      refine W.eq (g2 := F0 m 650 ls [.int (nI (a 30 i j).toNatClampNeg), .ref (qf 0)]) (by rw [nI_clamp (by omega)]) ?_
      refine W.eq (g2 := F0 m 650 ls [.int (nI k), .ref (qf 0)]) (by rw [t1, nI_clamp (by omega)]) ?_
      have j_31 : (nI k : Int32).toNatClampNeg = k := m_cl (n := 24) rfl (by omega) (by decide)
      refine m_aldA hx hb hK (ws := [(qf 0, arQ (cy 8) 24 (fun j => if j < nl then some (lr j) else none))]) (hP.one 2 rfl (Or.inl ⟨rfl, rfl⟩)) 0 8 rfl rfl (m_in (n := 24) rfl (by omega) (by decide)) dL_law_650 ?_
      refine W.eq (g2 := F0 m 651 ls [.ref (lr k)]) (by rw [j_31, if_pos hk]; rfl) ?_
      refine lv_astore (lv' := [(23, .ref (lr k)), (22, .int (nI j)), (20, .int (lstE lv a i j)), (21, .int (hrE lv a i j)), (19, .int (nI i)), (18, .int 0), (17, .int 0), (16, .ref a_1), (0, .ref bs), (1, .int tm), (2, .ref gp), (3, .ref ob), (4, .int sp9), (7, .int tk9), (10, .int em9), (14, .int on9), (15, .int wt9)]) hx hb dL_law_651 hl (by decide) rfl (fun ls hl => ?_)
      refine lv_iload hx hb dL_law_653 (lv_at hl 3 rfl) ?_
      refine lv_if_lt (tgt := 669) hx hb dL_law_655 (by decide) (fun c_32 => ?_) (fun c_32 => ?_)
      · refine lv_aload hx hb dL_law_669 (lv_at hl 0 rfl) ?_
        refine lv_iconst (v := 1) hx hb dL_law_671 (by decide) ?_
        have j_33 : (1 : Int32).toNatClampNeg = 1 := m_cl (n := 5) rfl (by decide) (by decide)
        refine va_iald hx hb hK (ws := [(lr k, .inl (cy 0, 5, .inl (lv k)))]) (hP.one 2 rfl (Or.inr ⟨k, hk, rfl, rfl⟩)) 0 0 rfl rfl (m_in (n := 5) rfl (by decide) (by decide)) dL_law_672 ?_
        refine W.eq (g2 := F0 m 673 ls [.int (lv k 1)]) (by rw [j_33]) ?_
        refine W.eq (g2 := F0 m 673 ls [.int (hrE lv a i (j + 1))]) (by rw [hrE_s t1 (by omega)]) ?_
        refine lv_istore (lv' := [(21, .int (hrE lv a i (j + 1))), (23, .ref (lr k)), (22, .int (nI j)), (20, .int (lstE lv a i j)), (19, .int (nI i)), (18, .int 0), (17, .int 0), (16, .ref a_1), (0, .ref bs), (1, .int tm), (2, .ref gp), (3, .ref ob), (4, .int sp9), (7, .int tk9), (10, .int em9), (14, .int on9), (15, .int wt9)]) hx hb dL_law_673 hl (by decide) rfl (fun ls hl => ?_)
        refine lv_iload hx hb dL_law_675 (lv_at hl 3 rfl) ?_
        refine lv_aload hx hb dL_law_677 (lv_at hl 1 rfl) ?_
        refine lv_iconst (v := 2) hx hb dL_law_679 (by decide) ?_
        have j_34 : (2 : Int32).toNatClampNeg = 2 := m_cl (n := 5) rfl (by decide) (by decide)
        refine va_iald hx hb hK (ws := [(lr k, .inl (cy 0, 5, .inl (lv k)))]) (hP.one 2 rfl (Or.inr ⟨k, hk, rfl, rfl⟩)) 0 0 rfl rfl (m_in (n := 5) rfl (by decide) (by decide)) dL_law_680 ?_
        refine W.eq (g2 := F0 m 681 ls [.int (lv k 2), .int (lstE lv a i j)]) (by rw [j_34]) ?_
        refine lv_iadd hx hb dL_law_681 ?_
        refine W.eq (g2 := F0 m 682 ls [.int (lstE lv a i (j + 1))]) (by rw [lstE_s t1 (by omega)]) ?_
        refine lv_istore (lv' := [(20, .int (lstE lv a i (j + 1))), (21, .int (hrE lv a i (j + 1))), (23, .ref (lr k)), (22, .int (nI j)), (19, .int (nI i)), (18, .int 0), (17, .int 0), (16, .ref a_1), (0, .ref bs), (1, .int tm), (2, .ref gp), (3, .ref ob), (4, .int sp9), (7, .int tk9), (10, .int em9), (14, .int on9), (15, .int wt9)]) hx hb dL_law_682 hl (by decide) rfl (fun ls hl => ?_)
        refine lv_iinc (v := nI (j + 1)) (lv' := [(22, .int (nI (j + 1))), (20, .int (lstE lv a i (j + 1))), (21, .int (hrE lv a i (j + 1))), (23, .ref (lr k)), (19, .int (nI i)), (18, .int 0), (17, .int 0), (16, .ref a_1), (0, .ref bs), (1, .int tm), (2, .ref gp), (3, .ref ob), (4, .int sp9), (7, .int tk9), (10, .int em9), (14, .int on9), (15, .int wt9)]) hx hb dL_law_684 hl (k := 3) rfl (nI_1 j) (by decide) rfl (fun ls hl => ?_)
        refine lv_goto (tgt := 627) hx hb dL_law_687 (by decide) ?_
        exact ihj () _ _ ls ⟨hP, hS, lv_sub hl [0, 1, 2, 4, 5, 6, 7, 8, 9, 10, 11, 12, 13, 14, 15, 16] rfl⟩
      · refine lv_aload hx hb dL_law_658 (lv_at hl 0 rfl) ?_
        refine lv_iconst (v := 0) hx hb dL_law_660 (by decide) ?_
        have j_35 : (0 : Int32).toNatClampNeg = 0 := m_cl (n := 5) rfl (by decide) (by decide)
        refine va_iald hx hb hK (ws := [(lr k, .inl (cy 0, 5, .inl (lv k)))]) (hP.one 2 rfl (Or.inr ⟨k, hk, rfl, rfl⟩)) 0 0 rfl rfl (m_in (n := 5) rfl (by decide) (by decide)) dL_law_661 ?_
        refine W.eq (g2 := F0 m 662 ls [.int (lv k 0)]) (by rw [j_35]) ?_
        refine lv_iload hx hb dL_law_662 (lv_at hl 3 rfl) ?_
        refine lv_icmp_eq (tgt := 669) hx hb dL_law_664 (by decide) (fun _ => ?_) (fun c_36 => absurd (t3 c_32) c_36)
        refine lv_aload hx hb dL_law_669 (lv_at hl 0 rfl) ?_
        refine lv_iconst (v := 1) hx hb dL_law_671 (by decide) ?_
        have j_37 : (1 : Int32).toNatClampNeg = 1 := m_cl (n := 5) rfl (by decide) (by decide)
        refine va_iald hx hb hK (ws := [(lr k, .inl (cy 0, 5, .inl (lv k)))]) (hP.one 2 rfl (Or.inr ⟨k, hk, rfl, rfl⟩)) 0 0 rfl rfl (m_in (n := 5) rfl (by decide) (by decide)) dL_law_672 ?_
        refine W.eq (g2 := F0 m 673 ls [.int (lv k 1)]) (by rw [j_37]) ?_
        refine W.eq (g2 := F0 m 673 ls [.int (hrE lv a i (j + 1))]) (by rw [hrE_s t1 (by omega)]) ?_
        refine lv_istore (lv' := [(21, .int (hrE lv a i (j + 1))), (23, .ref (lr k)), (22, .int (nI j)), (20, .int (lstE lv a i j)), (19, .int (nI i)), (18, .int 0), (17, .int 0), (16, .ref a_1), (0, .ref bs), (1, .int tm), (2, .ref gp), (3, .ref ob), (4, .int sp9), (7, .int tk9), (10, .int em9), (14, .int on9), (15, .int wt9)]) hx hb dL_law_673 hl (by decide) rfl (fun ls hl => ?_)
        refine lv_iload hx hb dL_law_675 (lv_at hl 3 rfl) ?_
        refine lv_aload hx hb dL_law_677 (lv_at hl 1 rfl) ?_
        refine lv_iconst (v := 2) hx hb dL_law_679 (by decide) ?_
        have j_38 : (2 : Int32).toNatClampNeg = 2 := m_cl (n := 5) rfl (by decide) (by decide)
        refine va_iald hx hb hK (ws := [(lr k, .inl (cy 0, 5, .inl (lv k)))]) (hP.one 2 rfl (Or.inr ⟨k, hk, rfl, rfl⟩)) 0 0 rfl rfl (m_in (n := 5) rfl (by decide) (by decide)) dL_law_680 ?_
        refine W.eq (g2 := F0 m 681 ls [.int (lv k 2), .int (lstE lv a i j)]) (by rw [j_38]) ?_
        refine lv_iadd hx hb dL_law_681 ?_
        refine W.eq (g2 := F0 m 682 ls [.int (lstE lv a i (j + 1))]) (by rw [lstE_s t1 (by omega)]) ?_
        refine lv_istore (lv' := [(20, .int (lstE lv a i (j + 1))), (21, .int (hrE lv a i (j + 1))), (23, .ref (lr k)), (22, .int (nI j)), (19, .int (nI i)), (18, .int 0), (17, .int 0), (16, .ref a_1), (0, .ref bs), (1, .int tm), (2, .ref gp), (3, .ref ob), (4, .int sp9), (7, .int tk9), (10, .int em9), (14, .int on9), (15, .int wt9)]) hx hb dL_law_682 hl (by decide) rfl (fun ls hl => ?_)
        refine lv_iinc (v := nI (j + 1)) (lv' := [(22, .int (nI (j + 1))), (20, .int (lstE lv a i (j + 1))), (21, .int (hrE lv a i (j + 1))), (23, .ref (lr k)), (19, .int (nI i)), (18, .int 0), (17, .int 0), (16, .ref a_1), (0, .ref bs), (1, .int tm), (2, .ref gp), (3, .ref ob), (4, .int sp9), (7, .int tk9), (10, .int em9), (14, .int on9), (15, .int wt9)]) hx hb dL_law_684 hl (k := 3) rfl (nI_1 j) (by decide) rfl (fun ls hl => ?_)
        refine lv_goto (tgt := 627) hx hb dL_law_687 (by decide) ?_
        exact ihj () _ _ ls ⟨hP, hS, lv_sub hl [0, 1, 2, 4, 5, 6, 7, 8, 9, 10, 11, 12, 13, 14, 15, 16] rfl⟩
