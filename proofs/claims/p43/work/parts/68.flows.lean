theorem tw_953 : Cond.fieldLink RL 117 "TurnpikeLaw$Roads" "flows" "I" ∈ tp_all := tp_mem 953 (by decide +kernel) rfl
theorem tw_451 : Cond.methodLink RL 120 yX8_ofFlow ∈ tp_all := tp_mem 451 (by decide +kernel) rfl
theorem tw_956 : Cond.fieldLink RL 123 "TurnpikeLaw$Roads" "flow" "[[I" ∈ tp_all := tp_mem 956 (by decide +kernel) rfl
theorem dL_law_737 : decode cL_law 737 = .ok (.iconst 0, 1) := by decide +kernel
theorem dL_law_738 : decode cL_law 738 = .ok (.istore 19, 2) := by decide +kernel
theorem dL_law_740 : decode cL_law 740 = .ok (.iload 19, 2) := by decide +kernel
theorem dL_law_742 : decode cL_law 742 = .ok (.aload_n 2, 1) := by decide +kernel
theorem dL_law_743 : decode cL_law 743 = .ok (.getfield 117, 3) := by decide +kernel
theorem dL_law_746 : decode cL_law 746 = .ok (.if_icmp .ge 99, 3) := by decide +kernel
theorem dL_law_749 : decode cL_law 749 = .ok (.iload 17, 2) := by decide +kernel
theorem dL_law_751 : decode cL_law 751 = .ok (.aload_n 3, 1) := by decide +kernel
theorem dL_law_752 : decode cL_law 752 = .ok (.iload 19, 2) := by decide +kernel
theorem dL_law_754 : decode cL_law 754 = .ok (.iconst 0, 1) := by decide +kernel
theorem dL_law_755 : decode cL_law 755 = .ok (.invokevirtual 120, 3) := by decide +kernel
theorem dL_law_758 : decode cL_law 758 = .ok (.iadd, 1) := by decide +kernel
theorem dL_law_759 : decode cL_law 759 = .ok (.istore 17, 2) := by decide +kernel
theorem dL_law_761 : decode cL_law 761 = .ok (.iload 18, 2) := by decide +kernel
theorem dL_law_763 : decode cL_law 763 = .ok (.aload_n 3, 1) := by decide +kernel
theorem dL_law_764 : decode cL_law 764 = .ok (.iload 19, 2) := by decide +kernel
theorem dL_law_766 : decode cL_law 766 = .ok (.iconst 1, 1) := by decide +kernel
theorem dL_law_767 : decode cL_law 767 = .ok (.invokevirtual 120, 3) := by decide +kernel
theorem dL_law_770 : decode cL_law 770 = .ok (.aload_n 3, 1) := by decide +kernel
theorem dL_law_771 : decode cL_law 771 = .ok (.iload 19, 2) := by decide +kernel
theorem dL_law_773 : decode cL_law 773 = .ok (.iconst 2, 1) := by decide +kernel
theorem dL_law_774 : decode cL_law 774 = .ok (.invokevirtual 120, 3) := by decide +kernel
theorem dL_law_777 : decode cL_law 777 = .ok (.iadd, 1) := by decide +kernel
theorem dL_law_778 : decode cL_law 778 = .ok (.iadd, 1) := by decide +kernel
theorem dL_law_779 : decode cL_law 779 = .ok (.istore 18, 2) := by decide +kernel
theorem dL_law_781 : decode cL_law 781 = .ok (.aload_n 3, 1) := by decide +kernel
theorem dL_law_782 : decode cL_law 782 = .ok (.iload 19, 2) := by decide +kernel
theorem dL_law_784 : decode cL_law 784 = .ok (.iconst 0, 1) := by decide +kernel
theorem dL_law_785 : decode cL_law 785 = .ok (.invokevirtual 120, 3) := by decide +kernel
theorem dL_law_788 : decode cL_law 788 = .ok (.aload_n 2, 1) := by decide +kernel
theorem dL_law_789 : decode cL_law 789 = .ok (.getfield 123, 3) := by decide +kernel
theorem dL_law_792 : decode cL_law 792 = .ok (.iload 19, 2) := by decide +kernel
theorem dL_law_794 : decode cL_law 794 = .ok (.aaload, 1) := by decide +kernel
theorem dL_law_795 : decode cL_law 795 = .ok (.iconst 5, 1) := by decide +kernel
theorem dL_law_796 : decode cL_law 796 = .ok (.iaload, 1) := by decide +kernel
theorem dL_law_797 : decode cL_law 797 = .ok (.if_icmp .gt 40, 3) := by decide +kernel
theorem dL_law_800 : decode cL_law 800 = .ok (.aload_n 3, 1) := by decide +kernel
theorem dL_law_801 : decode cL_law 801 = .ok (.iload 19, 2) := by decide +kernel
theorem dL_law_803 : decode cL_law 803 = .ok (.iconst 4, 1) := by decide +kernel
theorem dL_law_804 : decode cL_law 804 = .ok (.invokevirtual 120, 3) := by decide +kernel
theorem dL_law_807 : decode cL_law 807 = .ok (.aload_n 3, 1) := by decide +kernel
theorem dL_law_808 : decode cL_law 808 = .ok (.iload 19, 2) := by decide +kernel
theorem dL_law_810 : decode cL_law 810 = .ok (.iconst 3, 1) := by decide +kernel
theorem dL_law_811 : decode cL_law 811 = .ok (.invokevirtual 120, 3) := by decide +kernel
theorem dL_law_814 : decode cL_law 814 = .ok (.if_icmp .gt 23, 3) := by decide +kernel
theorem dL_law_817 : decode cL_law 817 = .ok (.aload_n 3, 1) := by decide +kernel
theorem dL_law_818 : decode cL_law 818 = .ok (.iload 19, 2) := by decide +kernel
theorem dL_law_820 : decode cL_law 820 = .ok (.iconst 1, 1) := by decide +kernel
theorem dL_law_821 : decode cL_law 821 = .ok (.invokevirtual 120, 3) := by decide +kernel
theorem dL_law_824 : decode cL_law 824 = .ok (.ifCond .ne 15, 3) := by decide +kernel
theorem dL_law_839 : decode cL_law 839 = .ok (.iinc 19 1, 3) := by decide +kernel
theorem dL_law_842 : decode cL_law 842 = .ok (.goto (-102), 3) := by decide +kernel
theorem dL_law_827 : decode cL_law 827 = .ok (.aload_n 3, 1) := by decide +kernel
theorem dL_law_828 : decode cL_law 828 = .ok (.iload 19, 2) := by decide +kernel
theorem dL_law_830 : decode cL_law 830 = .ok (.iconst 5, 1) := by decide +kernel
theorem dL_law_831 : decode cL_law 831 = .ok (.invokevirtual 120, 3) := by decide +kernel
theorem dL_law_834 : decode cL_law 834 = .ok (.ifCond .eq 5, 3) := by decide +kernel
theorem dL_law_845 : decode cL_law 845 = .ok (.aload 16, 2) := by decide +kernel
theorem dL_law_847 : decode cL_law 847 = .ok (.iconst 0, 1) := by decide +kernel
theorem dL_law_848 : decode cL_law 848 = .ok (.iaload, 1) := by decide +kernel
theorem dL_law_849 : decode cL_law 849 = .ok (.iload 15, 2) := by decide +kernel
theorem dL_law_851 : decode cL_law 851 = .ok (.if_icmp .ne 35, 3) := by decide +kernel
theorem dL_law_854 : decode cL_law 854 = .ok (.aload 16, 2) := by decide +kernel
theorem dL_law_856 : decode cL_law 856 = .ok (.iconst 1, 1) := by decide +kernel
theorem dL_law_857 : decode cL_law 857 = .ok (.iaload, 1) := by decide +kernel
theorem dL_law_858 : decode cL_law 858 = .ok (.iload 14, 2) := by decide +kernel
theorem dL_law_860 : decode cL_law 860 = .ok (.if_icmp .ne 26, 3) := by decide +kernel
theorem dL_law_863 : decode cL_law 863 = .ok (.iload 17, 2) := by decide +kernel
theorem dL_law_865 : decode cL_law 865 = .ok (.aload_n 3, 1) := by decide +kernel
theorem dL_law_866 : decode cL_law 866 = .ok (.invokevirtual 60, 3) := by decide +kernel
theorem dL_law_869 : decode cL_law 869 = .ok (.if_icmp .ne 17, 3) := by decide +kernel
theorem dL_law_872 : decode cL_law 872 = .ok (.iload 18, 2) := by decide +kernel
theorem dL_law_874 : decode cL_law 874 = .ok (.aload 16, 2) := by decide +kernel
theorem dL_law_876 : decode cL_law 876 = .ok (.iconst 2, 1) := by decide +kernel
theorem dL_law_877 : decode cL_law 877 = .ok (.iaload, 1) := by decide +kernel
theorem dL_law_878 : decode cL_law 878 = .ok (.aload 16, 2) := by decide +kernel
theorem dL_law_880 : decode cL_law 880 = .ok (.iconst 3, 1) := by decide +kernel
theorem dL_law_881 : decode cL_law 881 = .ok (.iaload, 1) := by decide +kernel
theorem dL_law_882 : decode cL_law 882 = .ok (.iadd, 1) := by decide +kernel
theorem dL_law_883 : decode cL_law 883 = .ok (.if_icmp .eq 5, 3) := by decide +kernel
theorem dL_law_888 : decode cL_law 888 = .ok (.iload 10, 2) := by decide +kernel
theorem dL_law_890 : decode cL_law 890 = .ok (.iload 7, 2) := by decide +kernel
theorem dL_law_892 : decode cL_law 892 = .ok (.if_icmp .ne 11, 3) := by decide +kernel
theorem dL_law_903 : decode cL_law 903 = .ok (.iload 14, 2) := by decide +kernel
theorem dL_law_905 : decode cL_law 905 = .ok (.iload 15, 2) := by decide +kernel
theorem dL_law_907 : decode cL_law 907 = .ok (.iadd, 1) := by decide +kernel
theorem dL_law_908 : decode cL_law 908 = .ok (.ifCond .ne 10, 3) := by decide +kernel
theorem dL_law_911 : decode cL_law 911 = .ok (.iload 10, 2) := by decide +kernel
theorem dL_law_913 : decode cL_law 913 = .ok (.ifCond .ge 5, 3) := by decide +kernel
theorem dL_law_895 : decode cL_law 895 = .ok (.iload 14, 2) := by decide +kernel
theorem dL_law_897 : decode cL_law 897 = .ok (.iload 15, 2) := by decide +kernel
theorem dL_law_899 : decode cL_law 899 = .ok (.iadd, 1) := by decide +kernel
theorem dL_law_900 : decode cL_law 900 = .ok (.ifCond .ne 16, 3) := by decide +kernel
set_option maxRecDepth 100000 in
set_option maxHeartbeats 4000000 in
/-- the checks of the flows -/
theorem lx_flows {p : Program} {l : Launch} {e : Env} {s : State} {m : MethodId} {below : List Frame} {meth : Method} {c : Code} {A : Nat → Prop} {dC : Nat → ClassId} {dI : Nat → Nat → Nat} {cy : Nat → ClassId} {bs Ls : Nat} {xs : Nat → Int32} {Q : State → Prop} {cells slots : Nat} (C1 : lx_At p s m meth c A bs Ls xs dC dI cy) (hcells : cells ≤ 590000) (hslots : slots ≤ 7040000) {gp : Nat} {ob : Nat} {qf : Nat → Nat} {d : Nat} {nd : Nat} {nl : Nat} {nf : Nat} {lr : Nat → Nat} {lv : Tb} {fr9 : Nat → Nat} {fv : Tb} {K : Lay} {s0 : Nat} {Lt : Lay} {a : St} {κ : Kap} {τ : Tau} {b : St} {κt : Kap} {τt : Tau} {M : Nat} {ck : Nat} (hT : TL K (some s0) τ) (hw : Wf M a) (hM : M < 20000) (hTR : TRab (some s0) a τ) (hchk : Chk nd nl nf lv fv ck a) (hnd : nd ≤ 12) (hnl : nl ≤ 24) (hnf : nf ≤ 10) (tm : Int32) (sp9 : Int32) (tk9 : Int32) (em9 : Int32) (on9 : Int32) (wt9 : Int32) (sa : Nat) (y9 : Nat → Int32) (H : Heap) (locs : List Loc) (ls : Array Slot) (hP : ms (dC, dI) vwCl A [(fun q e => TW cy K (some s0) a κ τ q e ∨ oW ob (K 0 0) (Lt 0 0) q e), cel gp (gO ob bs qf d nd nl nf), rwW cy 24 5 (qf 0) lr lv nl, rwW cy 10 6 (qf 9) fr9 fv nf, (TW cy Lt none b κt τt), cel sa (.inl (cy 0, 4, .inl (y9)))] H) (hS : va_S A s.heap H locs) (hl : lv_has ls 24 [(0, .ref bs), (1, .int tm), (2, .ref gp), (3, .ref ob), (4, .int sp9), (7, .int tk9), (10, .int em9), (14, .int on9), (15, .int wt9), (16, .ref sa), (17, .int 0), (18, .int 0)]) (kk : ∀ (H : Heap) (locs : List Loc) (ls : Array Slot), ms (dC, dI) vwCl A [(fun q e => TW cy K (some s0) a κ τ q e ∨ oW ob (K 0 0) (Lt 0 0) q e), cel gp (gO ob bs qf d nd nl nf), rwW cy 24 5 (qf 0) lr lv nl, rwW cy 10 6 (qf 9) fr9 fv nf, (TW cy Lt none b κt τt), cel sa (.inl (cy 0, 4, .inl (y9)))] H → va_S A s.heap H locs → lv_has ls 24 [(0, .ref bs), (1, .int tm), (2, .ref gp), (3, .ref ob), (4, .int sp9), (7, .int tk9), (10, .int em9), (14, .int on9), (15, .int wt9), (16, .ref sa), (17, .int (sumI (fun f => a 14 f 6) nf)), (18, .int (sumI (fun f => a 14 f 7 + a 14 f 8) nf))] → W p l e room_1 s m #[.ref bs] below meth c H locs (cells) (slots) Q (F0 m 845 ls [])) : W p l e room_1 s m #[.ref bs] below meth c H locs cells slots Q (F0 m 737 ls []) := by
  obtain ⟨hx, hb, hr, hml, hown, hts, hX, hbl, hbL, hlocks, hK, hE, hA, hbA⟩ := C1
  have hl : lv_has ls 24 [(0, .ref bs), (1, .int tm), (2, .ref gp), (3, .ref ob), (4, .int sp9), (7, .int tk9), (10, .int em9), (14, .int on9), (15, .int wt9), (16, .ref sa), (17, .int 0), (18, .int 0)] := hl
  refine lv_iconst (v := 0) hx hb dL_law_737 (by decide) ?_
  refine lv_istore (lv' := [(19, .int 0), (0, .ref bs), (1, .int tm), (2, .ref gp), (3, .ref ob), (4, .int sp9), (7, .int tk9), (10, .int em9), (14, .int on9), (15, .int wt9), (16, .ref sa), (17, .int 0), (18, .int 0)]) hx hb dL_law_738 hl (by decide) rfl (fun ls hl => ?_)
  refine tp_for (σ := Unit) nf (fun _ => cells) (fun _ => slots) (fun (i : Nat) (_ : Unit) (H : Heap) (locs : List Loc) (ls : Array Slot) => ms (dC, dI) vwCl A [(fun q e => TW cy K (some s0) a κ τ q e ∨ oW ob (K 0 0) (Lt 0 0) q e), cel gp (gO ob bs qf d nd nl nf), rwW cy 24 5 (qf 0) lr lv nl, rwW cy 10 6 (qf 9) fr9 fv nf, (TW cy Lt none b κt τt), cel sa (.inl (cy 0, 4, .inl (y9)))] H ∧ va_S A s.heap H locs ∧ lv_has ls 24 [(19, .int (nI i)), (17, .int (sumI (fun f => a 14 f 6) i)), (18, .int (sumI (fun f => a 14 f 7 + a 14 f 8) i)), (0, .ref bs), (1, .int tm), (2, .ref gp), (3, .ref ob), (4, .int sp9), (7, .int tk9), (10, .int em9), (14, .int on9), (15, .int wt9), (16, .ref sa)]) ?_ ?_ nf 0 (Nat.zero_add _) () _ _ ls ⟨hP, hS, lv_sub hl [0, 11, 12, 1, 2, 3, 4, 5, 6, 7, 8, 9, 10] rfl⟩
  · rintro _ H locs ls ⟨hP, hS, hl⟩
    have hl : lv_has ls 24 [(19, .int (nI nf)), (17, .int (sumI (fun f => a 14 f 6) nf)), (18, .int (sumI (fun f => a 14 f 7 + a 14 f 8) nf)), (0, .ref bs), (1, .int tm), (2, .ref gp), (3, .ref ob), (4, .int sp9), (7, .int tk9), (10, .int em9), (14, .int on9), (15, .int wt9), (16, .ref sa)] := hl
    show W _ _ _ _ _ _ _ _ _ _ _ _ (cells) (slots) _ _
    refine lv_iload hx hb dL_law_740 (lv_at hl 0 rfl) ?_
    refine lv_aload_n hx hb dL_law_742 rfl (lv_at hl 5 rfl) ?_
    refine va_get (D := (dC, dI)) (ws := [(gp, .inr (9, [.ref ob, .ref bs, .int (nI d), .int (nI nd), .int 0, .int 1, .int (nI nl), .ref (qf 0), .ref (qf 1), .ref (qf 2), .ref (qf 3), .ref (qf 4), .ref (qf 5), .ref (qf 6), .ref (qf 7), .ref (qf 8), .int (nI nf), .ref (qf 9), .int 0, .ref (qf 10), .ref (qf 11), .ref (qf 12), .ref (qf 13), .ref (qf 14), .ref (qf 15)]))]) (ci := 9) (v := .int (nI nf)) (C := RX9) (T := TX9) (N := 25) hx hb hts tl_X9 hown hK (hP.one 1 rfl cel_in) 0 rfl rfl 16 (by decide) (hts _ tw_953) (fun _ h9 => h9) rfl dL_law_743 ?_
    refine lv_icmp_ge (tgt := 845) hx hb dL_law_746 (by decide) (fun _ => ?_) (fun c_1 => absurd (Int32.le_refl _) c_1)
    exact kk _ _ ls hP hS (lv_sub hl [3, 4, 5, 6, 7, 8, 9, 10, 11, 12, 1, 2] rfl)
  · rintro i _ H locs ls hi ⟨hP, hS, hl⟩ ihi
    have hl : lv_has ls 24 [(19, .int (nI i)), (17, .int (sumI (fun f => a 14 f 6) i)), (18, .int (sumI (fun f => a 14 f 7 + a 14 f 8) i)), (0, .ref bs), (1, .int tm), (2, .ref gp), (3, .ref ob), (4, .int sp9), (7, .int tk9), (10, .int em9), (14, .int on9), (15, .int wt9), (16, .ref sa)] := hl
    show W _ _ _ _ _ _ _ _ _ _ _ _ (cells) (slots) _ _
    obtain ⟨e1, e2, e3⟩ := hchk.2.2.2.2.1 i hi
    have hno : ¬ F_no a (nI i) := chk_nof hchk.1 hi hnf
    refine lv_iload hx hb dL_law_740 (lv_at hl 0 rfl) ?_
    refine lv_aload_n hx hb dL_law_742 rfl (lv_at hl 5 rfl) ?_
    refine va_get (D := (dC, dI)) (ws := [(gp, .inr (9, [.ref ob, .ref bs, .int (nI d), .int (nI nd), .int 0, .int 1, .int (nI nl), .ref (qf 0), .ref (qf 1), .ref (qf 2), .ref (qf 3), .ref (qf 4), .ref (qf 5), .ref (qf 6), .ref (qf 7), .ref (qf 8), .int (nI nf), .ref (qf 9), .int 0, .ref (qf 10), .ref (qf 11), .ref (qf 12), .ref (qf 13), .ref (qf 14), .ref (qf 15)]))]) (ci := 9) (v := .int (nI nf)) (C := RX9) (T := TX9) (N := 25) hx hb hts tl_X9 hown hK (hP.one 1 rfl cel_in) 0 rfl rfl 16 (by decide) (hts _ tw_953) (fun _ h9 => h9) rfl dL_law_743 ?_
    refine lv_icmp_ge (tgt := 845) hx hb dL_law_746 (by decide) (fun c_2 => absurd c_2 (nI_ge hi (by omega))) (fun _ => ?_)
    refine lv_iload hx hb dL_law_749 (lv_at hl 1 rfl) ?_
    refine lv_aload_n hx hb dL_law_751 rfl (lv_at hl 6 rfl) ?_
    refine lv_iload hx hb dL_law_752 (lv_at hl 0 rfl) ?_
    refine lv_iconst (v := 0) hx hb dL_law_754 (by decide) ?_
    have hFc := m_free (C := (fun q e => TW cy K (some s0) a κ τ q e ∨ oW ob (K 0 0) (Lt 0 0) q e)) hP.1 hS hA (fun _ _ h => any_in (i := 0) rfl h)
    refine va_calli (va_runV (As := [.int (nI i), .int 0]) (rest := [.int (sumI (fun f => a 14 f 6) i)]) ⟨hx, hb, hml, hown, hts⟩ (c_ofFlow l dC dI cy K ((some s0)) a κ τ ob ((Lt 0 0)) M (nI i) 0 H.size hT hw hno (by decide)) (tp_cwV 2 hts tw_451 tw_452 tw_453 tw_20 tw_454 rfl rfl (by decide +kernel) ⟨Nat.le_of_ble_eq_true rfl, Nat.le_of_ble_eq_true rfl⟩) ⟨m_blind, va_recv hK (hP.one (e := .inr (8, [.ref (K 0 0), .ref (Lt 0 0)])) 0 rfl (Or.inr oW_mem)) (ci := 8) (q0 := 0) rfl rfl, fun U hU hW => ⟨rfl, m_pay hK hP.1 hE (fun _ _ h => any_in (i := 0) rfl h) U hU hW⟩⟩ rfl rfl hl.1 rfl (lv_room (Nat.le_of_ble_eq_true rfl)) dL_law_755 ⟨(by show cells + 0 ≤ 600074; omega), (by show slots + 0 ≤ 7301550; omega)⟩) hS (fun q _ h => hFc q h) hFc (fun r_3 u t H1 locs ht hvm hpo hB hz1 hk1 hS => ?_)
    obtain rfl := hpo
    obtain ⟨f_4, hP1⟩ := hB
    subst f_4
    rw [ht] at hP1
    have hP : ms (dC, dI) vwCl A [(fun q e => TW cy K (some s0) a κ τ q e ∨ oW ob (K 0 0) (Lt 0 0) q e), cel gp (gO ob bs qf d nd nl nf), rwW cy 24 5 (qf 0) lr lv nl, rwW cy 10 6 (qf 9) fr9 fv nf, (TW cy Lt none b κt τt), cel sa (.inl (cy 0, 4, .inl (y9)))] H1 := hP.call 0 rfl hk1 hFc hP1
    clear hP1 hk1 hFc
    generalize H1 = H at hP hS ⊢
    refine W.eq (g2 := F0 m 758 ls [.int (a 14 i (6 + 0)), .int (sumI (fun f => a 14 f 6) i)]) (by rw [nI_clamp (by omega)]) ?_
    refine lv_iadd hx hb dL_law_758 ?_
    refine lv_istore (lv' := [(17, .int ((sumI (fun f => a 14 f 6) i) + (a 14 i (6 + 0)))), (19, .int (nI i)), (18, .int (sumI (fun f => a 14 f 7 + a 14 f 8) i)), (0, .ref bs), (1, .int tm), (2, .ref gp), (3, .ref ob), (4, .int sp9), (7, .int tk9), (10, .int em9), (14, .int on9), (15, .int wt9), (16, .ref sa)]) hx hb dL_law_759 hl (by decide) rfl (fun ls hl => ?_)
    refine lv_iload hx hb dL_law_761 (lv_at hl 2 rfl) ?_
    refine lv_aload_n hx hb dL_law_763 rfl (lv_at hl 6 rfl) ?_
    refine lv_iload hx hb dL_law_764 (lv_at hl 1 rfl) ?_
    refine lv_iconst (v := 1) hx hb dL_law_766 (by decide) ?_
    have hFc := m_free (C := (fun q e => TW cy K (some s0) a κ τ q e ∨ oW ob (K 0 0) (Lt 0 0) q e)) hP.1 hS hA (fun _ _ h => any_in (i := 0) rfl h)
    refine va_calli (va_runV (As := [.int (nI i), .int 1]) (rest := [.int (sumI (fun f => a 14 f 7 + a 14 f 8) i)]) ⟨hx, hb, hml, hown, hts⟩ (c_ofFlow l dC dI cy K ((some s0)) a κ τ ob ((Lt 0 0)) M (nI i) 1 H.size hT hw hno (by decide)) (tp_cwV 2 hts tw_451 tw_452 tw_453 tw_20 tw_454 rfl rfl (by decide +kernel) ⟨Nat.le_of_ble_eq_true rfl, Nat.le_of_ble_eq_true rfl⟩) ⟨m_blind, va_recv hK (hP.one (e := .inr (8, [.ref (K 0 0), .ref (Lt 0 0)])) 0 rfl (Or.inr oW_mem)) (ci := 8) (q0 := 0) rfl rfl, fun U hU hW => ⟨rfl, m_pay hK hP.1 hE (fun _ _ h => any_in (i := 0) rfl h) U hU hW⟩⟩ rfl rfl hl.1 rfl (lv_room (Nat.le_of_ble_eq_true rfl)) dL_law_767 ⟨(by show cells + 0 + 0 ≤ 600074; omega), (by show slots + 0 + 0 ≤ 7301550; omega)⟩) hS (fun q _ h => hFc q h) hFc (fun r_5 u t H1 locs ht hvm hpo hB hz1 hk1 hS => ?_)
    obtain rfl := hpo
    obtain ⟨f_6, hP1⟩ := hB
    subst f_6
    rw [ht] at hP1
    have hP : ms (dC, dI) vwCl A [(fun q e => TW cy K (some s0) a κ τ q e ∨ oW ob (K 0 0) (Lt 0 0) q e), cel gp (gO ob bs qf d nd nl nf), rwW cy 24 5 (qf 0) lr lv nl, rwW cy 10 6 (qf 9) fr9 fv nf, (TW cy Lt none b κt τt), cel sa (.inl (cy 0, 4, .inl (y9)))] H1 := hP.call 0 rfl hk1 hFc hP1
    clear hP1 hk1 hFc
    generalize H1 = H at hP hS ⊢
    refine W.eq (g2 := F0 m 770 ls [.int (a 14 i (6 + 1)), .int (sumI (fun f => a 14 f 7 + a 14 f 8) i)]) (by rw [nI_clamp (by omega)]) ?_
    refine lv_aload_n hx hb dL_law_770 rfl (lv_at hl 6 rfl) ?_
    refine lv_iload hx hb dL_law_771 (lv_at hl 1 rfl) ?_
    refine lv_iconst (v := 2) hx hb dL_law_773 (by decide) ?_
    have hFc := m_free (C := (fun q e => TW cy K (some s0) a κ τ q e ∨ oW ob (K 0 0) (Lt 0 0) q e)) hP.1 hS hA (fun _ _ h => any_in (i := 0) rfl h)
    refine va_calli (va_runV (As := [.int (nI i), .int 2]) (rest := [.int (a 14 i (6 + 1)), .int (sumI (fun f => a 14 f 7 + a 14 f 8) i)]) ⟨hx, hb, hml, hown, hts⟩ (c_ofFlow l dC dI cy K ((some s0)) a κ τ ob ((Lt 0 0)) M (nI i) 2 H.size hT hw hno (by decide)) (tp_cwV 2 hts tw_451 tw_452 tw_453 tw_20 tw_454 rfl rfl (by decide +kernel) ⟨Nat.le_of_ble_eq_true rfl, Nat.le_of_ble_eq_true rfl⟩) ⟨m_blind, va_recv hK (hP.one (e := .inr (8, [.ref (K 0 0), .ref (Lt 0 0)])) 0 rfl (Or.inr oW_mem)) (ci := 8) (q0 := 0) rfl rfl, fun U hU hW => ⟨rfl, m_pay hK hP.1 hE (fun _ _ h => any_in (i := 0) rfl h) U hU hW⟩⟩ rfl rfl hl.1 rfl (lv_room (Nat.le_of_ble_eq_true rfl)) dL_law_774 ⟨(by show cells + 0 + 0 + 0 ≤ 600074; omega), (by show slots + 0 + 0 + 0 ≤ 7301550; omega)⟩) hS (fun q _ h => hFc q h) hFc (fun r_7 u t H1 locs ht hvm hpo hB hz1 hk1 hS => ?_)
    obtain rfl := hpo
    obtain ⟨f_8, hP1⟩ := hB
    subst f_8
    rw [ht] at hP1
    have hP : ms (dC, dI) vwCl A [(fun q e => TW cy K (some s0) a κ τ q e ∨ oW ob (K 0 0) (Lt 0 0) q e), cel gp (gO ob bs qf d nd nl nf), rwW cy 24 5 (qf 0) lr lv nl, rwW cy 10 6 (qf 9) fr9 fv nf, (TW cy Lt none b κt τt), cel sa (.inl (cy 0, 4, .inl (y9)))] H1 := hP.call 0 rfl hk1 hFc hP1
    clear hP1 hk1 hFc
    generalize H1 = H at hP hS ⊢
    refine W.eq (g2 := F0 m 777 ls [.int (a 14 i (6 + 2)), .int (a 14 i (6 + 1)), .int (sumI (fun f => a 14 f 7 + a 14 f 8) i)]) (by rw [nI_clamp (by omega)]) ?_
    refine lv_iadd hx hb dL_law_777 ?_
    refine lv_iadd hx hb dL_law_778 ?_
    refine lv_istore (lv' := [(18, .int ((sumI (fun f => a 14 f 7 + a 14 f 8) i) + ((a 14 i (6 + 1)) + (a 14 i (6 + 2))))), (17, .int ((sumI (fun f => a 14 f 6) i) + (a 14 i (6 + 0)))), (19, .int (nI i)), (0, .ref bs), (1, .int tm), (2, .ref gp), (3, .ref ob), (4, .int sp9), (7, .int tk9), (10, .int em9), (14, .int on9), (15, .int wt9), (16, .ref sa)]) hx hb dL_law_779 hl (by decide) rfl (fun ls hl => ?_)
    refine lv_aload_n hx hb dL_law_781 rfl (lv_at hl 6 rfl) ?_
    refine lv_iload hx hb dL_law_782 (lv_at hl 2 rfl) ?_
    refine lv_iconst (v := 0) hx hb dL_law_784 (by decide) ?_
    have hFc := m_free (C := (fun q e => TW cy K (some s0) a κ τ q e ∨ oW ob (K 0 0) (Lt 0 0) q e)) hP.1 hS hA (fun _ _ h => any_in (i := 0) rfl h)
    refine va_calli (va_runV (As := [.int (nI i), .int 0]) (rest := []) ⟨hx, hb, hml, hown, hts⟩ (c_ofFlow l dC dI cy K ((some s0)) a κ τ ob ((Lt 0 0)) M (nI i) 0 H.size hT hw hno (by decide)) (tp_cwV 2 hts tw_451 tw_452 tw_453 tw_20 tw_454 rfl rfl (by decide +kernel) ⟨Nat.le_of_ble_eq_true rfl, Nat.le_of_ble_eq_true rfl⟩) ⟨m_blind, va_recv hK (hP.one (e := .inr (8, [.ref (K 0 0), .ref (Lt 0 0)])) 0 rfl (Or.inr oW_mem)) (ci := 8) (q0 := 0) rfl rfl, fun U hU hW => ⟨rfl, m_pay hK hP.1 hE (fun _ _ h => any_in (i := 0) rfl h) U hU hW⟩⟩ rfl rfl hl.1 rfl (lv_room (Nat.le_of_ble_eq_true rfl)) dL_law_785 ⟨(by show cells + 0 + 0 + 0 + 0 ≤ 600074; omega), (by show slots + 0 + 0 + 0 + 0 ≤ 7301550; omega)⟩) hS (fun q _ h => hFc q h) hFc (fun r_9 u t H1 locs ht hvm hpo hB hz1 hk1 hS => ?_)
    obtain rfl := hpo
    obtain ⟨f_10, hP1⟩ := hB
    subst f_10
    rw [ht] at hP1
    have hP : ms (dC, dI) vwCl A [(fun q e => TW cy K (some s0) a κ τ q e ∨ oW ob (K 0 0) (Lt 0 0) q e), cel gp (gO ob bs qf d nd nl nf), rwW cy 24 5 (qf 0) lr lv nl, rwW cy 10 6 (qf 9) fr9 fv nf, (TW cy Lt none b κt τt), cel sa (.inl (cy 0, 4, .inl (y9)))] H1 := hP.call 0 rfl hk1 hFc hP1
    clear hP1 hk1 hFc
    generalize H1 = H at hP hS ⊢
    refine W.eq (g2 := F0 m 788 ls [.int (a 14 i (6 + 0))]) (by rw [nI_clamp (by omega)]) ?_
    refine lv_aload_n hx hb dL_law_788 rfl (lv_at hl 5 rfl) ?_
    refine va_get (D := (dC, dI)) (ws := [(gp, .inr (9, [.ref ob, .ref bs, .int (nI d), .int (nI nd), .int 0, .int 1, .int (nI nl), .ref (qf 0), .ref (qf 1), .ref (qf 2), .ref (qf 3), .ref (qf 4), .ref (qf 5), .ref (qf 6), .ref (qf 7), .ref (qf 8), .int (nI nf), .ref (qf 9), .int 0, .ref (qf 10), .ref (qf 11), .ref (qf 12), .ref (qf 13), .ref (qf 14), .ref (qf 15)]))]) (ci := 9) (v := .ref (qf 9)) (C := RX9) (T := TX9) (N := 25) hx hb hts tl_X9 hown hK (hP.one 1 rfl cel_in) 0 rfl rfl 17 (by decide) (hts _ tw_956) (fun _ h9 => h9) rfl dL_law_789 ?_
    refine lv_iload hx hb dL_law_792 (lv_at hl 2 rfl) ?_
    have j_11 : (nI i : Int32).toNatClampNeg = i := m_cl (n := 10) rfl (by omega) (by decide)
    refine m_aldA hx hb hK (ws := [(qf 9, arQ (cy 8) 10 (fun j => if j < nf then some (fr9 j) else none))]) (hP.one 3 rfl (Or.inl ⟨rfl, rfl⟩)) 0 8 rfl rfl (m_in (n := 10) rfl (by omega) (by decide)) dL_law_794 ?_
    refine W.eq (g2 := F0 m 795 ls [.ref (fr9 i), .int (a 14 i (6 + 0))]) (by rw [j_11, if_pos hi]; rfl) ?_
    refine lv_iconst (v := 5) hx hb dL_law_795 (by decide) ?_
    have j_12 : (5 : Int32).toNatClampNeg = 5 := m_cl (n := 6) rfl (by decide) (by decide)
    refine va_iald hx hb hK (ws := [(fr9 i, .inl (cy 0, 6, .inl (fv i)))]) (hP.one 3 rfl (Or.inr ⟨i, hi, rfl, rfl⟩)) 0 0 rfl rfl (m_in (n := 6) rfl (by decide) (by decide)) dL_law_796 ?_
    refine W.eq (g2 := F0 m 797 ls [.int (fv i 5), .int (a 14 i (6 + 0))]) (by rw [j_12]) ?_
    refine lv_icmp_gt (tgt := 837) hx hb dL_law_797 (by decide) (fun c_13 => absurd c_13 (Int32.not_lt.mpr e1)) (fun _ => ?_)
    refine lv_aload_n hx hb dL_law_800 rfl (lv_at hl 6 rfl) ?_
    refine lv_iload hx hb dL_law_801 (lv_at hl 2 rfl) ?_
    refine lv_iconst (v := 4) hx hb dL_law_803 (by decide) ?_
    have hFc := m_free (C := (fun q e => TW cy K (some s0) a κ τ q e ∨ oW ob (K 0 0) (Lt 0 0) q e)) hP.1 hS hA (fun _ _ h => any_in (i := 0) rfl h)
    refine va_calli (va_runV (As := [.int (nI i), .int 4]) (rest := []) ⟨hx, hb, hml, hown, hts⟩ (c_ofFlow l dC dI cy K ((some s0)) a κ τ ob ((Lt 0 0)) M (nI i) 4 H.size hT hw hno (by decide)) (tp_cwV 2 hts tw_451 tw_452 tw_453 tw_20 tw_454 rfl rfl (by decide +kernel) ⟨Nat.le_of_ble_eq_true rfl, Nat.le_of_ble_eq_true rfl⟩) ⟨m_blind, va_recv hK (hP.one (e := .inr (8, [.ref (K 0 0), .ref (Lt 0 0)])) 0 rfl (Or.inr oW_mem)) (ci := 8) (q0 := 0) rfl rfl, fun U hU hW => ⟨rfl, m_pay hK hP.1 hE (fun _ _ h => any_in (i := 0) rfl h) U hU hW⟩⟩ rfl rfl hl.1 rfl (lv_room (Nat.le_of_ble_eq_true rfl)) dL_law_804 ⟨(by show cells + 0 + 0 + 0 + 0 + 0 ≤ 600074; omega), (by show slots + 0 + 0 + 0 + 0 + 0 ≤ 7301550; omega)⟩) hS (fun q _ h => hFc q h) hFc (fun r_14 u t H1 locs ht hvm hpo hB hz1 hk1 hS => ?_)
    obtain rfl := hpo
    obtain ⟨f_15, hP1⟩ := hB
    subst f_15
    rw [ht] at hP1
    have hP : ms (dC, dI) vwCl A [(fun q e => TW cy K (some s0) a κ τ q e ∨ oW ob (K 0 0) (Lt 0 0) q e), cel gp (gO ob bs qf d nd nl nf), rwW cy 24 5 (qf 0) lr lv nl, rwW cy 10 6 (qf 9) fr9 fv nf, (TW cy Lt none b κt τt), cel sa (.inl (cy 0, 4, .inl (y9)))] H1 := hP.call 0 rfl hk1 hFc hP1
    clear hP1 hk1 hFc
    generalize H1 = H at hP hS ⊢
    refine W.eq (g2 := F0 m 807 ls [.int (a 14 i (6 + 4))]) (by rw [nI_clamp (by omega)]) ?_
    refine lv_aload_n hx hb dL_law_807 rfl (lv_at hl 6 rfl) ?_
    refine lv_iload hx hb dL_law_808 (lv_at hl 2 rfl) ?_
    refine lv_iconst (v := 3) hx hb dL_law_810 (by decide) ?_
    have hFc := m_free (C := (fun q e => TW cy K (some s0) a κ τ q e ∨ oW ob (K 0 0) (Lt 0 0) q e)) hP.1 hS hA (fun _ _ h => any_in (i := 0) rfl h)
    refine va_calli (va_runV (As := [.int (nI i), .int 3]) (rest := [.int (a 14 i (6 + 4))]) ⟨hx, hb, hml, hown, hts⟩ (c_ofFlow l dC dI cy K ((some s0)) a κ τ ob ((Lt 0 0)) M (nI i) 3 H.size hT hw hno (by decide)) (tp_cwV 2 hts tw_451 tw_452 tw_453 tw_20 tw_454 rfl rfl (by decide +kernel) ⟨Nat.le_of_ble_eq_true rfl, Nat.le_of_ble_eq_true rfl⟩) ⟨m_blind, va_recv hK (hP.one (e := .inr (8, [.ref (K 0 0), .ref (Lt 0 0)])) 0 rfl (Or.inr oW_mem)) (ci := 8) (q0 := 0) rfl rfl, fun U hU hW => ⟨rfl, m_pay hK hP.1 hE (fun _ _ h => any_in (i := 0) rfl h) U hU hW⟩⟩ rfl rfl hl.1 rfl (lv_room (Nat.le_of_ble_eq_true rfl)) dL_law_811 ⟨(by show cells + 0 + 0 + 0 + 0 + 0 + 0 ≤ 600074; omega), (by show slots + 0 + 0 + 0 + 0 + 0 + 0 ≤ 7301550; omega)⟩) hS (fun q _ h => hFc q h) hFc (fun r_16 u t H1 locs ht hvm hpo hB hz1 hk1 hS => ?_)
    obtain rfl := hpo
    obtain ⟨f_17, hP1⟩ := hB
    subst f_17
    rw [ht] at hP1
    have hP : ms (dC, dI) vwCl A [(fun q e => TW cy K (some s0) a κ τ q e ∨ oW ob (K 0 0) (Lt 0 0) q e), cel gp (gO ob bs qf d nd nl nf), rwW cy 24 5 (qf 0) lr lv nl, rwW cy 10 6 (qf 9) fr9 fv nf, (TW cy Lt none b κt τt), cel sa (.inl (cy 0, 4, .inl (y9)))] H1 := hP.call 0 rfl hk1 hFc hP1
    clear hP1 hk1 hFc
    generalize H1 = H at hP hS ⊢
    refine W.eq (g2 := F0 m 814 ls [.int (a 14 i (6 + 3)), .int (a 14 i (6 + 4))]) (by rw [nI_clamp (by omega)]) ?_
    refine lv_icmp_gt (tgt := 837) hx hb dL_law_814 (by decide) (fun c_18 => absurd c_18 (Int32.not_lt.mpr e2)) (fun _ => ?_)
    refine lv_aload_n hx hb dL_law_817 rfl (lv_at hl 6 rfl) ?_
    refine lv_iload hx hb dL_law_818 (lv_at hl 2 rfl) ?_
    refine lv_iconst (v := 1) hx hb dL_law_820 (by decide) ?_
    have hFc := m_free (C := (fun q e => TW cy K (some s0) a κ τ q e ∨ oW ob (K 0 0) (Lt 0 0) q e)) hP.1 hS hA (fun _ _ h => any_in (i := 0) rfl h)
    refine va_calli (va_runV (As := [.int (nI i), .int 1]) (rest := []) ⟨hx, hb, hml, hown, hts⟩ (c_ofFlow l dC dI cy K ((some s0)) a κ τ ob ((Lt 0 0)) M (nI i) 1 H.size hT hw hno (by decide)) (tp_cwV 2 hts tw_451 tw_452 tw_453 tw_20 tw_454 rfl rfl (by decide +kernel) ⟨Nat.le_of_ble_eq_true rfl, Nat.le_of_ble_eq_true rfl⟩) ⟨m_blind, va_recv hK (hP.one (e := .inr (8, [.ref (K 0 0), .ref (Lt 0 0)])) 0 rfl (Or.inr oW_mem)) (ci := 8) (q0 := 0) rfl rfl, fun U hU hW => ⟨rfl, m_pay hK hP.1 hE (fun _ _ h => any_in (i := 0) rfl h) U hU hW⟩⟩ rfl rfl hl.1 rfl (lv_room (Nat.le_of_ble_eq_true rfl)) dL_law_821 ⟨(by show cells + 0 + 0 + 0 + 0 + 0 + 0 + 0 ≤ 600074; omega), (by show slots + 0 + 0 + 0 + 0 + 0 + 0 + 0 ≤ 7301550; omega)⟩) hS (fun q _ h => hFc q h) hFc (fun r_19 u t H1 locs ht hvm hpo hB hz1 hk1 hS => ?_)
    obtain rfl := hpo
    obtain ⟨f_20, hP1⟩ := hB
    subst f_20
    rw [ht] at hP1
    have hP : ms (dC, dI) vwCl A [(fun q e => TW cy K (some s0) a κ τ q e ∨ oW ob (K 0 0) (Lt 0 0) q e), cel gp (gO ob bs qf d nd nl nf), rwW cy 24 5 (qf 0) lr lv nl, rwW cy 10 6 (qf 9) fr9 fv nf, (TW cy Lt none b κt τt), cel sa (.inl (cy 0, 4, .inl (y9)))] H1 := hP.call 0 rfl hk1 hFc hP1
    clear hP1 hk1 hFc
    generalize H1 = H at hP hS ⊢
    refine W.eq (g2 := F0 m 824 ls [.int (a 14 i (6 + 1))]) (by rw [nI_clamp (by omega)]) ?_
    refine lv_if_ne (tgt := 839) hx hb dL_law_824 (by decide) (fun c_21 => ?_) (fun c_21 => ?_)
    · refine lv_iinc (v := nI (i + 1)) (lv' := [(19, .int (nI (i + 1))), (18, .int ((sumI (fun f => a 14 f 7 + a 14 f 8) i) + ((a 14 i (6 + 1)) + (a 14 i (6 + 2))))), (17, .int ((sumI (fun f => a 14 f 6) i) + (a 14 i (6 + 0)))), (0, .ref bs), (1, .int tm), (2, .ref gp), (3, .ref ob), (4, .int sp9), (7, .int tk9), (10, .int em9), (14, .int on9), (15, .int wt9), (16, .ref sa)]) hx hb dL_law_839 hl (k := 2) rfl (nI_1 i) (by decide) rfl (fun ls hl => ?_)
      refine lv_goto (tgt := 740) hx hb dL_law_842 (by decide) ?_
      exact ihi () _ _ ls ⟨hP, hS, lv_sub hl [0, 2, 1, 3, 4, 5, 6, 7, 8, 9, 10, 11, 12] rfl⟩
    · refine lv_aload_n hx hb dL_law_827 rfl (lv_at hl 6 rfl) ?_
      refine lv_iload hx hb dL_law_828 (lv_at hl 2 rfl) ?_
      refine lv_iconst (v := 5) hx hb dL_law_830 (by decide) ?_
      have hFc := m_free (C := (fun q e => TW cy K (some s0) a κ τ q e ∨ oW ob (K 0 0) (Lt 0 0) q e)) hP.1 hS hA (fun _ _ h => any_in (i := 0) rfl h)
      refine va_calli (va_runV (As := [.int (nI i), .int 5]) (rest := []) ⟨hx, hb, hml, hown, hts⟩ (c_ofFlow l dC dI cy K ((some s0)) a κ τ ob ((Lt 0 0)) M (nI i) 5 H.size hT hw (by first | assumption | omega) (by first | assumption | omega)) (tp_cwV 2 hts tw_451 tw_452 tw_453 tw_20 tw_454 rfl rfl (by decide +kernel) ⟨Nat.le_of_ble_eq_true rfl, Nat.le_of_ble_eq_true rfl⟩) ⟨m_blind, va_recv hK (hP.one (e := .inr (8, [.ref (K 0 0), .ref (Lt 0 0)])) 0 rfl (Or.inr oW_mem)) (ci := 8) (q0 := 0) rfl rfl, fun U hU hW => ⟨rfl, m_pay hK hP.1 hE (fun _ _ h => any_in (i := 0) rfl h) U hU hW⟩⟩ rfl rfl hl.1 rfl (lv_room (Nat.le_of_ble_eq_true rfl)) dL_law_831 ⟨(by show cells + 0 + 0 + 0 + 0 + 0 + 0 + 0 + 0 ≤ 600074; omega), (by show slots + 0 + 0 + 0 + 0 + 0 + 0 + 0 + 0 ≤ 7301550; omega)⟩) hS (fun q _ h => hFc q h) hFc (fun r_22 u t H1 locs ht hvm hpo hB hz1 hk1 hS => ?_)
      obtain rfl := hpo
      obtain ⟨f_23, hP1⟩ := hB
      subst f_23
      rw [ht] at hP1
      have hP : ms (dC, dI) vwCl A [(fun q e => TW cy K (some s0) a κ τ q e ∨ oW ob (K 0 0) (Lt 0 0) q e), cel gp (gO ob bs qf d nd nl nf), rwW cy 24 5 (qf 0) lr lv nl, rwW cy 10 6 (qf 9) fr9 fv nf, (TW cy Lt none b κt τt), cel sa (.inl (cy 0, 4, .inl (y9)))] H1 := hP.call 0 rfl hk1 hFc hP1
      clear hP1 hk1 hFc
      generalize H1 = H at hP hS ⊢
      refine W.eq (g2 := F0 m 834 ls [.int (a 14 i (6 + 5))]) (by rw [nI_clamp (by omega)]) ?_
      refine lv_if_eq (tgt := 839) hx hb dL_law_834 (by decide) (fun _ => ?_) (fun c_24 => absurd (e3 c_21) c_24)
      refine lv_iinc (v := nI (i + 1)) (lv' := [(19, .int (nI (i + 1))), (18, .int ((sumI (fun f => a 14 f 7 + a 14 f 8) i) + ((a 14 i (6 + 1)) + (a 14 i (6 + 2))))), (17, .int ((sumI (fun f => a 14 f 6) i) + (a 14 i (6 + 0)))), (0, .ref bs), (1, .int tm), (2, .ref gp), (3, .ref ob), (4, .int sp9), (7, .int tk9), (10, .int em9), (14, .int on9), (15, .int wt9), (16, .ref sa)]) hx hb dL_law_839 hl (k := 2) rfl (nI_1 i) (by decide) rfl (fun ls hl => ?_)
      refine lv_goto (tgt := 740) hx hb dL_law_842 (by decide) ?_
      exact ihi () _ _ ls ⟨hP, hS, lv_sub hl [0, 2, 1, 3, 4, 5, 6, 7, 8, 9, 10, 11, 12] rfl⟩
set_option maxRecDepth 100000 in
set_option maxHeartbeats 4000000 in
/-- the sums -/
theorem lx_ends {p : Program} {l : Launch} {e : Env} {s : State} {m : MethodId} {below : List Frame} {meth : Method} {c : Code} {A : Nat → Prop} {dC : Nat → ClassId} {dI : Nat → Nat → Nat} {cy : Nat → ClassId} {bs Ls : Nat} {xs : Nat → Int32} {Q : State → Prop} {cells slots : Nat} (C1 : lx_At p s m meth c A bs Ls xs dC dI cy) (hcells : cells ≤ 590000) (hslots : slots ≤ 7040000) {gp : Nat} {ob : Nat} {qf : Nat → Nat} {d : Nat} {nd : Nat} {nl : Nat} {nf : Nat} {lr : Nat → Nat} {lv : Tb} {fr9 : Nat → Nat} {fv : Tb} {K : Lay} {s0 : Nat} {Lt : Lay} {a : St} {κ : Kap} {τ : Tau} {b : St} {κt : Kap} {τt : Tau} {M : Nat} {ck : Nat} (hT : TL K (some s0) τ) (hw : Wf M a) (hM : M < 20000) (hTR : TRab (some s0) a τ) (hchk : Chk nd nl nf lv fv ck a) (hnd : nd ≤ 12) (hnl : nl ≤ 24) (hnf : nf ≤ 10) (tm : Int32) (sp9 : Int32) (tk9 : Int32) (em9 : Int32) (sa : Nat) (y9 : Nat → Int32) (hy : ∀ q : Nat, q < 4 → y9 q = cntI a (nI q) (nV a)) (hem : (em9 = tk9 → onE a nl + wtE a nd = 0) ∧ (onE a nl + wtE a nd = 0 → ¬ em9 < 0)) (H : Heap) (locs : List Loc) (ls : Array Slot) (hP : ms (dC, dI) vwCl A [(fun q e => TW cy K (some s0) a κ τ q e ∨ oW ob (K 0 0) (Lt 0 0) q e), cel gp (gO ob bs qf d nd nl nf), rwW cy 24 5 (qf 0) lr lv nl, rwW cy 10 6 (qf 9) fr9 fv nf, (TW cy Lt none b κt τt), cel sa (.inl (cy 0, 4, .inl (y9)))] H) (hS : va_S A s.heap H locs) (hl : lv_has ls 24 [(0, .ref bs), (1, .int tm), (2, .ref gp), (3, .ref ob), (4, .int sp9), (7, .int tk9), (10, .int em9), (14, .int (onE a nl)), (15, .int (wtE a nd)), (16, .ref sa), (17, .int (sumI (fun f => a 14 f 6) nf)), (18, .int (sumI (fun f => a 14 f 7 + a 14 f 8) nf))]) (kk : ∀ (H : Heap) (locs : List Loc) (ls : Array Slot), ms (dC, dI) vwCl A [(fun q e => TW cy K (some s0) a κ τ q e ∨ oW ob (K 0 0) (Lt 0 0) q e), cel gp (gO ob bs qf d nd nl nf), rwW cy 24 5 (qf 0) lr lv nl, rwW cy 10 6 (qf 9) fr9 fv nf, (TW cy Lt none b κt τt), cel sa (.inl (cy 0, 4, .inl (y9)))] H → va_S A s.heap H locs → lv_has ls 24 [(0, .ref bs), (1, .int tm), (2, .ref gp), (3, .ref ob), (4, .int sp9)] → W p l e room_1 s m #[.ref bs] below meth c H locs (cells) (slots) Q (F0 m 918 ls [])) : W p l e room_1 s m #[.ref bs] below meth c H locs cells slots Q (F0 m 845 ls []) := by
  obtain ⟨hx, hb, hr, hml, hown, hts, hX, hbl, hbL, hlocks, hK, hE, hA, hbA⟩ := C1
  have hl : lv_has ls 24 [(0, .ref bs), (1, .int tm), (2, .ref gp), (3, .ref ob), (4, .int sp9), (7, .int tk9), (10, .int em9), (14, .int (onE a nl)), (15, .int (wtE a nd)), (16, .ref sa), (17, .int (sumI (fun f => a 14 f 6) nf)), (18, .int (sumI (fun f => a 14 f 7 + a 14 f 8) nf))] := hl
  obtain ⟨s1, s2, s3, s4⟩ := hchk.2.2.2.2.2
  refine lv_aload hx hb dL_law_845 (lv_at hl 9 rfl) ?_
  refine lv_iconst (v := 0) hx hb dL_law_847 (by decide) ?_
  have j_1 : (0 : Int32).toNatClampNeg = 0 := m_cl (n := 4) rfl (by decide) (by decide)
  refine va_iald hx hb hK (ws := [(sa, .inl (cy 0, 4, .inl (y9)))]) (hP.one 5 rfl cel_in) 0 0 rfl rfl (m_in (n := 4) rfl (by decide) (by decide)) dL_law_848 ?_
  refine W.eq (g2 := F0 m 849 ls [.int (y9 0)]) (by rw [j_1]) ?_
  refine lv_iload hx hb dL_law_849 (lv_at hl 8 rfl) ?_
  refine lv_icmp_ne (tgt := 886) hx hb dL_law_851 (by decide) (fun c_2 => absurd ((hy 0 (by decide)).trans s1) c_2) (fun _ => ?_)
  refine lv_aload hx hb dL_law_854 (lv_at hl 9 rfl) ?_
  refine lv_iconst (v := 1) hx hb dL_law_856 (by decide) ?_
  have j_3 : (1 : Int32).toNatClampNeg = 1 := m_cl (n := 4) rfl (by decide) (by decide)
  refine va_iald hx hb hK (ws := [(sa, .inl (cy 0, 4, .inl (y9)))]) (hP.one 5 rfl cel_in) 0 0 rfl rfl (m_in (n := 4) rfl (by decide) (by decide)) dL_law_857 ?_
  refine W.eq (g2 := F0 m 858 ls [.int (y9 1)]) (by rw [j_3]) ?_
  refine lv_iload hx hb dL_law_858 (lv_at hl 7 rfl) ?_
  refine lv_icmp_ne (tgt := 886) hx hb dL_law_860 (by decide) (fun c_4 => absurd ((hy 1 (by decide)).trans s2) c_4) (fun _ => ?_)
  refine lv_iload hx hb dL_law_863 (lv_at hl 10 rfl) ?_
  refine lv_aload_n hx hb dL_law_865 rfl (lv_at hl 3 rfl) ?_
  have hFc := m_free (C := (fun q e => TW cy K (some s0) a κ τ q e ∨ oW ob (K 0 0) (Lt 0 0) q e)) hP.1 hS hA (fun _ _ h => any_in (i := 0) rfl h)
  refine va_calli (va_runV (As := []) (rest := [.int (sumI (fun f => a 14 f 6) nf)]) ⟨hx, hb, hml, hown, hts⟩ (c_vehicles l dC dI cy K ((some s0)) a κ τ ob ((Lt 0 0)) H.size hT) (tp_cwV 0 hts tw_379 tw_380 tw_381 tw_20 tw_382 rfl rfl (by decide +kernel) ⟨Nat.le_of_ble_eq_true rfl, Nat.le_of_ble_eq_true rfl⟩) ⟨m_blind, va_recv hK (hP.one (e := .inr (8, [.ref (K 0 0), .ref (Lt 0 0)])) 0 rfl (Or.inr oW_mem)) (ci := 8) (q0 := 0) rfl rfl, fun U hU hW => ⟨rfl, m_pay hK hP.1 hE (fun _ _ h => any_in (i := 0) rfl h) U hU hW⟩⟩ rfl rfl hl.1 rfl (lv_room (Nat.le_of_ble_eq_true rfl)) dL_law_866 ⟨(by show cells + 0 ≤ 600074; omega), (by show slots + 0 ≤ 7301550; omega)⟩) hS (fun q _ h => hFc q h) hFc (fun r_5 u t H1 locs ht hvm hpo hB hz1 hk1 hS => ?_)
  obtain rfl := hpo
  obtain ⟨f_6, hP1⟩ := hB
  subst f_6
  rw [ht] at hP1
  have hP : ms (dC, dI) vwCl A [(fun q e => TW cy K (some s0) a κ τ q e ∨ oW ob (K 0 0) (Lt 0 0) q e), cel gp (gO ob bs qf d nd nl nf), rwW cy 24 5 (qf 0) lr lv nl, rwW cy 10 6 (qf 9) fr9 fv nf, (TW cy Lt none b κt τt), cel sa (.inl (cy 0, 4, .inl (y9)))] H1 := hP.call 0 rfl hk1 hFc hP1
  clear hP1 hk1 hFc
  generalize H1 = H at hP hS ⊢
  refine lv_icmp_ne (tgt := 886) hx hb dL_law_869 (by decide) (fun c_7 => absurd s3 c_7) (fun _ => ?_)
  refine lv_iload hx hb dL_law_872 (lv_at hl 11 rfl) ?_
  refine lv_aload hx hb dL_law_874 (lv_at hl 9 rfl) ?_
  refine lv_iconst (v := 2) hx hb dL_law_876 (by decide) ?_
  have j_8 : (2 : Int32).toNatClampNeg = 2 := m_cl (n := 4) rfl (by decide) (by decide)
  refine va_iald hx hb hK (ws := [(sa, .inl (cy 0, 4, .inl (y9)))]) (hP.one 5 rfl cel_in) 0 0 rfl rfl (m_in (n := 4) rfl (by decide) (by decide)) dL_law_877 ?_
  refine W.eq (g2 := F0 m 878 ls [.int (y9 2), .int (sumI (fun f => a 14 f 7 + a 14 f 8) nf)]) (by rw [j_8]) ?_
  refine lv_aload hx hb dL_law_878 (lv_at hl 9 rfl) ?_
  refine lv_iconst (v := 3) hx hb dL_law_880 (by decide) ?_
  have j_9 : (3 : Int32).toNatClampNeg = 3 := m_cl (n := 4) rfl (by decide) (by decide)
  refine va_iald hx hb hK (ws := [(sa, .inl (cy 0, 4, .inl (y9)))]) (hP.one 5 rfl cel_in) 0 0 rfl rfl (m_in (n := 4) rfl (by decide) (by decide)) dL_law_881 ?_
  refine W.eq (g2 := F0 m 882 ls [.int (y9 3), .int (y9 2), .int (sumI (fun f => a 14 f 7 + a 14 f 8) nf)]) (by rw [j_9]) ?_
  refine lv_iadd hx hb dL_law_882 ?_
  refine lv_icmp_eq (tgt := 888) hx hb dL_law_883 (by decide) (fun _ => ?_) (fun c_10 => absurd (by rw [hy 2 (by decide), hy 3 (by decide)]; exact s4) c_10)
  refine lv_iload hx hb dL_law_888 (lv_at hl 6 rfl) ?_
  refine lv_iload hx hb dL_law_890 (lv_at hl 5 rfl) ?_
  refine lv_icmp_ne (tgt := 903) hx hb dL_law_892 (by decide) (fun c_11 => ?_) (fun c_11 => ?_)
  · refine lv_iload hx hb dL_law_903 (lv_at hl 7 rfl) ?_
    refine lv_iload hx hb dL_law_905 (lv_at hl 8 rfl) ?_
    refine lv_iadd hx hb dL_law_907 ?_
    refine lv_if_ne (tgt := 918) hx hb dL_law_908 (by decide) (fun c_12 => ?_) (fun c_12 => ?_)
    · exact kk _ _ ls hP hS (lv_sub hl [0, 1, 2, 3, 4] rfl)
    · refine lv_iload hx hb dL_law_911 (lv_at hl 6 rfl) ?_
      refine lv_if_ge (tgt := 918) hx hb dL_law_913 (by decide) (fun _ => ?_) (fun c_13 => absurd (Int32.not_lt.mp (hem.2 c_12)) c_13)
      exact kk _ _ ls hP hS (lv_sub hl [0, 1, 2, 3, 4] rfl)
  · refine lv_iload hx hb dL_law_895 (lv_at hl 7 rfl) ?_
    refine lv_iload hx hb dL_law_897 (lv_at hl 8 rfl) ?_
    refine lv_iadd hx hb dL_law_899 ?_
    refine lv_if_ne (tgt := 916) hx hb dL_law_900 (by decide) (fun c_14 => absurd (hem.1 c_11) c_14) (fun _ => ?_)
    refine lv_iload hx hb dL_law_903 (lv_at hl 7 rfl) ?_
    refine lv_iload hx hb dL_law_905 (lv_at hl 8 rfl) ?_
    refine lv_iadd hx hb dL_law_907 ?_
    refine lv_if_ne (tgt := 918) hx hb dL_law_908 (by decide) (fun c_15 => ?_) (fun c_15 => ?_)
    · exact kk _ _ ls hP hS (lv_sub hl [0, 1, 2, 3, 4] rfl)
    · refine lv_iload hx hb dL_law_911 (lv_at hl 6 rfl) ?_
      refine lv_if_ge (tgt := 918) hx hb dL_law_913 (by decide) (fun _ => ?_) (fun c_16 => absurd (Int32.not_lt.mp (hem.2 c_15)) c_16)
      exact kk _ _ ls hP hS (lv_sub hl [0, 1, 2, 3, 4] rfl)
