theorem tw_586 : Cond.methodLink RX8 1 ⟨"java/lang/Object", "<init>", "()V"⟩ ∈ tp_all := tp_mem 586 (by decide +kernel) rfl
theorem tw_587 : Cond.classLink RX8 7 RX5 ∈ tp_all := tp_mem 587 (by decide +kernel) rfl
theorem tw_194 : Cond.instantiable RX5 12 ∈ tp_all := tp_mem 194 (by decide +kernel) rfl
theorem tw_588 : Cond.methodLink RX8 9 yX5_init ∈ tp_all := tp_mem 588 (by decide +kernel) rfl
theorem tw_589 : Cond.instanceMethod yX5_init ∈ tp_all := tp_mem 589 (by decide +kernel) rfl
theorem tw_590 : Cond.code yX5_init cX5_init 3 none ∈ tp_all := tp_mem 590 (by decide +kernel) rfl
theorem dX8_init_0 : decode cX8_init 0 = .ok (.aload_n 0, 1) := by decide +kernel
theorem dX8_init_1 : decode cX8_init 1 = .ok (.invokespecial 1, 3) := by decide +kernel
theorem dX8_init_4 : decode cX8_init 4 = .ok (.aload_n 0, 1) := by decide +kernel
theorem dX8_init_5 : decode cX8_init 5 = .ok (.new 7, 3) := by decide +kernel
theorem dX8_init_8 : decode cX8_init 8 = .ok (.dup, 1) := by decide +kernel
theorem dX8_init_9 : decode cX8_init 9 = .ok (.iconst 1, 1) := by decide +kernel
theorem dX8_init_10 : decode cX8_init 10 = .ok (.invokespecial 9, 3) := by decide +kernel
theorem dX8_init_13 : decode cX8_init 13 = .ok (.putfield 12, 3) := by decide +kernel
theorem dX8_init_16 : decode cX8_init 16 = .ok (.aload_n 0, 1) := by decide +kernel
theorem dX8_init_17 : decode cX8_init 17 = .ok (.new 7, 3) := by decide +kernel
theorem dX8_init_20 : decode cX8_init 20 = .ok (.dup, 1) := by decide +kernel
theorem dX8_init_21 : decode cX8_init 21 = .ok (.iconst 0, 1) := by decide +kernel
theorem dX8_init_22 : decode cX8_init 22 = .ok (.invokespecial 9, 3) := by decide +kernel
theorem dX8_init_25 : decode cX8_init 25 = .ok (.putfield 18, 3) := by decide +kernel
theorem dX8_init_28 : decode cX8_init 28 = .ok (.return_, 1) := by decide +kernel
set_option maxRecDepth 100000 in
set_option maxHeartbeats 4000000 in
/-- k_Turnpike -/
theorem k_Turnpike (l : Launch) (dC : Nat → ClassId) (dI : Nat → Nat → Nat) (cy : Nat → ClassId) (a0 : Nat) (sz : Nat) : Met l yX8_init (tp_w yX8_init cX8_init 1 none) ({ frames := 5, cells := 1696, slots := 21774, locals := 98 }) (va_Pc [.ref a0] (mPre dC dI cy (cw [(a0, .inr (8, [.null, .null]))]) sz)) (va_Qv (fun _ : Unit => True) (fun (_ : Unit) (t : State) => ∃ (t9 : Nat) (L K : Lay) (τ : Tau), TL K (some t9) τ ∧ τ.2.2 = (fun _ => 1, fun _ _ => 0) ∧ TL L none TZ ∧ AP L K (some t9) τ ∧ mw (dC, dI) vwCl (va_A [(a0, .inr (8, [.null, .null]))] sz) (fun q e => TW cy L none St0 K0 TZ q e ∨ TW cy K (some t9) St0 K0 τ q e ∨ oW a0 (K 0 0) (L 0 0) q e) t.heap) (va_A [(a0, .inr (8, [.null, .null]))] sz)) 1696 21774 (va_A [(a0, .inr (8, [.null, .null]))] sz) := by
  refine Met.ofW (cc := cX8_init) (maxL := 1) (ret := none) (by decide) rfl ?_
  intro p e s m args below meth c s₁ B hml hv
  obtain ⟨rfl, hsz, hM, hK, hE⟩ := hv
  have hx := B.exec
  have hb := B.bytes
  have hr := B.returns
  have hts0 := atoms_spec (ws := tp_w yX8_init cX8_init 1 none) B.pre
  have hts : ∀ w ∈ tp_all, w.before _ s = true := fun w h => hts0 w (List.mem_cons_of_mem _ h)
  have hown : s.vm.findClass RX8 = some m.cls := findClass_of_methodNamed B.named
  have hlocks := B.notSynchronized
  have hin : meth.name = "<init>" := (name_of_methodNamed B.named B.method).1
  subst hsz
  have hP : va_P (dC, dI) vwCl [(a0, .inr (8, [.null, .null]))] s.heap := cw_P hM
  have hD : va_D (va_A [(a0, .inr (8, [.null, .null]))] s.heap.size) [(a0, .inr (8, [.null, .null]))] := cw_D1
  generalize hAe : va_A [(a0, .inr (8, [.null, .null]))] s.heap.size = A at hD ⊢
  have hA : ∀ q : Nat, s.heap.size ≤ q → A q := fun q h => by rw [← hAe]; exact Or.inr h
  have hS : va_S A s.heap s.heap [] := va_S.rf
  have hl9 := lv_entry ([.ref a0]) (n := 1) (Nat.le_of_ble_eq_true rfl)
  rw [lg_entry_eq]
  generalize (lg_sl ([.ref a0]) ++ List.replicate (1 - (lg_sl ([.ref a0])).length) Slot.unset).toArray = ls at hl9 ⊢
  have hl : lv_has ls 1 [(0, .ref a0)] := hl9
  refine lv_aload_n hx hb dX8_init_0 rfl (lv_at hl 0 rfl) ?_
  refine W.objInit hx hb hown (hts _ tw_586) (hts _ tw_74) (hts _ tw_75) rfl (by rw [hml]; exact hl.1) rfl dX8_init_1 (Nat.le_of_ble_eq_true rfl) (Nat.le_of_ble_eq_true rfl) ?_
  refine W.eq (g2 := F0 m 4 ls []) rfl ?_
  refine lv_aload_n hx hb dX8_init_4 rfl (lv_at hl 0 rfl) ?_
  have hM : mw (dC, dI) vwCl A (fun q e => q = a0 ∧ e = .inr (8, [.null, .null])) s.heap := (mw.ofL hP hD).sub (fun q e h => by obtain ⟨rfl, rfl⟩ := h; exact List.mem_of_getElem? (i := 0) rfl)
  clear hP hD
  have hP := hM
  clear hM
  obtain ⟨ws9, hPw, hDw, hin9, hbk⟩ := hP.push
  have h8 : tp_dv 12 tyX5 [.null, .null, .null, .null, .null, .null, .int 0, .int 0, .int 0, .int 0, .int 0, .int 0] = true := by decide +kernel
  refine va_new (ci := 5) (fs := [.null, .null, .null, .null, .null, .null, .int 0, .int 0, .int 0, .int 0, .int 0, .int 0]) (C := RX5) (T := TX5) (N := 12) hx hb hts tl_X5 tyX5 tyX5_ok hown (hts _ tw_587) (hts _ tw_194) (hts _ tw_21) hK hPw hDw hS hA rfl (fun j hj => tp_dv_ok h8 j hj) (by show 0 + 1 ≤ 1696; omega) (by show 0 + 12 ≤ 21774; omega) dX8_init_5 (fun a9 H hPw hDw hS => ?_)
  obtain ⟨hP, hfr⟩ := hbk _ _ _ hPw hDw
  clear hbk hPw hDw hin9
  refine lv_dup hx hb dX8_init_8 rfl ?_
  refine lv_iconst (v := 1) hx hb dX8_init_9 (by decide) ?_
  have hC : ∀ q e, cw [(a9, .inr (5, [.null, .null, .null, .null, .null, .null, .int 0, .int 0, .int 0, .int 0, .int 0, .int 0]))] q e → madd (fun q e => q = a0 ∧ e = .inr (8, [.null, .null])) a9 (.inr (5, [.null, .null, .null, .null, .null, .null, .int 0, .int 0, .int 0, .int 0, .int 0, .int 0])) q e := fun q e h => by cases List.mem_singleton.mp h; exact Or.inr ⟨rfl, rfl⟩
  have hFc : ∀ q, va_A [(a9, .inr (5, [.null, .null, .null, .null, .null, .null, .int 0, .int 0, .int 0, .int 0, .int 0, .int 0]))] H.size q → A q := fun q h => m_free hP hS hA hC q (mA_va.mp h)
  refine va_callv (va_runI (As := [.int 1]) (rest := [.ref a9, .ref a0]) ⟨hx, hb, hml, hown, hts⟩ (k_Traffic_t l dC dI cy a9 H.size) (tp_cwI 1 hts tw_588 tw_589 tw_21 tw_590 rfl rfl rfl (by decide +kernel) ⟨Nat.le_of_ble_eq_true rfl, Nat.le_of_ble_eq_true rfl⟩) ⟨m_blind, fun U hU hW => ⟨rfl, m_pay hK hP hE hC U hU hW⟩⟩ rfl rfl hl.1 rfl (lv_room (Nat.le_of_ble_eq_true rfl)) dX8_init_10 ⟨(by show 0 + 1 + 847 ≤ 1696; omega), (by show 0 + 12 + 10875 ≤ 21774; omega)⟩) hS (fun q _ h => hFc q h) hFc (fun u t H1 locs ht hvm hpo hB hz1 hk1 hS => ?_)
  obtain ⟨t9, K, τ, hK0, hTn, hτ, hM1⟩ := hB
  rw [ht] at hM1
  obtain ⟨hP2, -, hQ⟩ := hP.joinM hfr hk1 hFc hM1
  clear hP
  have hP := hP2
  clear hP2
  have hap : ∀ q e, (TW cy K (some t9) St0 K0 τ) q e → q ≠ a0 := fun q e h => (hQ a0 _ q e ⟨rfl, rfl⟩ h).symm
  clear hQ hM1 hk1 hFc hC hfr h8
  generalize H1 = H at hP hS ⊢
  subst hK0
  obtain ⟨ws9, k9, hPw, hDw, hk9, -, hbk⟩ := hP.cut (e := .inr (8, [.null, .null])) (Or.inl ⟨rfl, rfl⟩)
  refine va_putF (D := (dC, dI)) (ci := 8) (v := .ref (K 0 0)) (ty := (.object "Turnpike$Traffic")) (C := RX8) (T := TX8) (N := 2) hx hb hts tl_X8 tyX8 tyX8_ok nmX8 hown hK hPw hDw hS k9 hk9 rfl 0 (by decide) (hts _ tw_922) (fun _ h9 => h9) rfl hin rfl (by decide +kernel) rfl rfl (Nat.le_of_ble_eq_true rfl) dX8_init_13 (fun H locs hPw hDw hS => ?_)
  have hP : mw (dC, dI) vwCl A (fun q e => (q = a0 ∧ e = .inr (8, [.ref (K 0 0), .null])) ∨ (TW cy K (some t9) St0 K0 τ) q e) H := (hbk _ _ hPw hDw).sub (mset_one hap)
  clear hbk hPw hDw hk9
  refine lv_aload_n hx hb dX8_init_16 rfl (lv_at hl 0 rfl) ?_
  obtain ⟨ws9, hPw, hDw, hin9, hbk⟩ := hP.push
  have h8 : tp_dv 12 tyX5 [.null, .null, .null, .null, .null, .null, .int 0, .int 0, .int 0, .int 0, .int 0, .int 0] = true := by decide +kernel
  refine va_new (ci := 5) (fs := [.null, .null, .null, .null, .null, .null, .int 0, .int 0, .int 0, .int 0, .int 0, .int 0]) (C := RX5) (T := TX5) (N := 12) hx hb hts tl_X5 tyX5 tyX5_ok hown (hts _ tw_587) (hts _ tw_194) (hts _ tw_21) hK hPw hDw hS hA rfl (fun j hj => tp_dv_ok h8 j hj) (by show 0 + 1 + 847 + 1 ≤ 1696; omega) (by show 0 + 12 + 10875 + 12 ≤ 21774; omega) dX8_init_17 (fun a9 H hPw hDw hS => ?_)
  obtain ⟨hP, hfr⟩ := hbk _ _ _ hPw hDw
  clear hbk hPw hDw hin9
  refine lv_dup hx hb dX8_init_20 rfl ?_
  refine lv_iconst (v := 0) hx hb dX8_init_21 (by decide) ?_
  have hC : ∀ q e, cw [(a9, .inr (5, [.null, .null, .null, .null, .null, .null, .int 0, .int 0, .int 0, .int 0, .int 0, .int 0]))] q e → madd (fun q e => (q = a0 ∧ e = .inr (8, [.ref (K 0 0), .null])) ∨ (TW cy K (some t9) St0 K0 τ) q e) a9 (.inr (5, [.null, .null, .null, .null, .null, .null, .int 0, .int 0, .int 0, .int 0, .int 0, .int 0])) q e := fun q e h => by cases List.mem_singleton.mp h; exact Or.inr ⟨rfl, rfl⟩
  have hFc : ∀ q, va_A [(a9, .inr (5, [.null, .null, .null, .null, .null, .null, .int 0, .int 0, .int 0, .int 0, .int 0, .int 0]))] H.size q → A q := fun q h => m_free hP hS hA hC q (mA_va.mp h)
  refine va_callv (va_runI (As := [.int 0]) (rest := [.ref a9, .ref a0]) ⟨hx, hb, hml, hown, hts⟩ (k_Traffic_n l dC dI cy a9 H.size) (tp_cwI 1 hts tw_588 tw_589 tw_21 tw_590 rfl rfl rfl (by decide +kernel) ⟨Nat.le_of_ble_eq_true rfl, Nat.le_of_ble_eq_true rfl⟩) ⟨m_blind, fun U hU hW => ⟨rfl, m_pay hK hP hE hC U hU hW⟩⟩ rfl rfl hl.1 rfl (lv_room (Nat.le_of_ble_eq_true rfl)) dX8_init_22 ⟨(by show 0 + 1 + 847 + 1 + 847 ≤ 1696; omega), (by show 0 + 12 + 10875 + 12 + 10875 ≤ 21774; omega)⟩) hS (fun q _ h => hFc q h) hFc (fun u t H1 locs ht hvm hpo hB hz1 hk1 hS => ?_)
  obtain ⟨L, hL0, hTt, hM1⟩ := hB
  rw [ht] at hM1
  obtain ⟨hP2, -, hQ⟩ := hP.joinM hfr hk1 hFc hM1
  clear hP
  have hP := hP2
  clear hP2
  have hap : ∀ q e, (fun q e => (TW cy K (some t9) St0 K0 τ) q e ∨ TW cy L none St0 K0 TZ q e) q e → q ≠ a0 := fun q e h => h.elim (hap q e) (fun h => (hQ a0 _ q e (Or.inl ⟨rfl, rfl⟩) h).symm)
  have hAP : AP L K (some t9) τ := by
    refine ⟨fun f i g j hi hj => (hQ (K g j) _ (L f i) _ (Or.inr (tw_mem hj rfl)) (tw_mem hi rfl)).symm, fun t ht f i hi => ?_⟩
    cases ht
    exact ⟨(hQ _ _ (L f i) _ (Or.inr (Or.inr ⟨_, rfl, Or.inl ⟨rfl, rfl⟩⟩)) (tw_mem hi rfl)).symm, (hQ _ _ (L f i) _ (Or.inr (Or.inr ⟨_, rfl, Or.inr (Or.inl ⟨rfl, rfl⟩)⟩)) (tw_mem hi rfl)).symm, fun v hv => (hQ _ _ (L f i) _ (Or.inr (Or.inr ⟨_, rfl, Or.inr (Or.inr ⟨v, hv, rfl, rfl⟩)⟩)) (tw_mem hi rfl)).symm⟩
  have hP : mw (dC, dI) vwCl A (fun q e => (q = a0 ∧ e = .inr (8, [.ref (K 0 0), .null])) ∨ (fun q e => (TW cy K (some t9) St0 K0 τ) q e ∨ TW cy L none St0 K0 TZ q e) q e) H1 := hP.sub (fun q e h => h.elim (fun h => Or.inl (Or.inl h)) (fun h => h.elim (fun h => Or.inl (Or.inr h)) (fun h => Or.inr h)))
  clear hQ hM1 hk1 hFc hC hfr h8
  generalize H1 = H at hP hS ⊢
  subst hL0
  obtain ⟨ws9, k9, hPw, hDw, hk9, -, hbk⟩ := hP.cut (e := .inr (8, [.ref (K 0 0), .null])) (Or.inl ⟨rfl, rfl⟩)
  refine va_putF (D := (dC, dI)) (ci := 8) (v := .ref (L 0 0)) (ty := (.object "Turnpike$Traffic")) (C := RX8) (T := TX8) (N := 2) hx hb hts tl_X8 tyX8 tyX8_ok nmX8 hown hK hPw hDw hS k9 hk9 rfl 1 (by decide) (hts _ tw_923) (fun _ h9 => h9) rfl hin rfl (by decide +kernel) rfl rfl (Nat.le_of_ble_eq_true rfl) dX8_init_25 (fun H locs hPw hDw hS => ?_)
  have hP : mw (dC, dI) vwCl A (fun q e => (q = a0 ∧ e = .inr (8, [.ref (K 0 0), .ref (L 0 0)])) ∨ (fun q e => (TW cy K (some t9) St0 K0 τ) q e ∨ TW cy L none St0 K0 TZ q e) q e) H := (hbk _ _ hPw hDw).sub (mset_one hap)
  clear hbk hPw hDw hk9
  refine W.widen (k := 1696) (n := 21774) (by decide) (by decide) ?_
  have hP := hP.sub (P' := fun q e => TW cy L none St0 K0 TZ q e ∨ TW cy K (some t9) St0 K0 τ q e ∨ oW a0 (K 0 0) (L 0 0) q e) (fun q e h => h.elim (fun h => Or.inr (Or.inr h)) (fun h => h.elim (fun h => Or.inr (Or.inl h)) (fun h => Or.inl h)))
  exact W.vret hx hb hr (fun t ht hW => ⟨⟨(), rfl, trivial, t9, L, K, τ, hTn, hτ, hTt, hAP, by subst ht; exact hP⟩, hS.F ht⟩) hS.2.2 dX8_init_28
