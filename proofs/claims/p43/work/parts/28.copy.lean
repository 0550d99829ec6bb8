theorem tw_476 : Cond.methodLink RX3 31 yJ9_min_7cf53 ∈ tp_all := tp_mem 476 (by decide +kernel) rfl
theorem tw_481 : Cond.methodLink RX4 39 ⟨"java/lang/System", "arraycopy", "(Ljava/lang/Object;ILjava/lang/Object;II)V"⟩ ∈ tp_all := tp_mem 481 (by decide +kernel) rfl
theorem tw_491 : Cond.methodLink RX7 52 yX7_come ∈ tp_all := tp_mem 491 (by decide +kernel) rfl
theorem tw_492 : Cond.methodLink RX7 56 ⟨"java/lang/System", "arraycopy", "(Ljava/lang/Object;ILjava/lang/Object;II)V"⟩ ∈ tp_all := tp_mem 492 (by decide +kernel) rfl
theorem tw_625 : Cond.fieldLink RX1 81 "Turnpike$Link" "from" "I" ∈ tp_all := tp_mem 625 (by decide +kernel) rfl
theorem tw_628 : Cond.fieldLink RX1 84 "Turnpike$Link" "to" "I" ∈ tp_all := tp_mem 628 (by decide +kernel) rfl
theorem tw_646 : Cond.fieldLink RX1 87 "Turnpike$Link" "cost" "I" ∈ tp_all := tp_mem 646 (by decide +kernel) rfl
theorem tw_475 : Cond.code yX3_copyFrom cX3_copyFrom 2 none ∈ tp_all := tp_mem 475 (by decide +kernel) rfl
theorem tw_472 : Cond.methodLink RX1 90 yX3_copyFrom ∈ tp_all := tp_mem 472 (by decide +kernel) rfl
theorem tw_473 : Cond.instanceMethod yX3_copyFrom ∈ tp_all := tp_mem 473 (by decide +kernel) rfl
theorem tw_474 : Cond.selects RX3 yX3_copyFrom yX3_copyFrom ∈ tp_all := tp_mem 474 (by decide +kernel) rfl
theorem dX3_copyFrom_0 : decode cX3_copyFrom 0 = .ok (.aload_n 0, 1) := by decide +kernel
theorem dX3_copyFrom_1 : decode cX3_copyFrom 1 = .ok (.aload_n 1, 1) := by decide +kernel
theorem dX3_copyFrom_2 : decode cX3_copyFrom 2 = .ok (.getfield 21, 3) := by decide +kernel
theorem dX3_copyFrom_5 : decode cX3_copyFrom 5 = .ok (.aload_n 0, 1) := by decide +kernel
theorem dX3_copyFrom_6 : decode cX3_copyFrom 6 = .ok (.getfield 15, 3) := by decide +kernel
theorem dX3_copyFrom_9 : decode cX3_copyFrom 9 = .ok (.arraylength, 1) := by decide +kernel
theorem dX3_copyFrom_10 : decode cX3_copyFrom 10 = .ok (.invokestatic 31, 3) := by decide +kernel
theorem dX3_copyFrom_13 : decode cX3_copyFrom 13 = .ok (.putfield 21, 3) := by decide +kernel
theorem dX3_copyFrom_16 : decode cX3_copyFrom 16 = .ok (.aload_n 1, 1) := by decide +kernel
theorem dX3_copyFrom_17 : decode cX3_copyFrom 17 = .ok (.getfield 15, 3) := by decide +kernel
theorem dX3_copyFrom_20 : decode cX3_copyFrom 20 = .ok (.iconst 0, 1) := by decide +kernel
theorem dX3_copyFrom_21 : decode cX3_copyFrom 21 = .ok (.aload_n 0, 1) := by decide +kernel
theorem dX3_copyFrom_22 : decode cX3_copyFrom 22 = .ok (.getfield 15, 3) := by decide +kernel
theorem dX3_copyFrom_25 : decode cX3_copyFrom 25 = .ok (.iconst 0, 1) := by decide +kernel
theorem dX3_copyFrom_26 : decode cX3_copyFrom 26 = .ok (.aload_n 0, 1) := by decide +kernel
theorem dX3_copyFrom_27 : decode cX3_copyFrom 27 = .ok (.getfield 21, 3) := by decide +kernel
theorem dX3_copyFrom_30 : decode cX3_copyFrom 30 = .ok (.invokestatic 25, 3) := by decide +kernel
theorem dX3_copyFrom_33 : decode cX3_copyFrom 33 = .ok (.return_, 1) := by decide +kernel
theorem dX4_copyFrom_0 : decode cX4_copyFrom 0 = .ok (.aload_n 1, 1) := by decide +kernel
theorem dX4_copyFrom_1 : decode cX4_copyFrom 1 = .ok (.getfield 9, 3) := by decide +kernel
theorem dX4_copyFrom_4 : decode cX4_copyFrom 4 = .ok (.iconst 0, 1) := by decide +kernel
theorem dX4_copyFrom_5 : decode cX4_copyFrom 5 = .ok (.aload_n 0, 1) := by decide +kernel
theorem dX4_copyFrom_6 : decode cX4_copyFrom 6 = .ok (.getfield 9, 3) := by decide +kernel
theorem dX4_copyFrom_9 : decode cX4_copyFrom 9 = .ok (.iconst 0, 1) := by decide +kernel
theorem dX4_copyFrom_10 : decode cX4_copyFrom 10 = .ok (.iconst 4, 1) := by decide +kernel
theorem dX4_copyFrom_11 : decode cX4_copyFrom 11 = .ok (.invokestatic 39, 3) := by decide +kernel
theorem dX4_copyFrom_14 : decode cX4_copyFrom 14 = .ok (.aload_n 1, 1) := by decide +kernel
theorem dX4_copyFrom_15 : decode cX4_copyFrom 15 = .ok (.getfield 15, 3) := by decide +kernel
theorem dX4_copyFrom_18 : decode cX4_copyFrom 18 = .ok (.iconst 0, 1) := by decide +kernel
theorem dX4_copyFrom_19 : decode cX4_copyFrom 19 = .ok (.aload_n 0, 1) := by decide +kernel
theorem dX4_copyFrom_20 : decode cX4_copyFrom 20 = .ok (.getfield 15, 3) := by decide +kernel
theorem dX4_copyFrom_23 : decode cX4_copyFrom 23 = .ok (.iconst 0, 1) := by decide +kernel
theorem dX4_copyFrom_24 : decode cX4_copyFrom 24 = .ok (.iconst 4, 1) := by decide +kernel
theorem dX4_copyFrom_25 : decode cX4_copyFrom 25 = .ok (.invokestatic 39, 3) := by decide +kernel
theorem dX4_copyFrom_28 : decode cX4_copyFrom 28 = .ok (.aload_n 1, 1) := by decide +kernel
theorem dX4_copyFrom_29 : decode cX4_copyFrom 29 = .ok (.getfield 18, 3) := by decide +kernel
theorem dX4_copyFrom_32 : decode cX4_copyFrom 32 = .ok (.iconst 0, 1) := by decide +kernel
theorem dX4_copyFrom_33 : decode cX4_copyFrom 33 = .ok (.aload_n 0, 1) := by decide +kernel
theorem dX4_copyFrom_34 : decode cX4_copyFrom 34 = .ok (.getfield 18, 3) := by decide +kernel
theorem dX4_copyFrom_37 : decode cX4_copyFrom 37 = .ok (.iconst 0, 1) := by decide +kernel
theorem dX4_copyFrom_38 : decode cX4_copyFrom 38 = .ok (.iconst 4, 1) := by decide +kernel
theorem dX4_copyFrom_39 : decode cX4_copyFrom 39 = .ok (.invokestatic 39, 3) := by decide +kernel
theorem dX4_copyFrom_42 : decode cX4_copyFrom 42 = .ok (.aload_n 0, 1) := by decide +kernel
theorem dX4_copyFrom_43 : decode cX4_copyFrom 43 = .ok (.aload_n 1, 1) := by decide +kernel
theorem dX4_copyFrom_44 : decode cX4_copyFrom 44 = .ok (.getfield 25, 3) := by decide +kernel
theorem dX4_copyFrom_47 : decode cX4_copyFrom 47 = .ok (.putfield 25, 3) := by decide +kernel
theorem dX4_copyFrom_50 : decode cX4_copyFrom 50 = .ok (.aload_n 0, 1) := by decide +kernel
theorem dX4_copyFrom_51 : decode cX4_copyFrom 51 = .ok (.aload_n 1, 1) := by decide +kernel
theorem dX4_copyFrom_52 : decode cX4_copyFrom 52 = .ok (.getfield 21, 3) := by decide +kernel
theorem dX4_copyFrom_55 : decode cX4_copyFrom 55 = .ok (.putfield 21, 3) := by decide +kernel
theorem dX4_copyFrom_58 : decode cX4_copyFrom 58 = .ok (.aload_n 0, 1) := by decide +kernel
theorem dX4_copyFrom_59 : decode cX4_copyFrom 59 = .ok (.aload_n 1, 1) := by decide +kernel
theorem dX4_copyFrom_60 : decode cX4_copyFrom 60 = .ok (.getfield 28, 3) := by decide +kernel
theorem dX4_copyFrom_63 : decode cX4_copyFrom 63 = .ok (.putfield 28, 3) := by decide +kernel
theorem dX4_copyFrom_66 : decode cX4_copyFrom 66 = .ok (.return_, 1) := by decide +kernel
theorem dX7_copyFrom_0 : decode cX7_copyFrom 0 = .ok (.aload_n 0, 1) := by decide +kernel
theorem dX7_copyFrom_1 : decode cX7_copyFrom 1 = .ok (.aload_n 1, 1) := by decide +kernel
theorem dX7_copyFrom_2 : decode cX7_copyFrom 2 = .ok (.getfield 15, 3) := by decide +kernel
theorem dX7_copyFrom_5 : decode cX7_copyFrom 5 = .ok (.aload_n 1, 1) := by decide +kernel
theorem dX7_copyFrom_6 : decode cX7_copyFrom 6 = .ok (.getfield 19, 3) := by decide +kernel
theorem dX7_copyFrom_9 : decode cX7_copyFrom 9 = .ok (.aload_n 1, 1) := by decide +kernel
theorem dX7_copyFrom_10 : decode cX7_copyFrom 10 = .ok (.getfield 22, 3) := by decide +kernel
theorem dX7_copyFrom_13 : decode cX7_copyFrom 13 = .ok (.aload_n 1, 1) := by decide +kernel
theorem dX7_copyFrom_14 : decode cX7_copyFrom 14 = .ok (.getfield 28, 3) := by decide +kernel
theorem dX7_copyFrom_17 : decode cX7_copyFrom 17 = .ok (.invokevirtual 52, 3) := by decide +kernel
theorem dX7_copyFrom_20 : decode cX7_copyFrom 20 = .ok (.aload_n 0, 1) := by decide +kernel
theorem dX7_copyFrom_21 : decode cX7_copyFrom 21 = .ok (.aload_n 1, 1) := by decide +kernel
theorem dX7_copyFrom_22 : decode cX7_copyFrom 22 = .ok (.getfield 25, 3) := by decide +kernel
theorem dX7_copyFrom_25 : decode cX7_copyFrom 25 = .ok (.putfield 25, 3) := by decide +kernel
theorem dX7_copyFrom_28 : decode cX7_copyFrom 28 = .ok (.aload_n 0, 1) := by decide +kernel
theorem dX7_copyFrom_29 : decode cX7_copyFrom 29 = .ok (.aload_n 1, 1) := by decide +kernel
theorem dX7_copyFrom_30 : decode cX7_copyFrom 30 = .ok (.getfield 31, 3) := by decide +kernel
theorem dX7_copyFrom_33 : decode cX7_copyFrom 33 = .ok (.putfield 31, 3) := by decide +kernel
theorem dX7_copyFrom_36 : decode cX7_copyFrom 36 = .ok (.aload_n 0, 1) := by decide +kernel
theorem dX7_copyFrom_37 : decode cX7_copyFrom 37 = .ok (.aload_n 1, 1) := by decide +kernel
theorem dX7_copyFrom_38 : decode cX7_copyFrom 38 = .ok (.getfield 34, 3) := by decide +kernel
theorem dX7_copyFrom_41 : decode cX7_copyFrom 41 = .ok (.putfield 34, 3) := by decide +kernel
theorem dX7_copyFrom_44 : decode cX7_copyFrom 44 = .ok (.aload_n 0, 1) := by decide +kernel
theorem dX7_copyFrom_45 : decode cX7_copyFrom 45 = .ok (.aload_n 1, 1) := by decide +kernel
theorem dX7_copyFrom_46 : decode cX7_copyFrom 46 = .ok (.getfield 37, 3) := by decide +kernel
theorem dX7_copyFrom_49 : decode cX7_copyFrom 49 = .ok (.putfield 37, 3) := by decide +kernel
theorem dX7_copyFrom_52 : decode cX7_copyFrom 52 = .ok (.aload_n 0, 1) := by decide +kernel
theorem dX7_copyFrom_53 : decode cX7_copyFrom 53 = .ok (.aload_n 1, 1) := by decide +kernel
theorem dX7_copyFrom_54 : decode cX7_copyFrom 54 = .ok (.getfield 40, 3) := by decide +kernel
theorem dX7_copyFrom_57 : decode cX7_copyFrom 57 = .ok (.putfield 40, 3) := by decide +kernel
theorem dX7_copyFrom_60 : decode cX7_copyFrom 60 = .ok (.aload_n 0, 1) := by decide +kernel
theorem dX7_copyFrom_61 : decode cX7_copyFrom 61 = .ok (.aload_n 1, 1) := by decide +kernel
theorem dX7_copyFrom_62 : decode cX7_copyFrom 62 = .ok (.getfield 43, 3) := by decide +kernel
theorem dX7_copyFrom_65 : decode cX7_copyFrom 65 = .ok (.putfield 43, 3) := by decide +kernel
theorem dX7_copyFrom_68 : decode cX7_copyFrom 68 = .ok (.aload_n 0, 1) := by decide +kernel
theorem dX7_copyFrom_69 : decode cX7_copyFrom 69 = .ok (.aload_n 1, 1) := by decide +kernel
theorem dX7_copyFrom_70 : decode cX7_copyFrom 70 = .ok (.getfield 46, 3) := by decide +kernel
theorem dX7_copyFrom_73 : decode cX7_copyFrom 73 = .ok (.putfield 46, 3) := by decide +kernel
theorem dX7_copyFrom_76 : decode cX7_copyFrom 76 = .ok (.aload_n 0, 1) := by decide +kernel
theorem dX7_copyFrom_77 : decode cX7_copyFrom 77 = .ok (.aload_n 1, 1) := by decide +kernel
theorem dX7_copyFrom_78 : decode cX7_copyFrom 78 = .ok (.getfield 49, 3) := by decide +kernel
theorem dX7_copyFrom_81 : decode cX7_copyFrom 81 = .ok (.putfield 49, 3) := by decide +kernel
theorem dX7_copyFrom_84 : decode cX7_copyFrom 84 = .ok (.aload_n 1, 1) := by decide +kernel
theorem dX7_copyFrom_85 : decode cX7_copyFrom 85 = .ok (.getfield 9, 3) := by decide +kernel
theorem dX7_copyFrom_88 : decode cX7_copyFrom 88 = .ok (.iconst 0, 1) := by decide +kernel
theorem dX7_copyFrom_89 : decode cX7_copyFrom 89 = .ok (.aload_n 0, 1) := by decide +kernel
theorem dX7_copyFrom_90 : decode cX7_copyFrom 90 = .ok (.getfield 9, 3) := by decide +kernel
theorem dX7_copyFrom_93 : decode cX7_copyFrom 93 = .ok (.iconst 0, 1) := by decide +kernel
theorem dX7_copyFrom_94 : decode cX7_copyFrom 94 = .ok (.aload_n 0, 1) := by decide +kernel
theorem dX7_copyFrom_95 : decode cX7_copyFrom 95 = .ok (.getfield 9, 3) := by decide +kernel
theorem dX7_copyFrom_98 : decode cX7_copyFrom 98 = .ok (.arraylength, 1) := by decide +kernel
theorem dX7_copyFrom_99 : decode cX7_copyFrom 99 = .ok (.invokestatic 56, 3) := by decide +kernel
theorem dX7_copyFrom_102 : decode cX7_copyFrom 102 = .ok (.return_, 1) := by decide +kernel
theorem dX1_copyFrom_0 : decode cX1_copyFrom 0 = .ok (.aload_n 0, 1) := by decide +kernel
theorem dX1_copyFrom_1 : decode cX1_copyFrom 1 = .ok (.aload_n 1, 1) := by decide +kernel
theorem dX1_copyFrom_2 : decode cX1_copyFrom 2 = .ok (.getfield 81, 3) := by decide +kernel
theorem dX1_copyFrom_5 : decode cX1_copyFrom 5 = .ok (.putfield 81, 3) := by decide +kernel
theorem dX1_copyFrom_8 : decode cX1_copyFrom 8 = .ok (.aload_n 0, 1) := by decide +kernel
theorem dX1_copyFrom_9 : decode cX1_copyFrom 9 = .ok (.aload_n 1, 1) := by decide +kernel
theorem dX1_copyFrom_10 : decode cX1_copyFrom 10 = .ok (.getfield 84, 3) := by decide +kernel
theorem dX1_copyFrom_13 : decode cX1_copyFrom 13 = .ok (.putfield 84, 3) := by decide +kernel
theorem dX1_copyFrom_16 : decode cX1_copyFrom 16 = .ok (.aload_n 0, 1) := by decide +kernel
theorem dX1_copyFrom_17 : decode cX1_copyFrom 17 = .ok (.aload_n 1, 1) := by decide +kernel
theorem dX1_copyFrom_18 : decode cX1_copyFrom 18 = .ok (.getfield 47, 3) := by decide +kernel
theorem dX1_copyFrom_21 : decode cX1_copyFrom 21 = .ok (.putfield 47, 3) := by decide +kernel
theorem dX1_copyFrom_24 : decode cX1_copyFrom 24 = .ok (.aload_n 0, 1) := by decide +kernel
theorem dX1_copyFrom_25 : decode cX1_copyFrom 25 = .ok (.aload_n 1, 1) := by decide +kernel
theorem dX1_copyFrom_26 : decode cX1_copyFrom 26 = .ok (.getfield 54, 3) := by decide +kernel
theorem dX1_copyFrom_29 : decode cX1_copyFrom 29 = .ok (.putfield 54, 3) := by decide +kernel
theorem dX1_copyFrom_32 : decode cX1_copyFrom 32 = .ok (.aload_n 0, 1) := by decide +kernel
theorem dX1_copyFrom_33 : decode cX1_copyFrom 33 = .ok (.aload_n 1, 1) := by decide +kernel
theorem dX1_copyFrom_34 : decode cX1_copyFrom 34 = .ok (.getfield 31, 3) := by decide +kernel
theorem dX1_copyFrom_37 : decode cX1_copyFrom 37 = .ok (.putfield 31, 3) := by decide +kernel
theorem dX1_copyFrom_40 : decode cX1_copyFrom 40 = .ok (.aload_n 0, 1) := by decide +kernel
theorem dX1_copyFrom_41 : decode cX1_copyFrom 41 = .ok (.aload_n 1, 1) := by decide +kernel
theorem dX1_copyFrom_42 : decode cX1_copyFrom 42 = .ok (.getfield 34, 3) := by decide +kernel
theorem dX1_copyFrom_45 : decode cX1_copyFrom 45 = .ok (.putfield 34, 3) := by decide +kernel
theorem dX1_copyFrom_48 : decode cX1_copyFrom 48 = .ok (.aload_n 0, 1) := by decide +kernel
theorem dX1_copyFrom_49 : decode cX1_copyFrom 49 = .ok (.aload_n 1, 1) := by decide +kernel
theorem dX1_copyFrom_50 : decode cX1_copyFrom 50 = .ok (.getfield 9, 3) := by decide +kernel
theorem dX1_copyFrom_53 : decode cX1_copyFrom 53 = .ok (.putfield 9, 3) := by decide +kernel
theorem dX1_copyFrom_56 : decode cX1_copyFrom 56 = .ok (.aload_n 0, 1) := by decide +kernel
theorem dX1_copyFrom_57 : decode cX1_copyFrom 57 = .ok (.aload_n 1, 1) := by decide +kernel
theorem dX1_copyFrom_58 : decode cX1_copyFrom 58 = .ok (.getfield 50, 3) := by decide +kernel
theorem dX1_copyFrom_61 : decode cX1_copyFrom 61 = .ok (.putfield 50, 3) := by decide +kernel
theorem dX1_copyFrom_64 : decode cX1_copyFrom 64 = .ok (.aload_n 0, 1) := by decide +kernel
theorem dX1_copyFrom_65 : decode cX1_copyFrom 65 = .ok (.aload_n 1, 1) := by decide +kernel
theorem dX1_copyFrom_66 : decode cX1_copyFrom 66 = .ok (.getfield 87, 3) := by decide +kernel
theorem dX1_copyFrom_69 : decode cX1_copyFrom 69 = .ok (.putfield 87, 3) := by decide +kernel
theorem dX1_copyFrom_72 : decode cX1_copyFrom 72 = .ok (.aload_n 0, 1) := by decide +kernel
theorem dX1_copyFrom_73 : decode cX1_copyFrom 73 = .ok (.getfield 20, 3) := by decide +kernel
theorem dX1_copyFrom_76 : decode cX1_copyFrom 76 = .ok (.aload_n 1, 1) := by decide +kernel
theorem dX1_copyFrom_77 : decode cX1_copyFrom 77 = .ok (.getfield 20, 3) := by decide +kernel
theorem dX1_copyFrom_80 : decode cX1_copyFrom 80 = .ok (.invokevirtual 90, 3) := by decide +kernel
theorem dX1_copyFrom_83 : decode cX1_copyFrom 83 = .ok (.aload_n 0, 1) := by decide +kernel
theorem dX1_copyFrom_84 : decode cX1_copyFrom 84 = .ok (.getfield 24, 3) := by decide +kernel
theorem dX1_copyFrom_87 : decode cX1_copyFrom 87 = .ok (.aload_n 1, 1) := by decide +kernel
theorem dX1_copyFrom_88 : decode cX1_copyFrom 88 = .ok (.getfield 24, 3) := by decide +kernel
theorem dX1_copyFrom_91 : decode cX1_copyFrom 91 = .ok (.invokevirtual 90, 3) := by decide +kernel
theorem dX1_copyFrom_94 : decode cX1_copyFrom 94 = .ok (.return_, 1) := by decide +kernel
set_option maxRecDepth 100000 in
set_option maxHeartbeats 4000000 in
/-- Row.copyFrom, row -/
theorem c_Row_copyFrom_row (l : Launch) (dC : Nat → ClassId) (dI : Nat → Nat → Nat) (cy : Nat → ClassId) (L : Lay) (b : St) (κ : Kap) (τ : Tau) (K : Lay) (sr : Option Nat) (a : St) (μ : Kap) (ν : Tau) (i : Nat) (sz : Nat) (hT : TL L none τ) (hT2 : TL K sr ν) (hAP : AP L K sr ν) (hi : i < 24) (hs : in_ (a 3 i 0) 30) : Met l yX3_copyFrom (tp_w yX3_copyFrom cX3_copyFrom 2 none) ({ frames := 1, cells := 0, slots := 0, locals := 18 }) (va_Pc [.ref (L 3 i), .ref (K 3 i)] (mPre dC dI cy (fun q e => TW cy L none b κ τ q e ∨ TW cy K sr a μ ν q e) sz)) (va_Qv (fun _ : Unit => True) (fun (_ : Unit) (t : State) => mw (dC, dI) vwCl (mA (fun q e => TW cy L none b κ τ q e ∨ TW cy K sr a μ ν q e) sz) (fun q e => TW cy L none (R_copy 3 4 b a i) κ τ q e ∨ TW cy K sr a μ ν q e) t.heap) (mA (fun q e => TW cy L none b κ τ q e ∨ TW cy K sr a μ ν q e) sz)) (0) (0) (mA (fun q e => TW cy L none b κ τ q e ∨ TW cy K sr a μ ν q e) sz) := by
  refine Met.ofW (cc := cX3_copyFrom) (maxL := 2) (ret := none) (by decide) rfl ?_
  intro p e s m args below meth c s₁ B hml hv
  obtain ⟨rfl, hsz, hP, hK, hE⟩ := hv
  have hx := B.exec
  have hb := B.bytes
  have hr := B.returns
  have hts0 := atoms_spec (ws := tp_w yX3_copyFrom cX3_copyFrom 2 none) B.pre
  have hts : ∀ w ∈ tp_all, w.before _ s = true := fun w h => hts0 w (List.mem_cons_of_mem _ h)
  have hown : s.vm.findClass RX3 = some m.cls := findClass_of_methodNamed B.named
  have hlocks := B.notSynchronized
  subst hsz
  have hP := hP.self s.heap.size
  generalize hAe : mA (fun q e => TW cy L none b κ τ q e ∨ TW cy K sr a μ ν q e) s.heap.size = A at hP ⊢
  have hA : ∀ q : Nat, s.heap.size ≤ q → A q := fun q h => by rw [← hAe]; exact Or.inr h
  have hS : va_S A s.heap s.heap [] := va_S.rf
  have hl9 := lv_entry ([.ref (L 3 i), .ref (K 3 i)]) (n := 2) (Nat.le_of_ble_eq_true rfl)
  rw [lg_entry_eq]
  generalize (lg_sl ([.ref (L 3 i), .ref (K 3 i)]) ++ List.replicate (2 - (lg_sl ([.ref (L 3 i), .ref (K 3 i)])).length) Slot.unset).toArray = ls at hl9 ⊢
  have hl : lv_has ls 2 [(0, .ref (L 3 i)), (1, .ref (K 3 i))] := hl9
  refine lv_aload_n hx hb dX3_copyFrom_0 rfl (lv_at hl 0 rfl) ?_
  refine lv_aload_n hx hb dX3_copyFrom_1 rfl (lv_at hl 1 rfl) ?_
  refine va_get (D := (dC, dI)) (ws := [(K 3 i, .inr (3, [.ref (K 4 i), .int ((a 3 i) 0)]))]) (ci := 3) (v := .int ((a 3 i) 0)) (C := RX3) (T := TX3) (N := 2) hx hb hts tl_X3 hown hK (hP.one (Or.inr (tw_mem (f := 3) (i := i) hi rfl))) 0 rfl rfl 1 (by decide) (hts _ tw_615) (fun _ h9 => h9) rfl dX3_copyFrom_2 ?_
  refine lv_aload_n hx hb dX3_copyFrom_5 rfl (lv_at hl 0 rfl) ?_
  refine va_get (D := (dC, dI)) (ws := [(L 3 i, .inr (3, [.ref (L 4 i), .int ((b 3 i) 0)]))]) (ci := 3) (v := .ref (L 4 i)) (C := RX3) (T := TX3) (N := 2) hx hb hts tl_X3 hown hK (hP.one (Or.inl (tw_mem (f := 3) (i := i) hi rfl))) 0 rfl rfl 0 (by decide) (hts _ tw_614) (fun _ h9 => h9) rfl dX3_copyFrom_6 ?_
  refine va_alen hx hb hK (ws := [(L 4 i, .inl (cy 0, 30, .inl (b 4 i)))]) (hP.one (Or.inl (tw_mem (f := 4) (i := i) hi rfl))) 0 0 rfl rfl (v := 30) rfl dX3_copyFrom_9 ?_
  refine va_mmin hx hb (hml.trans hl.1.symm) hown (hts _ tw_476) (hts _ tw_338) (hts _ tw_25) (hts _ tw_339) (Nat.le_of_ble_eq_true rfl) (Nat.le_of_ble_eq_true rfl) (Nat.le_of_ble_eq_true rfl) (Nat.le_of_ble_eq_true rfl) dX3_copyFrom_10 ?_
  refine W.eq (g2 := F0 m 13 ls [.int (a 3 i 0), .ref (L 3 i)]) (by rw [if_neg (m_nlt hs)]) ?_
  obtain ⟨ws9, k9, hPw, hDw, hk9, -, hbk⟩ := hP.cut (e := .inr (3, [.ref (L 4 i), .int ((b 3 i) 0)])) (Or.inl (tw_mem (f := 3) (i := i) hi rfl))
  refine va_put (D := (dC, dI)) (ci := 3) (v := .int (a 3 i 0)) (ty := .int) (C := RX3) (T := TX3) (N := 2) hx hb hts tl_X3 tyX3 tyX3_ok nmX3 hown hK hPw hDw hS k9 hk9 rfl 1 (by decide) (hts _ tw_615) (fun _ h9 => h9) rfl (by decide +kernel) rfl rfl (Nat.le_of_ble_eq_true rfl) dX3_copyFrom_13 (fun H locs hPw hDw hS => ?_)
  have hP : mw (dC, dI) vwCl A (fun q e => TW cy L none (S2 b 3 i (upd (b 3 i) 0 (a 3 i 0))) κ τ q e ∨ TW cy K sr a μ ν q e) H := (hbk _ _ hPw hDw).sub (mset_l (tw_set (b := S2 b 3 i (upd (b 3 i) 0 (a 3 i 0))) (f := 3) (i := i) (x := upd (b 3 i) 0 (a 3 i 0)) hT hi (by decide) rfl) (fun q e h => ap_off hAP hi h))
  clear hbk hPw hDw hk9
  refine lv_aload_n hx hb dX3_copyFrom_16 rfl (lv_at hl 1 rfl) ?_
  refine va_get (D := (dC, dI)) (ws := [(K 3 i, .inr (3, [.ref (K 4 i), .int ((a 3 i) 0)]))]) (ci := 3) (v := .ref (K 4 i)) (C := RX3) (T := TX3) (N := 2) hx hb hts tl_X3 hown hK (hP.one (Or.inr (tw_mem (f := 3) (i := i) hi rfl))) 0 rfl rfl 0 (by decide) (hts _ tw_614) (fun _ h9 => h9) rfl dX3_copyFrom_17 ?_
  refine lv_iconst (v := 0) hx hb dX3_copyFrom_20 (by decide) ?_
  refine lv_aload_n hx hb dX3_copyFrom_21 rfl (lv_at hl 0 rfl) ?_
  refine va_get (D := (dC, dI)) (ws := [(L 3 i, .inr (3, [.ref (L 4 i), .int (a 3 i 0)]))]) (ci := 3) (v := .ref (L 4 i)) (C := RX3) (T := TX3) (N := 2) hx hb hts tl_X3 hown hK (hP.one (Or.inl (tw_mem (f := 3) (i := i) (x := upd (b 3 i) 0 (a 3 i 0)) hi S2_eq))) 0 rfl rfl 0 (by decide) (hts _ tw_614) (fun _ h9 => h9) rfl dX3_copyFrom_22 ?_
  refine lv_iconst (v := 0) hx hb dX3_copyFrom_25 (by decide) ?_
  refine lv_aload_n hx hb dX3_copyFrom_26 rfl (lv_at hl 0 rfl) ?_
  refine va_get (D := (dC, dI)) (ws := [(L 3 i, .inr (3, [.ref (L 4 i), .int (a 3 i 0)]))]) (ci := 3) (v := .int (a 3 i 0)) (C := RX3) (T := TX3) (N := 2) hx hb hts tl_X3 hown hK (hP.one (Or.inl (tw_mem (f := 3) (i := i) (x := upd (b 3 i) 0 (a 3 i 0)) hi S2_eq))) 0 rfl rfl 1 (by decide) (hts _ tw_615) (fun _ h9 => h9) rfl dX3_copyFrom_27 ?_
  obtain ⟨ws9, k9, hPw, hDw, hk9, hin9, hbk⟩ := hP.cut (e := .inl (cy 0, 30, .inl (b 4 i))) (Or.inl (tw_mem (f := 4) (i := i) hi (S2_nf (by decide))))
  obtain ⟨k8, hk8⟩ := hin9 _ (.inl (cy 0, 30, .inl (a 4 i))) (Or.inr (tw_mem (f := 4) (i := i) hi rfl))
  refine va_copyi hx hb (hml.trans hl.1.symm) hown (hts _ tw_355) (hts _ tw_342) (hts _ tw_341) (hts _ tw_36) hK hPw hDw hS k8 k9 0 0 hk8 hk9 rfl rfl rfl (by decide) (by decide) (m_i0.mpr hs.1) (m_z0 hs) (m_z0 hs) (fun _ _ => rfl) (Nat.le_of_ble_eq_true rfl) (Nat.le_of_ble_eq_true rfl) dX3_copyFrom_30 (fun H locs hPw hDw hS => ?_)
  rw [show (0 : Int32).toNatClampNeg = 0 from rfl] at hPw hDw
  have hP : mw (dC, dI) vwCl A (fun q e => TW cy L none (S2 (S2 b 3 i (upd (b 3 i) 0 (a 3 i 0))) 4 i (va_cpy (a 4 i) (b 4 i) 0 0 ((a 3 i 0).toNatClampNeg))) κ τ q e ∨ TW cy K sr a μ ν q e) H := (hbk _ _ hPw hDw).sub (mset_l (tw_set (b := S2 (S2 b 3 i (upd (b 3 i) 0 (a 3 i 0))) 4 i (va_cpy (a 4 i) (b 4 i) 0 0 ((a 3 i 0).toNatClampNeg))) (f := 4) (i := i) (x := va_cpy (a 4 i) (b 4 i) 0 0 ((a 3 i 0).toNatClampNeg)) hT hi (by decide) rfl) (fun q e h => ap_off hAP hi h))
  clear hbk hPw hDw hk9
  refine W.widen (k := 0) (n := 0) (Nat.le_of_ble_eq_true rfl) (Nat.le_of_ble_eq_true rfl) ?_
  have s_1 : S2 (S2 b 3 i (upd (b 3 i) 0 (a 3 i 0))) 4 i (va_cpy (a 4 i) (b 4 i) 0 0 ((a 3 i 0).toNatClampNeg)) = R_copy 3 4 b a i := by
    first | rfl | (simp only [R_copy])
  rw [s_1] at hP
  exact W.vret hx hb hr (fun t ht hW => ⟨⟨(), rfl, trivial, (by show mw _ _ _ _ t.heap; rw [ht]; exact hP)⟩, hS.F ht⟩) hS.2.2 dX3_copyFrom_33
set_option maxRecDepth 100000 in
set_option maxHeartbeats 4000000 in
/-- Row.copyFrom, ends -/
theorem c_Row_copyFrom_ends (l : Launch) (dC : Nat → ClassId) (dI : Nat → Nat → Nat) (cy : Nat → ClassId) (L : Lay) (b : St) (κ : Kap) (τ : Tau) (K : Lay) (sr : Option Nat) (a : St) (μ : Kap) (ν : Tau) (i : Nat) (sz : Nat) (hT : TL L none τ) (hT2 : TL K sr ν) (hAP : AP L K sr ν) (hi : i < 24) (hs : in_ (a 5 i 0) 30) : Met l yX3_copyFrom (tp_w yX3_copyFrom cX3_copyFrom 2 none) ({ frames := 1, cells := 0, slots := 0, locals := 18 }) (va_Pc [.ref (L 5 i), .ref (K 5 i)] (mPre dC dI cy (fun q e => TW cy L none b κ τ q e ∨ TW cy K sr a μ ν q e) sz)) (va_Qv (fun _ : Unit => True) (fun (_ : Unit) (t : State) => mw (dC, dI) vwCl (mA (fun q e => TW cy L none b κ τ q e ∨ TW cy K sr a μ ν q e) sz) (fun q e => TW cy L none (R_copy 5 6 b a i) κ τ q e ∨ TW cy K sr a μ ν q e) t.heap) (mA (fun q e => TW cy L none b κ τ q e ∨ TW cy K sr a μ ν q e) sz)) (0) (0) (mA (fun q e => TW cy L none b κ τ q e ∨ TW cy K sr a μ ν q e) sz) := by
  refine Met.ofW (cc := cX3_copyFrom) (maxL := 2) (ret := none) (by decide) rfl ?_
  intro p e s m args below meth c s₁ B hml hv
  obtain ⟨rfl, hsz, hP, hK, hE⟩ := hv
  have hx := B.exec
  have hb := B.bytes
  have hr := B.returns
  have hts0 := atoms_spec (ws := tp_w yX3_copyFrom cX3_copyFrom 2 none) B.pre
  have hts : ∀ w ∈ tp_all, w.before _ s = true := fun w h => hts0 w (List.mem_cons_of_mem _ h)
  have hown : s.vm.findClass RX3 = some m.cls := findClass_of_methodNamed B.named
  have hlocks := B.notSynchronized
  subst hsz
  have hP := hP.self s.heap.size
  generalize hAe : mA (fun q e => TW cy L none b κ τ q e ∨ TW cy K sr a μ ν q e) s.heap.size = A at hP ⊢
  have hA : ∀ q : Nat, s.heap.size ≤ q → A q := fun q h => by rw [← hAe]; exact Or.inr h
  have hS : va_S A s.heap s.heap [] := va_S.rf
  have hl9 := lv_entry ([.ref (L 5 i), .ref (K 5 i)]) (n := 2) (Nat.le_of_ble_eq_true rfl)
  rw [lg_entry_eq]
  generalize (lg_sl ([.ref (L 5 i), .ref (K 5 i)]) ++ List.replicate (2 - (lg_sl ([.ref (L 5 i), .ref (K 5 i)])).length) Slot.unset).toArray = ls at hl9 ⊢
  have hl : lv_has ls 2 [(0, .ref (L 5 i)), (1, .ref (K 5 i))] := hl9
  refine lv_aload_n hx hb dX3_copyFrom_0 rfl (lv_at hl 0 rfl) ?_
  refine lv_aload_n hx hb dX3_copyFrom_1 rfl (lv_at hl 1 rfl) ?_
  refine va_get (D := (dC, dI)) (ws := [(K 5 i, .inr (3, [.ref (K 6 i), .int ((a 5 i) 0)]))]) (ci := 3) (v := .int ((a 5 i) 0)) (C := RX3) (T := TX3) (N := 2) hx hb hts tl_X3 hown hK (hP.one (Or.inr (tw_mem (f := 5) (i := i) hi rfl))) 0 rfl rfl 1 (by decide) (hts _ tw_615) (fun _ h9 => h9) rfl dX3_copyFrom_2 ?_
  refine lv_aload_n hx hb dX3_copyFrom_5 rfl (lv_at hl 0 rfl) ?_
  refine va_get (D := (dC, dI)) (ws := [(L 5 i, .inr (3, [.ref (L 6 i), .int ((b 5 i) 0)]))]) (ci := 3) (v := .ref (L 6 i)) (C := RX3) (T := TX3) (N := 2) hx hb hts tl_X3 hown hK (hP.one (Or.inl (tw_mem (f := 5) (i := i) hi rfl))) 0 rfl rfl 0 (by decide) (hts _ tw_614) (fun _ h9 => h9) rfl dX3_copyFrom_6 ?_
  refine va_alen hx hb hK (ws := [(L 6 i, .inl (cy 0, 30, .inl (b 6 i)))]) (hP.one (Or.inl (tw_mem (f := 6) (i := i) hi rfl))) 0 0 rfl rfl (v := 30) rfl dX3_copyFrom_9 ?_
  refine va_mmin hx hb (hml.trans hl.1.symm) hown (hts _ tw_476) (hts _ tw_338) (hts _ tw_25) (hts _ tw_339) (Nat.le_of_ble_eq_true rfl) (Nat.le_of_ble_eq_true rfl) (Nat.le_of_ble_eq_true rfl) (Nat.le_of_ble_eq_true rfl) dX3_copyFrom_10 ?_
  refine W.eq (g2 := F0 m 13 ls [.int (a 5 i 0), .ref (L 5 i)]) (by rw [if_neg (m_nlt hs)]) ?_
  obtain ⟨ws9, k9, hPw, hDw, hk9, -, hbk⟩ := hP.cut (e := .inr (3, [.ref (L 6 i), .int ((b 5 i) 0)])) (Or.inl (tw_mem (f := 5) (i := i) hi rfl))
  refine va_put (D := (dC, dI)) (ci := 3) (v := .int (a 5 i 0)) (ty := .int) (C := RX3) (T := TX3) (N := 2) hx hb hts tl_X3 tyX3 tyX3_ok nmX3 hown hK hPw hDw hS k9 hk9 rfl 1 (by decide) (hts _ tw_615) (fun _ h9 => h9) rfl (by decide +kernel) rfl rfl (Nat.le_of_ble_eq_true rfl) dX3_copyFrom_13 (fun H locs hPw hDw hS => ?_)
  have hP : mw (dC, dI) vwCl A (fun q e => TW cy L none (S2 b 5 i (upd (b 5 i) 0 (a 5 i 0))) κ τ q e ∨ TW cy K sr a μ ν q e) H := (hbk _ _ hPw hDw).sub (mset_l (tw_set (b := S2 b 5 i (upd (b 5 i) 0 (a 5 i 0))) (f := 5) (i := i) (x := upd (b 5 i) 0 (a 5 i 0)) hT hi (by decide) rfl) (fun q e h => ap_off hAP hi h))
  clear hbk hPw hDw hk9
  refine lv_aload_n hx hb dX3_copyFrom_16 rfl (lv_at hl 1 rfl) ?_
  refine va_get (D := (dC, dI)) (ws := [(K 5 i, .inr (3, [.ref (K 6 i), .int ((a 5 i) 0)]))]) (ci := 3) (v := .ref (K 6 i)) (C := RX3) (T := TX3) (N := 2) hx hb hts tl_X3 hown hK (hP.one (Or.inr (tw_mem (f := 5) (i := i) hi rfl))) 0 rfl rfl 0 (by decide) (hts _ tw_614) (fun _ h9 => h9) rfl dX3_copyFrom_17 ?_
  refine lv_iconst (v := 0) hx hb dX3_copyFrom_20 (by decide) ?_
  refine lv_aload_n hx hb dX3_copyFrom_21 rfl (lv_at hl 0 rfl) ?_
  refine va_get (D := (dC, dI)) (ws := [(L 5 i, .inr (3, [.ref (L 6 i), .int (a 5 i 0)]))]) (ci := 3) (v := .ref (L 6 i)) (C := RX3) (T := TX3) (N := 2) hx hb hts tl_X3 hown hK (hP.one (Or.inl (tw_mem (f := 5) (i := i) (x := upd (b 5 i) 0 (a 5 i 0)) hi S2_eq))) 0 rfl rfl 0 (by decide) (hts _ tw_614) (fun _ h9 => h9) rfl dX3_copyFrom_22 ?_
  refine lv_iconst (v := 0) hx hb dX3_copyFrom_25 (by decide) ?_
  refine lv_aload_n hx hb dX3_copyFrom_26 rfl (lv_at hl 0 rfl) ?_
  refine va_get (D := (dC, dI)) (ws := [(L 5 i, .inr (3, [.ref (L 6 i), .int (a 5 i 0)]))]) (ci := 3) (v := .int (a 5 i 0)) (C := RX3) (T := TX3) (N := 2) hx hb hts tl_X3 hown hK (hP.one (Or.inl (tw_mem (f := 5) (i := i) (x := upd (b 5 i) 0 (a 5 i 0)) hi S2_eq))) 0 rfl rfl 1 (by decide) (hts _ tw_615) (fun _ h9 => h9) rfl dX3_copyFrom_27 ?_
  obtain ⟨ws9, k9, hPw, hDw, hk9, hin9, hbk⟩ := hP.cut (e := .inl (cy 0, 30, .inl (b 6 i))) (Or.inl (tw_mem (f := 6) (i := i) hi (S2_nf (by decide))))
  obtain ⟨k8, hk8⟩ := hin9 _ (.inl (cy 0, 30, .inl (a 6 i))) (Or.inr (tw_mem (f := 6) (i := i) hi rfl))
  refine va_copyi hx hb (hml.trans hl.1.symm) hown (hts _ tw_355) (hts _ tw_342) (hts _ tw_341) (hts _ tw_36) hK hPw hDw hS k8 k9 0 0 hk8 hk9 rfl rfl rfl (by decide) (by decide) (m_i0.mpr hs.1) (m_z0 hs) (m_z0 hs) (fun _ _ => rfl) (Nat.le_of_ble_eq_true rfl) (Nat.le_of_ble_eq_true rfl) dX3_copyFrom_30 (fun H locs hPw hDw hS => ?_)
  rw [show (0 : Int32).toNatClampNeg = 0 from rfl] at hPw hDw
  have hP : mw (dC, dI) vwCl A (fun q e => TW cy L none (S2 (S2 b 5 i (upd (b 5 i) 0 (a 5 i 0))) 6 i (va_cpy (a 6 i) (b 6 i) 0 0 ((a 5 i 0).toNatClampNeg))) κ τ q e ∨ TW cy K sr a μ ν q e) H := (hbk _ _ hPw hDw).sub (mset_l (tw_set (b := S2 (S2 b 5 i (upd (b 5 i) 0 (a 5 i 0))) 6 i (va_cpy (a 6 i) (b 6 i) 0 0 ((a 5 i 0).toNatClampNeg))) (f := 6) (i := i) (x := va_cpy (a 6 i) (b 6 i) 0 0 ((a 5 i 0).toNatClampNeg)) hT hi (by decide) rfl) (fun q e h => ap_off hAP hi h))
  clear hbk hPw hDw hk9
  refine W.widen (k := 0) (n := 0) (Nat.le_of_ble_eq_true rfl) (Nat.le_of_ble_eq_true rfl) ?_
  have s_1 : S2 (S2 b 5 i (upd (b 5 i) 0 (a 5 i 0))) 6 i (va_cpy (a 6 i) (b 6 i) 0 0 ((a 5 i 0).toNatClampNeg)) = R_copy 5 6 b a i := by
    first | rfl | (simp only [R_copy])
  rw [s_1] at hP
  exact W.vret hx hb hr (fun t ht hW => ⟨⟨(), rfl, trivial, (by show mw _ _ _ _ t.heap; rw [ht]; exact hP)⟩, hS.F ht⟩) hS.2.2 dX3_copyFrom_33
set_option maxRecDepth 100000 in
set_option maxHeartbeats 4000000 in
/-- Row.copyFrom, wait -/
theorem c_Row_copyFrom_wait (l : Launch) (dC : Nat → ClassId) (dI : Nat → Nat → Nat) (cy : Nat → ClassId) (L : Lay) (b : St) (κ : Kap) (τ : Tau) (K : Lay) (sr : Option Nat) (a : St) (μ : Kap) (ν : Tau) (i : Nat) (sz : Nat) (hT : TL L none τ) (hT2 : TL K sr ν) (hAP : AP L K sr ν) (hi : i < 12) (hs : in_ (a 12 i 0) 200) : Met l yX3_copyFrom (tp_w yX3_copyFrom cX3_copyFrom 2 none) ({ frames := 1, cells := 0, slots := 0, locals := 18 }) (va_Pc [.ref (L 12 i), .ref (K 12 i)] (mPre dC dI cy (fun q e => TW cy L none b κ τ q e ∨ TW cy K sr a μ ν q e) sz)) (va_Qv (fun _ : Unit => True) (fun (_ : Unit) (t : State) => mw (dC, dI) vwCl (mA (fun q e => TW cy L none b κ τ q e ∨ TW cy K sr a μ ν q e) sz) (fun q e => TW cy L none (R_copy 12 13 b a i) κ τ q e ∨ TW cy K sr a μ ν q e) t.heap) (mA (fun q e => TW cy L none b κ τ q e ∨ TW cy K sr a μ ν q e) sz)) (0) (0) (mA (fun q e => TW cy L none b κ τ q e ∨ TW cy K sr a μ ν q e) sz) := by
  refine Met.ofW (cc := cX3_copyFrom) (maxL := 2) (ret := none) (by decide) rfl ?_
  intro p e s m args below meth c s₁ B hml hv
  obtain ⟨rfl, hsz, hP, hK, hE⟩ := hv
  have hx := B.exec
  have hb := B.bytes
  have hr := B.returns
  have hts0 := atoms_spec (ws := tp_w yX3_copyFrom cX3_copyFrom 2 none) B.pre
  have hts : ∀ w ∈ tp_all, w.before _ s = true := fun w h => hts0 w (List.mem_cons_of_mem _ h)
  have hown : s.vm.findClass RX3 = some m.cls := findClass_of_methodNamed B.named
  have hlocks := B.notSynchronized
  subst hsz
  have hP := hP.self s.heap.size
  generalize hAe : mA (fun q e => TW cy L none b κ τ q e ∨ TW cy K sr a μ ν q e) s.heap.size = A at hP ⊢
  have hA : ∀ q : Nat, s.heap.size ≤ q → A q := fun q h => by rw [← hAe]; exact Or.inr h
  have hS : va_S A s.heap s.heap [] := va_S.rf
  have hl9 := lv_entry ([.ref (L 12 i), .ref (K 12 i)]) (n := 2) (Nat.le_of_ble_eq_true rfl)
  rw [lg_entry_eq]
  generalize (lg_sl ([.ref (L 12 i), .ref (K 12 i)]) ++ List.replicate (2 - (lg_sl ([.ref (L 12 i), .ref (K 12 i)])).length) Slot.unset).toArray = ls at hl9 ⊢
  have hl : lv_has ls 2 [(0, .ref (L 12 i)), (1, .ref (K 12 i))] := hl9
  refine lv_aload_n hx hb dX3_copyFrom_0 rfl (lv_at hl 0 rfl) ?_
  refine lv_aload_n hx hb dX3_copyFrom_1 rfl (lv_at hl 1 rfl) ?_
  refine va_get (D := (dC, dI)) (ws := [(K 12 i, .inr (3, [.ref (K 13 i), .int ((a 12 i) 0)]))]) (ci := 3) (v := .int ((a 12 i) 0)) (C := RX3) (T := TX3) (N := 2) hx hb hts tl_X3 hown hK (hP.one (Or.inr (tw_mem (f := 12) (i := i) hi rfl))) 0 rfl rfl 1 (by decide) (hts _ tw_615) (fun _ h9 => h9) rfl dX3_copyFrom_2 ?_
  refine lv_aload_n hx hb dX3_copyFrom_5 rfl (lv_at hl 0 rfl) ?_
  refine va_get (D := (dC, dI)) (ws := [(L 12 i, .inr (3, [.ref (L 13 i), .int ((b 12 i) 0)]))]) (ci := 3) (v := .ref (L 13 i)) (C := RX3) (T := TX3) (N := 2) hx hb hts tl_X3 hown hK (hP.one (Or.inl (tw_mem (f := 12) (i := i) hi rfl))) 0 rfl rfl 0 (by decide) (hts _ tw_614) (fun _ h9 => h9) rfl dX3_copyFrom_6 ?_
  refine va_alen hx hb hK (ws := [(L 13 i, .inl (cy 0, 200, .inl (b 13 i)))]) (hP.one (Or.inl (tw_mem (f := 13) (i := i) hi rfl))) 0 0 rfl rfl (v := 200) rfl dX3_copyFrom_9 ?_
  refine va_mmin hx hb (hml.trans hl.1.symm) hown (hts _ tw_476) (hts _ tw_338) (hts _ tw_25) (hts _ tw_339) (Nat.le_of_ble_eq_true rfl) (Nat.le_of_ble_eq_true rfl) (Nat.le_of_ble_eq_true rfl) (Nat.le_of_ble_eq_true rfl) dX3_copyFrom_10 ?_
  refine W.eq (g2 := F0 m 13 ls [.int (a 12 i 0), .ref (L 12 i)]) (by rw [if_neg (m_nlt hs)]) ?_
  obtain ⟨ws9, k9, hPw, hDw, hk9, -, hbk⟩ := hP.cut (e := .inr (3, [.ref (L 13 i), .int ((b 12 i) 0)])) (Or.inl (tw_mem (f := 12) (i := i) hi rfl))
  refine va_put (D := (dC, dI)) (ci := 3) (v := .int (a 12 i 0)) (ty := .int) (C := RX3) (T := TX3) (N := 2) hx hb hts tl_X3 tyX3 tyX3_ok nmX3 hown hK hPw hDw hS k9 hk9 rfl 1 (by decide) (hts _ tw_615) (fun _ h9 => h9) rfl (by decide +kernel) rfl rfl (Nat.le_of_ble_eq_true rfl) dX3_copyFrom_13 (fun H locs hPw hDw hS => ?_)
  have hP : mw (dC, dI) vwCl A (fun q e => TW cy L none (S2 b 12 i (upd (b 12 i) 0 (a 12 i 0))) κ τ q e ∨ TW cy K sr a μ ν q e) H := (hbk _ _ hPw hDw).sub (mset_l (tw_set (b := S2 b 12 i (upd (b 12 i) 0 (a 12 i 0))) (f := 12) (i := i) (x := upd (b 12 i) 0 (a 12 i 0)) hT hi (by decide) rfl) (fun q e h => ap_off hAP hi h))
  clear hbk hPw hDw hk9
  refine lv_aload_n hx hb dX3_copyFrom_16 rfl (lv_at hl 1 rfl) ?_
  refine va_get (D := (dC, dI)) (ws := [(K 12 i, .inr (3, [.ref (K 13 i), .int ((a 12 i) 0)]))]) (ci := 3) (v := .ref (K 13 i)) (C := RX3) (T := TX3) (N := 2) hx hb hts tl_X3 hown hK (hP.one (Or.inr (tw_mem (f := 12) (i := i) hi rfl))) 0 rfl rfl 0 (by decide) (hts _ tw_614) (fun _ h9 => h9) rfl dX3_copyFrom_17 ?_
  refine lv_iconst (v := 0) hx hb dX3_copyFrom_20 (by decide) ?_
  refine lv_aload_n hx hb dX3_copyFrom_21 rfl (lv_at hl 0 rfl) ?_
  refine va_get (D := (dC, dI)) (ws := [(L 12 i, .inr (3, [.ref (L 13 i), .int (a 12 i 0)]))]) (ci := 3) (v := .ref (L 13 i)) (C := RX3) (T := TX3) (N := 2) hx hb hts tl_X3 hown hK (hP.one (Or.inl (tw_mem (f := 12) (i := i) (x := upd (b 12 i) 0 (a 12 i 0)) hi S2_eq))) 0 rfl rfl 0 (by decide) (hts _ tw_614) (fun _ h9 => h9) rfl dX3_copyFrom_22 ?_
  refine lv_iconst (v := 0) hx hb dX3_copyFrom_25 (by decide) ?_
  refine lv_aload_n hx hb dX3_copyFrom_26 rfl (lv_at hl 0 rfl) ?_
  refine va_get (D := (dC, dI)) (ws := [(L 12 i, .inr (3, [.ref (L 13 i), .int (a 12 i 0)]))]) (ci := 3) (v := .int (a 12 i 0)) (C := RX3) (T := TX3) (N := 2) hx hb hts tl_X3 hown hK (hP.one (Or.inl (tw_mem (f := 12) (i := i) (x := upd (b 12 i) 0 (a 12 i 0)) hi S2_eq))) 0 rfl rfl 1 (by decide) (hts _ tw_615) (fun _ h9 => h9) rfl dX3_copyFrom_27 ?_
  obtain ⟨ws9, k9, hPw, hDw, hk9, hin9, hbk⟩ := hP.cut (e := .inl (cy 0, 200, .inl (b 13 i))) (Or.inl (tw_mem (f := 13) (i := i) hi (S2_nf (by decide))))
  obtain ⟨k8, hk8⟩ := hin9 _ (.inl (cy 0, 200, .inl (a 13 i))) (Or.inr (tw_mem (f := 13) (i := i) hi rfl))
  refine va_copyi hx hb (hml.trans hl.1.symm) hown (hts _ tw_355) (hts _ tw_342) (hts _ tw_341) (hts _ tw_36) hK hPw hDw hS k8 k9 0 0 hk8 hk9 rfl rfl rfl (by decide) (by decide) (m_i0.mpr hs.1) (m_z0 hs) (m_z0 hs) (fun _ _ => rfl) (Nat.le_of_ble_eq_true rfl) (Nat.le_of_ble_eq_true rfl) dX3_copyFrom_30 (fun H locs hPw hDw hS => ?_)
  rw [show (0 : Int32).toNatClampNeg = 0 from rfl] at hPw hDw
  have hP : mw (dC, dI) vwCl A (fun q e => TW cy L none (S2 (S2 b 12 i (upd (b 12 i) 0 (a 12 i 0))) 13 i (va_cpy (a 13 i) (b 13 i) 0 0 ((a 12 i 0).toNatClampNeg))) κ τ q e ∨ TW cy K sr a μ ν q e) H := (hbk _ _ hPw hDw).sub (mset_l (tw_set (b := S2 (S2 b 12 i (upd (b 12 i) 0 (a 12 i 0))) 13 i (va_cpy (a 13 i) (b 13 i) 0 0 ((a 12 i 0).toNatClampNeg))) (f := 13) (i := i) (x := va_cpy (a 13 i) (b 13 i) 0 0 ((a 12 i 0).toNatClampNeg)) hT hi (by decide) rfl) (fun q e h => ap_off hAP hi h))
  clear hbk hPw hDw hk9
  refine W.widen (k := 0) (n := 0) (Nat.le_of_ble_eq_true rfl) (Nat.le_of_ble_eq_true rfl) ?_
  have s_1 : S2 (S2 b 12 i (upd (b 12 i) 0 (a 12 i 0))) 13 i (va_cpy (a 13 i) (b 13 i) 0 0 ((a 12 i 0).toNatClampNeg)) = R_copy 12 13 b a i := by
    first | rfl | (simp only [R_copy])
  rw [s_1] at hP
  exact W.vret hx hb hr (fun t ht hW => ⟨⟨(), rfl, trivial, (by show mw _ _ _ _ t.heap; rw [ht]; exact hP)⟩, hS.F ht⟩) hS.2.2 dX3_copyFrom_33
set_option maxRecDepth 100000 in
set_option maxHeartbeats 4000000 in
/-- Signal.copyFrom -/
theorem c_Signal_copyFrom (l : Launch) (dC : Nat → ClassId) (dI : Nat → Nat → Nat) (cy : Nat → ClassId) (L : Lay) (b : St) (κ : Kap) (τ : Tau) (K : Lay) (sr : Option Nat) (a : St) (μ : Kap) (ν : Tau) (n : Nat) (sz : Nat) (hT : TL L none τ) (hT2 : TL K sr ν) (hAP : AP L K sr ν) (hi : n < 12) : Met l yX4_copyFrom (tp_w yX4_copyFrom cX4_copyFrom 2 none) ({ frames := 1, cells := 0, slots := 0, locals := 18 }) (va_Pc [.ref (L 8 n), .ref (K 8 n)] (mPre dC dI cy (fun q e => TW cy L none b κ τ q e ∨ TW cy K sr a μ ν q e) sz)) (va_Qv (fun _ : Unit => True) (fun (_ : Unit) (t : State) => mw (dC, dI) vwCl (mA (fun q e => TW cy L none b κ τ q e ∨ TW cy K sr a μ ν q e) sz) (fun q e => TW cy L none (S_copy b a n) κ τ q e ∨ TW cy K sr a μ ν q e) t.heap) (mA (fun q e => TW cy L none b κ τ q e ∨ TW cy K sr a μ ν q e) sz)) (0) (0) (mA (fun q e => TW cy L none b κ τ q e ∨ TW cy K sr a μ ν q e) sz) := by
  refine Met.ofW (cc := cX4_copyFrom) (maxL := 2) (ret := none) (by decide) rfl ?_
  intro p e s m args below meth c s₁ B hml hv
  obtain ⟨rfl, hsz, hP, hK, hE⟩ := hv
  have hx := B.exec
  have hb := B.bytes
  have hr := B.returns
  have hts0 := atoms_spec (ws := tp_w yX4_copyFrom cX4_copyFrom 2 none) B.pre
  have hts : ∀ w ∈ tp_all, w.before _ s = true := fun w h => hts0 w (List.mem_cons_of_mem _ h)
  have hown : s.vm.findClass RX4 = some m.cls := findClass_of_methodNamed B.named
  have hlocks := B.notSynchronized
  subst hsz
  have hP := hP.self s.heap.size
  generalize hAe : mA (fun q e => TW cy L none b κ τ q e ∨ TW cy K sr a μ ν q e) s.heap.size = A at hP ⊢
  have hA : ∀ q : Nat, s.heap.size ≤ q → A q := fun q h => by rw [← hAe]; exact Or.inr h
  have hS : va_S A s.heap s.heap [] := va_S.rf
  have hl9 := lv_entry ([.ref (L 8 n), .ref (K 8 n)]) (n := 2) (Nat.le_of_ble_eq_true rfl)
  rw [lg_entry_eq]
  generalize (lg_sl ([.ref (L 8 n), .ref (K 8 n)]) ++ List.replicate (2 - (lg_sl ([.ref (L 8 n), .ref (K 8 n)])).length) Slot.unset).toArray = ls at hl9 ⊢
  have hl : lv_has ls 2 [(0, .ref (L 8 n)), (1, .ref (K 8 n))] := hl9
  refine lv_aload_n hx hb dX4_copyFrom_0 rfl (lv_at hl 1 rfl) ?_
  refine va_get (D := (dC, dI)) (ws := [(K 8 n, .inr (4, [.ref (K 9 n), .ref (K 10 n), .ref (K 11 n), .int ((a 8 n) 0), .int ((a 8 n) 1), .int ((a 8 n) 2)]))]) (ci := 4) (v := .ref (K 9 n)) (C := RX4) (T := TX4) (N := 6) hx hb hts tl_X4 hown hK (hP.one (Or.inr (tw_mem (f := 8) (i := n) hi rfl))) 0 rfl rfl 0 (by decide) (hts _ tw_735) (fun _ h9 => h9) rfl dX4_copyFrom_1 ?_
  refine lv_iconst (v := 0) hx hb dX4_copyFrom_4 (by decide) ?_
  refine lv_aload_n hx hb dX4_copyFrom_5 rfl (lv_at hl 0 rfl) ?_
  refine va_get (D := (dC, dI)) (ws := [(L 8 n, .inr (4, [.ref (L 9 n), .ref (L 10 n), .ref (L 11 n), .int ((b 8 n) 0), .int ((b 8 n) 1), .int ((b 8 n) 2)]))]) (ci := 4) (v := .ref (L 9 n)) (C := RX4) (T := TX4) (N := 6) hx hb hts tl_X4 hown hK (hP.one (Or.inl (tw_mem (f := 8) (i := n) hi rfl))) 0 rfl rfl 0 (by decide) (hts _ tw_735) (fun _ h9 => h9) rfl dX4_copyFrom_6 ?_
  refine lv_iconst (v := 0) hx hb dX4_copyFrom_9 (by decide) ?_
  refine lv_iconst (v := 4) hx hb dX4_copyFrom_10 (by decide) ?_
  obtain ⟨ws9, k9, hPw, hDw, hk9, hin9, hbk⟩ := hP.cut (e := .inl (cy 0, 4, .inl (b 9 n))) (Or.inl (tw_mem (f := 9) (i := n) hi rfl))
  obtain ⟨k8, hk8⟩ := hin9 _ (.inl (cy 0, 4, .inl (a 9 n))) (Or.inr (tw_mem (f := 9) (i := n) hi rfl))
  refine va_copyi hx hb (hml.trans hl.1.symm) hown (hts _ tw_481) (hts _ tw_342) (hts _ tw_341) (hts _ tw_36) hK hPw hDw hS k8 k9 0 0 hk8 hk9 rfl rfl rfl (by decide) (by decide) (by decide) (by decide) (by decide) (fun _ _ => rfl) (Nat.le_of_ble_eq_true rfl) (Nat.le_of_ble_eq_true rfl) dX4_copyFrom_11 (fun H locs hPw hDw hS => ?_)
  rw [show (0 : Int32).toNatClampNeg = 0 from rfl, show (4 : Int32).toNatClampNeg = 4 from rfl] at hPw hDw
  have hP : mw (dC, dI) vwCl A (fun q e => TW cy L none (S2 b 9 n (va_cpy (a 9 n) (b 9 n) 0 0 4)) κ τ q e ∨ TW cy K sr a μ ν q e) H := (hbk _ _ hPw hDw).sub (mset_l (tw_set (b := S2 b 9 n (va_cpy (a 9 n) (b 9 n) 0 0 4)) (f := 9) (i := n) (x := va_cpy (a 9 n) (b 9 n) 0 0 4) hT hi (by decide) rfl) (fun q e h => ap_off hAP hi h))
  clear hbk hPw hDw hk9
  refine lv_aload_n hx hb dX4_copyFrom_14 rfl (lv_at hl 1 rfl) ?_
  refine va_get (D := (dC, dI)) (ws := [(K 8 n, .inr (4, [.ref (K 9 n), .ref (K 10 n), .ref (K 11 n), .int ((a 8 n) 0), .int ((a 8 n) 1), .int ((a 8 n) 2)]))]) (ci := 4) (v := .ref (K 10 n)) (C := RX4) (T := TX4) (N := 6) hx hb hts tl_X4 hown hK (hP.one (Or.inr (tw_mem (f := 8) (i := n) hi rfl))) 0 rfl rfl 1 (by decide) (hts _ tw_736) (fun _ h9 => h9) rfl dX4_copyFrom_15 ?_
  refine lv_iconst (v := 0) hx hb dX4_copyFrom_18 (by decide) ?_
  refine lv_aload_n hx hb dX4_copyFrom_19 rfl (lv_at hl 0 rfl) ?_
  refine va_get (D := (dC, dI)) (ws := [(L 8 n, .inr (4, [.ref (L 9 n), .ref (L 10 n), .ref (L 11 n), .int ((b 8 n) 0), .int ((b 8 n) 1), .int ((b 8 n) 2)]))]) (ci := 4) (v := .ref (L 10 n)) (C := RX4) (T := TX4) (N := 6) hx hb hts tl_X4 hown hK (hP.one (Or.inl (tw_mem (f := 8) (i := n) hi (S2_nf (by decide))))) 0 rfl rfl 1 (by decide) (hts _ tw_736) (fun _ h9 => h9) rfl dX4_copyFrom_20 ?_
  refine lv_iconst (v := 0) hx hb dX4_copyFrom_23 (by decide) ?_
  refine lv_iconst (v := 4) hx hb dX4_copyFrom_24 (by decide) ?_
  obtain ⟨ws9, k9, hPw, hDw, hk9, hin9, hbk⟩ := hP.cut (e := .inl (cy 0, 4, .inl (b 10 n))) (Or.inl (tw_mem (f := 10) (i := n) hi (S2_nf (by decide))))
  obtain ⟨k8, hk8⟩ := hin9 _ (.inl (cy 0, 4, .inl (a 10 n))) (Or.inr (tw_mem (f := 10) (i := n) hi rfl))
  refine va_copyi hx hb (hml.trans hl.1.symm) hown (hts _ tw_481) (hts _ tw_342) (hts _ tw_341) (hts _ tw_36) hK hPw hDw hS k8 k9 0 0 hk8 hk9 rfl rfl rfl (by decide) (by decide) (by decide) (by decide) (by decide) (fun _ _ => rfl) (Nat.le_of_ble_eq_true rfl) (Nat.le_of_ble_eq_true rfl) dX4_copyFrom_25 (fun H locs hPw hDw hS => ?_)
  rw [show (0 : Int32).toNatClampNeg = 0 from rfl, show (4 : Int32).toNatClampNeg = 4 from rfl] at hPw hDw
  have hP : mw (dC, dI) vwCl A (fun q e => TW cy L none (S2 (S2 b 9 n (va_cpy (a 9 n) (b 9 n) 0 0 4)) 10 n (va_cpy (a 10 n) (b 10 n) 0 0 4)) κ τ q e ∨ TW cy K sr a μ ν q e) H := (hbk _ _ hPw hDw).sub (mset_l (tw_set (b := S2 (S2 b 9 n (va_cpy (a 9 n) (b 9 n) 0 0 4)) 10 n (va_cpy (a 10 n) (b 10 n) 0 0 4)) (f := 10) (i := n) (x := va_cpy (a 10 n) (b 10 n) 0 0 4) hT hi (by decide) rfl) (fun q e h => ap_off hAP hi h))
  clear hbk hPw hDw hk9
  refine lv_aload_n hx hb dX4_copyFrom_28 rfl (lv_at hl 1 rfl) ?_
  refine va_get (D := (dC, dI)) (ws := [(K 8 n, .inr (4, [.ref (K 9 n), .ref (K 10 n), .ref (K 11 n), .int ((a 8 n) 0), .int ((a 8 n) 1), .int ((a 8 n) 2)]))]) (ci := 4) (v := .ref (K 11 n)) (C := RX4) (T := TX4) (N := 6) hx hb hts tl_X4 hown hK (hP.one (Or.inr (tw_mem (f := 8) (i := n) hi rfl))) 0 rfl rfl 2 (by decide) (hts _ tw_737) (fun _ h9 => h9) rfl dX4_copyFrom_29 ?_
  refine lv_iconst (v := 0) hx hb dX4_copyFrom_32 (by decide) ?_
  refine lv_aload_n hx hb dX4_copyFrom_33 rfl (lv_at hl 0 rfl) ?_
  refine va_get (D := (dC, dI)) (ws := [(L 8 n, .inr (4, [.ref (L 9 n), .ref (L 10 n), .ref (L 11 n), .int ((b 8 n) 0), .int ((b 8 n) 1), .int ((b 8 n) 2)]))]) (ci := 4) (v := .ref (L 11 n)) (C := RX4) (T := TX4) (N := 6) hx hb hts tl_X4 hown hK (hP.one (Or.inl (tw_mem (f := 8) (i := n) hi ((S2_nf (by decide)).trans (S2_nf (by decide)))))) 0 rfl rfl 2 (by decide) (hts _ tw_737) (fun _ h9 => h9) rfl dX4_copyFrom_34 ?_
  refine lv_iconst (v := 0) hx hb dX4_copyFrom_37 (by decide) ?_
  refine lv_iconst (v := 4) hx hb dX4_copyFrom_38 (by decide) ?_
  obtain ⟨ws9, k9, hPw, hDw, hk9, hin9, hbk⟩ := hP.cut (e := .inl (cy 0, 4, .inl (b 11 n))) (Or.inl (tw_mem (f := 11) (i := n) hi ((S2_nf (by decide)).trans (S2_nf (by decide)))))
  obtain ⟨k8, hk8⟩ := hin9 _ (.inl (cy 0, 4, .inl (a 11 n))) (Or.inr (tw_mem (f := 11) (i := n) hi rfl))
  refine va_copyi hx hb (hml.trans hl.1.symm) hown (hts _ tw_481) (hts _ tw_342) (hts _ tw_341) (hts _ tw_36) hK hPw hDw hS k8 k9 0 0 hk8 hk9 rfl rfl rfl (by decide) (by decide) (by decide) (by decide) (by decide) (fun _ _ => rfl) (Nat.le_of_ble_eq_true rfl) (Nat.le_of_ble_eq_true rfl) dX4_copyFrom_39 (fun H locs hPw hDw hS => ?_)
  rw [show (0 : Int32).toNatClampNeg = 0 from rfl, show (4 : Int32).toNatClampNeg = 4 from rfl] at hPw hDw
  have hP : mw (dC, dI) vwCl A (fun q e => TW cy L none (S2 (S2 (S2 b 9 n (va_cpy (a 9 n) (b 9 n) 0 0 4)) 10 n (va_cpy (a 10 n) (b 10 n) 0 0 4)) 11 n (va_cpy (a 11 n) (b 11 n) 0 0 4)) κ τ q e ∨ TW cy K sr a μ ν q e) H := (hbk _ _ hPw hDw).sub (mset_l (tw_set (b := S2 (S2 (S2 b 9 n (va_cpy (a 9 n) (b 9 n) 0 0 4)) 10 n (va_cpy (a 10 n) (b 10 n) 0 0 4)) 11 n (va_cpy (a 11 n) (b 11 n) 0 0 4)) (f := 11) (i := n) (x := va_cpy (a 11 n) (b 11 n) 0 0 4) hT hi (by decide) rfl) (fun q e h => ap_off hAP hi h))
  clear hbk hPw hDw hk9
  refine lv_aload_n hx hb dX4_copyFrom_42 rfl (lv_at hl 0 rfl) ?_
  refine lv_aload_n hx hb dX4_copyFrom_43 rfl (lv_at hl 1 rfl) ?_
  refine va_get (D := (dC, dI)) (ws := [(K 8 n, .inr (4, [.ref (K 9 n), .ref (K 10 n), .ref (K 11 n), .int ((a 8 n) 0), .int ((a 8 n) 1), .int ((a 8 n) 2)]))]) (ci := 4) (v := .int ((a 8 n) 0)) (C := RX4) (T := TX4) (N := 6) hx hb hts tl_X4 hown hK (hP.one (Or.inr (tw_mem (f := 8) (i := n) hi rfl))) 0 rfl rfl 3 (by decide) (hts _ tw_738) (fun _ h9 => h9) rfl dX4_copyFrom_44 ?_
  obtain ⟨ws9, k9, hPw, hDw, hk9, -, hbk⟩ := hP.cut (e := .inr (4, [.ref (L 9 n), .ref (L 10 n), .ref (L 11 n), .int ((b 8 n) 0), .int ((b 8 n) 1), .int ((b 8 n) 2)])) (Or.inl (tw_mem (f := 8) (i := n) hi ((S2_nf (by decide)).trans ((S2_nf (by decide)).trans (S2_nf (by decide))))))
  refine va_put (D := (dC, dI)) (ci := 4) (v := .int ((a 8 n) 0)) (ty := .int) (C := RX4) (T := TX4) (N := 6) hx hb hts tl_X4 tyX4 tyX4_ok nmX4 hown hK hPw hDw hS k9 hk9 rfl 3 (by decide) (hts _ tw_738) (fun _ h9 => h9) rfl (by decide +kernel) rfl rfl (Nat.le_of_ble_eq_true rfl) dX4_copyFrom_47 (fun H locs hPw hDw hS => ?_)
  have hP : mw (dC, dI) vwCl A (fun q e => TW cy L none (S2 (S2 (S2 (S2 b 9 n (va_cpy (a 9 n) (b 9 n) 0 0 4)) 10 n (va_cpy (a 10 n) (b 10 n) 0 0 4)) 11 n (va_cpy (a 11 n) (b 11 n) 0 0 4)) 8 n (upd (b 8 n) 0 ((a 8 n) 0))) κ τ q e ∨ TW cy K sr a μ ν q e) H := (hbk _ _ hPw hDw).sub (mset_l (tw_set (b := S2 (S2 (S2 (S2 b 9 n (va_cpy (a 9 n) (b 9 n) 0 0 4)) 10 n (va_cpy (a 10 n) (b 10 n) 0 0 4)) 11 n (va_cpy (a 11 n) (b 11 n) 0 0 4)) 8 n (upd (b 8 n) 0 ((a 8 n) 0))) (f := 8) (i := n) (x := upd (b 8 n) 0 ((a 8 n) 0)) hT hi (by decide) rfl) (fun q e h => ap_off hAP hi h))
  clear hbk hPw hDw hk9
  refine lv_aload_n hx hb dX4_copyFrom_50 rfl (lv_at hl 0 rfl) ?_
  refine lv_aload_n hx hb dX4_copyFrom_51 rfl (lv_at hl 1 rfl) ?_
  refine va_get (D := (dC, dI)) (ws := [(K 8 n, .inr (4, [.ref (K 9 n), .ref (K 10 n), .ref (K 11 n), .int ((a 8 n) 0), .int ((a 8 n) 1), .int ((a 8 n) 2)]))]) (ci := 4) (v := .int ((a 8 n) 1)) (C := RX4) (T := TX4) (N := 6) hx hb hts tl_X4 hown hK (hP.one (Or.inr (tw_mem (f := 8) (i := n) hi rfl))) 0 rfl rfl 4 (by decide) (hts _ tw_741) (fun _ h9 => h9) rfl dX4_copyFrom_52 ?_
  obtain ⟨ws9, k9, hPw, hDw, hk9, -, hbk⟩ := hP.cut (e := .inr (4, [.ref (L 9 n), .ref (L 10 n), .ref (L 11 n), .int ((a 8 n) 0), .int ((b 8 n) 1), .int ((b 8 n) 2)])) (Or.inl (tw_mem (f := 8) (i := n) (x := upd (b 8 n) 0 ((a 8 n) 0)) hi S2_eq))
  refine va_put (D := (dC, dI)) (ci := 4) (v := .int ((a 8 n) 1)) (ty := .int) (C := RX4) (T := TX4) (N := 6) hx hb hts tl_X4 tyX4 tyX4_ok nmX4 hown hK hPw hDw hS k9 hk9 rfl 4 (by decide) (hts _ tw_741) (fun _ h9 => h9) rfl (by decide +kernel) rfl rfl (Nat.le_of_ble_eq_true rfl) dX4_copyFrom_55 (fun H locs hPw hDw hS => ?_)
  have hP : mw (dC, dI) vwCl A (fun q e => TW cy L none (S2 (S2 (S2 (S2 b 9 n (va_cpy (a 9 n) (b 9 n) 0 0 4)) 10 n (va_cpy (a 10 n) (b 10 n) 0 0 4)) 11 n (va_cpy (a 11 n) (b 11 n) 0 0 4)) 8 n (upd (upd (b 8 n) 0 ((a 8 n) 0)) 1 ((a 8 n) 1))) κ τ q e ∨ TW cy K sr a μ ν q e) H := (hbk _ _ hPw hDw).sub (mset_l (tw_set (b := S2 (S2 (S2 (S2 b 9 n (va_cpy (a 9 n) (b 9 n) 0 0 4)) 10 n (va_cpy (a 10 n) (b 10 n) 0 0 4)) 11 n (va_cpy (a 11 n) (b 11 n) 0 0 4)) 8 n (upd (upd (b 8 n) 0 ((a 8 n) 0)) 1 ((a 8 n) 1))) (f := 8) (i := n) (x := upd (upd (b 8 n) 0 ((a 8 n) 0)) 1 ((a 8 n) 1)) hT hi (by decide) S2_S2.symm) (fun q e h => ap_off hAP hi h))
  clear hbk hPw hDw hk9
  refine lv_aload_n hx hb dX4_copyFrom_58 rfl (lv_at hl 0 rfl) ?_
  refine lv_aload_n hx hb dX4_copyFrom_59 rfl (lv_at hl 1 rfl) ?_
  refine va_get (D := (dC, dI)) (ws := [(K 8 n, .inr (4, [.ref (K 9 n), .ref (K 10 n), .ref (K 11 n), .int ((a 8 n) 0), .int ((a 8 n) 1), .int ((a 8 n) 2)]))]) (ci := 4) (v := .int ((a 8 n) 2)) (C := RX4) (T := TX4) (N := 6) hx hb hts tl_X4 hown hK (hP.one (Or.inr (tw_mem (f := 8) (i := n) hi rfl))) 0 rfl rfl 5 (by decide) (hts _ tw_743) (fun _ h9 => h9) rfl dX4_copyFrom_60 ?_
  obtain ⟨ws9, k9, hPw, hDw, hk9, -, hbk⟩ := hP.cut (e := .inr (4, [.ref (L 9 n), .ref (L 10 n), .ref (L 11 n), .int ((a 8 n) 0), .int ((a 8 n) 1), .int ((b 8 n) 2)])) (Or.inl (tw_mem (f := 8) (i := n) (x := upd (upd (b 8 n) 0 ((a 8 n) 0)) 1 ((a 8 n) 1)) hi S2_eq))
  refine va_put (D := (dC, dI)) (ci := 4) (v := .int ((a 8 n) 2)) (ty := .int) (C := RX4) (T := TX4) (N := 6) hx hb hts tl_X4 tyX4 tyX4_ok nmX4 hown hK hPw hDw hS k9 hk9 rfl 5 (by decide) (hts _ tw_743) (fun _ h9 => h9) rfl (by decide +kernel) rfl rfl (Nat.le_of_ble_eq_true rfl) dX4_copyFrom_63 (fun H locs hPw hDw hS => ?_)
  have hP : mw (dC, dI) vwCl A (fun q e => TW cy L none (S2 (S2 (S2 (S2 b 9 n (va_cpy (a 9 n) (b 9 n) 0 0 4)) 10 n (va_cpy (a 10 n) (b 10 n) 0 0 4)) 11 n (va_cpy (a 11 n) (b 11 n) 0 0 4)) 8 n (upd (upd (upd (b 8 n) 0 ((a 8 n) 0)) 1 ((a 8 n) 1)) 2 ((a 8 n) 2))) κ τ q e ∨ TW cy K sr a μ ν q e) H := (hbk _ _ hPw hDw).sub (mset_l (tw_set (b := S2 (S2 (S2 (S2 b 9 n (va_cpy (a 9 n) (b 9 n) 0 0 4)) 10 n (va_cpy (a 10 n) (b 10 n) 0 0 4)) 11 n (va_cpy (a 11 n) (b 11 n) 0 0 4)) 8 n (upd (upd (upd (b 8 n) 0 ((a 8 n) 0)) 1 ((a 8 n) 1)) 2 ((a 8 n) 2))) (f := 8) (i := n) (x := upd (upd (upd (b 8 n) 0 ((a 8 n) 0)) 1 ((a 8 n) 1)) 2 ((a 8 n) 2)) hT hi (by decide) S2_S2.symm) (fun q e h => ap_off hAP hi h))
  clear hbk hPw hDw hk9
  refine W.widen (k := 0) (n := 0) (Nat.le_of_ble_eq_true rfl) (Nat.le_of_ble_eq_true rfl) ?_
  have s_1 : S2 (S2 (S2 (S2 b 9 n (va_cpy (a 9 n) (b 9 n) 0 0 4)) 10 n (va_cpy (a 10 n) (b 10 n) 0 0 4)) 11 n (va_cpy (a 11 n) (b 11 n) 0 0 4)) 8 n (upd (upd (upd (b 8 n) 0 ((a 8 n) 0)) 1 ((a 8 n) 1)) 2 ((a 8 n) 2)) = S_copy b a n := by
    first | rfl | (simp only [S_copy])
  rw [s_1] at hP
  exact W.vret hx hb hr (fun t ht hW => ⟨⟨(), rfl, trivial, (by show mw _ _ _ _ t.heap; rw [ht]; exact hP)⟩, hS.F ht⟩) hS.2.2 dX4_copyFrom_66
set_option maxRecDepth 100000 in
set_option maxHeartbeats 4000000 in
/-- Vehicle.copyFrom -/
theorem c_Vehicle_copyFrom (l : Launch) (dC : Nat → ClassId) (dI : Nat → Nat → Nat) (cy : Nat → ClassId) (L : Lay) (b : St) (κ : Kap) (τ : Tau) (K : Lay) (sr : Option Nat) (a : St) (μ : Kap) (ν : Tau) (v : Nat) (sz : Nat) (hT : TL L none τ) (hT2 : TL K sr ν) (hAP : AP L K sr ν) (hi : v < 200) : Met l yX7_copyFrom (tp_w yX7_copyFrom cX7_copyFrom 2 none) ({ frames := 1, cells := 0, slots := 0, locals := 24 }) (va_Pc [.ref (L 15 v), .ref (K 15 v)] (mPre dC dI cy (fun q e => TW cy L none b κ τ q e ∨ TW cy K sr a μ ν q e) sz)) (va_Qv (fun _ : Unit => True) (fun (_ : Unit) (t : State) => mw (dC, dI) vwCl (mA (fun q e => TW cy L none b κ τ q e ∨ TW cy K sr a μ ν q e) sz) (fun q e => TW cy L none (V_copy b a v) κ τ q e ∨ TW cy K sr a μ ν q e) t.heap) (mA (fun q e => TW cy L none b κ τ q e ∨ TW cy K sr a μ ν q e) sz)) (0) (0) (mA (fun q e => TW cy L none b κ τ q e ∨ TW cy K sr a μ ν q e) sz) := by
  refine Met.ofW (cc := cX7_copyFrom) (maxL := 2) (ret := none) (by decide) rfl ?_
  intro p e s m args below meth c s₁ B hml hv
  obtain ⟨rfl, hsz, hP, hK, hE⟩ := hv
  have hx := B.exec
  have hb := B.bytes
  have hr := B.returns
  have hts0 := atoms_spec (ws := tp_w yX7_copyFrom cX7_copyFrom 2 none) B.pre
  have hts : ∀ w ∈ tp_all, w.before _ s = true := fun w h => hts0 w (List.mem_cons_of_mem _ h)
  have hown : s.vm.findClass RX7 = some m.cls := findClass_of_methodNamed B.named
  have hlocks := B.notSynchronized
  subst hsz
  have hP := hP.self s.heap.size
  generalize hAe : mA (fun q e => TW cy L none b κ τ q e ∨ TW cy K sr a μ ν q e) s.heap.size = A at hP ⊢
  have hA : ∀ q : Nat, s.heap.size ≤ q → A q := fun q h => by rw [← hAe]; exact Or.inr h
  have hS : va_S A s.heap s.heap [] := va_S.rf
  have hl9 := lv_entry ([.ref (L 15 v), .ref (K 15 v)]) (n := 2) (Nat.le_of_ble_eq_true rfl)
  rw [lg_entry_eq]
  generalize (lg_sl ([.ref (L 15 v), .ref (K 15 v)]) ++ List.replicate (2 - (lg_sl ([.ref (L 15 v), .ref (K 15 v)])).length) Slot.unset).toArray = ls at hl9 ⊢
  have hl : lv_has ls 2 [(0, .ref (L 15 v)), (1, .ref (K 15 v))] := hl9
  refine lv_aload_n hx hb dX7_copyFrom_0 rfl (lv_at hl 0 rfl) ?_
  refine lv_aload_n hx hb dX7_copyFrom_1 rfl (lv_at hl 1 rfl) ?_
  refine va_get (D := (dC, dI)) (ws := [(K 15 v, .inr (7, [.int ((a 15 v) 0), .int ((a 15 v) 1), .int ((a 15 v) 2), .int ((a 15 v) 3), .int ((a 15 v) 4), .int ((a 15 v) 5), .int ((a 15 v) 6), .int ((a 15 v) 7), .int ((a 15 v) 8), .int ((a 15 v) 9), .int ((a 15 v) 10), .int ((a 15 v) 11), .ref (K 16 v)]))]) (ci := 7) (v := .int ((a 15 v) 0)) (C := RX7) (T := TX7) (N := 13) hx hb hts tl_X7 hown hK (hP.one (Or.inr (tw_mem (f := 15) (i := v) hi rfl))) 0 rfl rfl 0 (by decide) (hts _ tw_818) (fun _ h9 => h9) rfl dX7_copyFrom_2 ?_
  refine lv_aload_n hx hb dX7_copyFrom_5 rfl (lv_at hl 1 rfl) ?_
  refine va_get (D := (dC, dI)) (ws := [(K 15 v, .inr (7, [.int ((a 15 v) 0), .int ((a 15 v) 1), .int ((a 15 v) 2), .int ((a 15 v) 3), .int ((a 15 v) 4), .int ((a 15 v) 5), .int ((a 15 v) 6), .int ((a 15 v) 7), .int ((a 15 v) 8), .int ((a 15 v) 9), .int ((a 15 v) 10), .int ((a 15 v) 11), .ref (K 16 v)]))]) (ci := 7) (v := .int ((a 15 v) 1)) (C := RX7) (T := TX7) (N := 13) hx hb hts tl_X7 hown hK (hP.one (Or.inr (tw_mem (f := 15) (i := v) hi rfl))) 0 rfl rfl 1 (by decide) (hts _ tw_820) (fun _ h9 => h9) rfl dX7_copyFrom_6 ?_
  refine lv_aload_n hx hb dX7_copyFrom_9 rfl (lv_at hl 1 rfl) ?_
  refine va_get (D := (dC, dI)) (ws := [(K 15 v, .inr (7, [.int ((a 15 v) 0), .int ((a 15 v) 1), .int ((a 15 v) 2), .int ((a 15 v) 3), .int ((a 15 v) 4), .int ((a 15 v) 5), .int ((a 15 v) 6), .int ((a 15 v) 7), .int ((a 15 v) 8), .int ((a 15 v) 9), .int ((a 15 v) 10), .int ((a 15 v) 11), .ref (K 16 v)]))]) (ci := 7) (v := .int ((a 15 v) 2)) (C := RX7) (T := TX7) (N := 13) hx hb hts tl_X7 hown hK (hP.one (Or.inr (tw_mem (f := 15) (i := v) hi rfl))) 0 rfl rfl 2 (by decide) (hts _ tw_823) (fun _ h9 => h9) rfl dX7_copyFrom_10 ?_
  refine lv_aload_n hx hb dX7_copyFrom_13 rfl (lv_at hl 1 rfl) ?_
  refine va_get (D := (dC, dI)) (ws := [(K 15 v, .inr (7, [.int ((a 15 v) 0), .int ((a 15 v) 1), .int ((a 15 v) 2), .int ((a 15 v) 3), .int ((a 15 v) 4), .int ((a 15 v) 5), .int ((a 15 v) 6), .int ((a 15 v) 7), .int ((a 15 v) 8), .int ((a 15 v) 9), .int ((a 15 v) 10), .int ((a 15 v) 11), .ref (K 16 v)]))]) (ci := 7) (v := .int ((a 15 v) 4)) (C := RX7) (T := TX7) (N := 13) hx hb hts tl_X7 hown hK (hP.one (Or.inr (tw_mem (f := 15) (i := v) hi rfl))) 0 rfl rfl 4 (by decide) (hts _ tw_828) (fun _ h9 => h9) rfl dX7_copyFrom_14 ?_
  have hFc := m_free (C := (TW cy L none b κ τ)) hP hS hA (fun _ _ h => Or.inl h)
  refine va_callv (va_runV (As := [.int ((a 15 v) 0), .int ((a 15 v) 1), .int ((a 15 v) 2), .int ((a 15 v) 4)]) (rest := []) ⟨hx, hb, hml, hown, hts⟩ (c_Vehicle_come l dC dI cy L none b κ τ v ((a 15 v) 0) ((a 15 v) 1) ((a 15 v) 2) ((a 15 v) 4) s.heap.size hT hi) (tp_cwV 4 hts tw_491 tw_205 tw_206 tw_29 tw_207 rfl rfl (by decide +kernel) ⟨Nat.le_of_ble_eq_true rfl, Nat.le_of_ble_eq_true rfl⟩) ⟨m_blind, va_recv hK (hP.one (e := .inr (7, [.int ((b 15 v) 0), .int ((b 15 v) 1), .int ((b 15 v) 2), .int ((b 15 v) 3), .int ((b 15 v) 4), .int ((b 15 v) 5), .int ((b 15 v) 6), .int ((b 15 v) 7), .int ((b 15 v) 8), .int ((b 15 v) 9), .int ((b 15 v) 10), .int ((b 15 v) 11), .ref (L 16 v)])) (Or.inl (tw_mem (f := 15) (i := v) hi rfl))) (ci := 7) (q0 := 0) rfl rfl, fun U hU hW => ⟨rfl, m_pay hK hP hE (fun _ _ h => Or.inl h) U hU hW⟩⟩ rfl rfl hl.1 rfl (lv_room (Nat.le_of_ble_eq_true rfl)) dX7_copyFrom_17 ⟨(Nat.le_of_ble_eq_true rfl), (Nat.le_of_ble_eq_true rfl)⟩) hS (fun q _ h => hFc q h) hFc (fun u t H1 locs ht hvm hpo hB hz1 hk1 hS => ?_)
  have hP1 := hB
  rw [ht] at hP1
  have hP : mw (dC, dI) vwCl A (fun q e => TW cy L none (V_come b v ((a 15 v) 0) ((a 15 v) 1) ((a 15 v) 2) ((a 15 v) 4)) κ τ q e ∨ TW cy K sr a μ ν q e) H1 := hP.join (fun _ _ h => Or.inl h) hk1 hFc hP1 (fun q e h => h.elim Or.inl (fun h => Or.inr ⟨Or.inr h, fun y hy => ap_dis hAP h hy⟩))
  generalize H1 = H at hP hS ⊢
  clear hP1 hk1 hFc
  obtain ⟨b1, eb1⟩ : ∃ z : St, z = V_come b v ((a 15 v) 0) ((a 15 v) 1) ((a 15 v) 2) ((a 15 v) 4) := ⟨_, rfl⟩
  rw [← eb1] at hP
  refine lv_aload_n hx hb dX7_copyFrom_20 rfl (lv_at hl 0 rfl) ?_
  refine lv_aload_n hx hb dX7_copyFrom_21 rfl (lv_at hl 1 rfl) ?_
  refine va_get (D := (dC, dI)) (ws := [(K 15 v, .inr (7, [.int ((a 15 v) 0), .int ((a 15 v) 1), .int ((a 15 v) 2), .int ((a 15 v) 3), .int ((a 15 v) 4), .int ((a 15 v) 5), .int ((a 15 v) 6), .int ((a 15 v) 7), .int ((a 15 v) 8), .int ((a 15 v) 9), .int ((a 15 v) 10), .int ((a 15 v) 11), .ref (K 16 v)]))]) (ci := 7) (v := .int ((a 15 v) 3)) (C := RX7) (T := TX7) (N := 13) hx hb hts tl_X7 hown hK (hP.one (Or.inr (tw_mem (f := 15) (i := v) hi rfl))) 0 rfl rfl 3 (by decide) (hts _ tw_825) (fun _ h9 => h9) rfl dX7_copyFrom_22 ?_
  obtain ⟨ws9, k9, hPw, hDw, hk9, -, hbk⟩ := hP.cut (e := .inr (7, [.int ((b1 15 v) 0), .int ((b1 15 v) 1), .int ((b1 15 v) 2), .int ((b1 15 v) 3), .int ((b1 15 v) 4), .int ((b1 15 v) 5), .int ((b1 15 v) 6), .int ((b1 15 v) 7), .int ((b1 15 v) 8), .int ((b1 15 v) 9), .int ((b1 15 v) 10), .int ((b1 15 v) 11), .ref (L 16 v)])) (Or.inl (tw_mem (f := 15) (i := v) hi rfl))
  refine va_put (D := (dC, dI)) (ci := 7) (v := .int ((a 15 v) 3)) (ty := .int) (C := RX7) (T := TX7) (N := 13) hx hb hts tl_X7 tyX7 tyX7_ok nmX7 hown hK hPw hDw hS k9 hk9 rfl 3 (by decide) (hts _ tw_825) (fun _ h9 => h9) rfl (by decide +kernel) rfl rfl (Nat.le_of_ble_eq_true rfl) dX7_copyFrom_25 (fun H locs hPw hDw hS => ?_)
  have hP : mw (dC, dI) vwCl A (fun q e => TW cy L none (S2 b1 15 v (upd (b1 15 v) 3 ((a 15 v) 3))) κ τ q e ∨ TW cy K sr a μ ν q e) H := (hbk _ _ hPw hDw).sub (mset_l (tw_set (b := S2 b1 15 v (upd (b1 15 v) 3 ((a 15 v) 3))) (f := 15) (i := v) (x := upd (b1 15 v) 3 ((a 15 v) 3)) hT hi (by decide) rfl) (fun q e h => ap_off hAP hi h))
  clear hbk hPw hDw hk9
  refine lv_aload_n hx hb dX7_copyFrom_28 rfl (lv_at hl 0 rfl) ?_
  refine lv_aload_n hx hb dX7_copyFrom_29 rfl (lv_at hl 1 rfl) ?_
  refine va_get (D := (dC, dI)) (ws := [(K 15 v, .inr (7, [.int ((a 15 v) 0), .int ((a 15 v) 1), .int ((a 15 v) 2), .int ((a 15 v) 3), .int ((a 15 v) 4), .int ((a 15 v) 5), .int ((a 15 v) 6), .int ((a 15 v) 7), .int ((a 15 v) 8), .int ((a 15 v) 9), .int ((a 15 v) 10), .int ((a 15 v) 11), .ref (K 16 v)]))]) (ci := 7) (v := .int ((a 15 v) 5)) (C := RX7) (T := TX7) (N := 13) hx hb hts tl_X7 hown hK (hP.one (Or.inr (tw_mem (f := 15) (i := v) hi rfl))) 0 rfl rfl 5 (by decide) (hts _ tw_829) (fun _ h9 => h9) rfl dX7_copyFrom_30 ?_
  obtain ⟨ws9, k9, hPw, hDw, hk9, -, hbk⟩ := hP.cut (e := .inr (7, [.int ((b1 15 v) 0), .int ((b1 15 v) 1), .int ((b1 15 v) 2), .int ((a 15 v) 3), .int ((b1 15 v) 4), .int ((b1 15 v) 5), .int ((b1 15 v) 6), .int ((b1 15 v) 7), .int ((b1 15 v) 8), .int ((b1 15 v) 9), .int ((b1 15 v) 10), .int ((b1 15 v) 11), .ref (L 16 v)])) (Or.inl (tw_mem (f := 15) (i := v) (x := upd (b1 15 v) 3 ((a 15 v) 3)) hi S2_eq))
  refine va_put (D := (dC, dI)) (ci := 7) (v := .int ((a 15 v) 5)) (ty := .int) (C := RX7) (T := TX7) (N := 13) hx hb hts tl_X7 tyX7 tyX7_ok nmX7 hown hK hPw hDw hS k9 hk9 rfl 5 (by decide) (hts _ tw_829) (fun _ h9 => h9) rfl (by decide +kernel) rfl rfl (Nat.le_of_ble_eq_true rfl) dX7_copyFrom_33 (fun H locs hPw hDw hS => ?_)
  have hP : mw (dC, dI) vwCl A (fun q e => TW cy L none (S2 b1 15 v (upd (upd (b1 15 v) 3 ((a 15 v) 3)) 5 ((a 15 v) 5))) κ τ q e ∨ TW cy K sr a μ ν q e) H := (hbk _ _ hPw hDw).sub (mset_l (tw_set (b := S2 b1 15 v (upd (upd (b1 15 v) 3 ((a 15 v) 3)) 5 ((a 15 v) 5))) (f := 15) (i := v) (x := upd (upd (b1 15 v) 3 ((a 15 v) 3)) 5 ((a 15 v) 5)) hT hi (by decide) S2_S2.symm) (fun q e h => ap_off hAP hi h))
  clear hbk hPw hDw hk9
  refine lv_aload_n hx hb dX7_copyFrom_36 rfl (lv_at hl 0 rfl) ?_
  refine lv_aload_n hx hb dX7_copyFrom_37 rfl (lv_at hl 1 rfl) ?_
  refine va_get (D := (dC, dI)) (ws := [(K 15 v, .inr (7, [.int ((a 15 v) 0), .int ((a 15 v) 1), .int ((a 15 v) 2), .int ((a 15 v) 3), .int ((a 15 v) 4), .int ((a 15 v) 5), .int ((a 15 v) 6), .int ((a 15 v) 7), .int ((a 15 v) 8), .int ((a 15 v) 9), .int ((a 15 v) 10), .int ((a 15 v) 11), .ref (K 16 v)]))]) (ci := 7) (v := .int ((a 15 v) 6)) (C := RX7) (T := TX7) (N := 13) hx hb hts tl_X7 hown hK (hP.one (Or.inr (tw_mem (f := 15) (i := v) hi rfl))) 0 rfl rfl 6 (by decide) (hts _ tw_831) (fun _ h9 => h9) rfl dX7_copyFrom_38 ?_
  obtain ⟨ws9, k9, hPw, hDw, hk9, -, hbk⟩ := hP.cut (e := .inr (7, [.int ((b1 15 v) 0), .int ((b1 15 v) 1), .int ((b1 15 v) 2), .int ((a 15 v) 3), .int ((b1 15 v) 4), .int ((a 15 v) 5), .int ((b1 15 v) 6), .int ((b1 15 v) 7), .int ((b1 15 v) 8), .int ((b1 15 v) 9), .int ((b1 15 v) 10), .int ((b1 15 v) 11), .ref (L 16 v)])) (Or.inl (tw_mem (f := 15) (i := v) (x := upd (upd (b1 15 v) 3 ((a 15 v) 3)) 5 ((a 15 v) 5)) hi S2_eq))
  refine va_put (D := (dC, dI)) (ci := 7) (v := .int ((a 15 v) 6)) (ty := .int) (C := RX7) (T := TX7) (N := 13) hx hb hts tl_X7 tyX7 tyX7_ok nmX7 hown hK hPw hDw hS k9 hk9 rfl 6 (by decide) (hts _ tw_831) (fun _ h9 => h9) rfl (by decide +kernel) rfl rfl (Nat.le_of_ble_eq_true rfl) dX7_copyFrom_41 (fun H locs hPw hDw hS => ?_)
  have hP : mw (dC, dI) vwCl A (fun q e => TW cy L none (S2 b1 15 v (upd (upd (upd (b1 15 v) 3 ((a 15 v) 3)) 5 ((a 15 v) 5)) 6 ((a 15 v) 6))) κ τ q e ∨ TW cy K sr a μ ν q e) H := (hbk _ _ hPw hDw).sub (mset_l (tw_set (b := S2 b1 15 v (upd (upd (upd (b1 15 v) 3 ((a 15 v) 3)) 5 ((a 15 v) 5)) 6 ((a 15 v) 6))) (f := 15) (i := v) (x := upd (upd (upd (b1 15 v) 3 ((a 15 v) 3)) 5 ((a 15 v) 5)) 6 ((a 15 v) 6)) hT hi (by decide) S2_S2.symm) (fun q e h => ap_off hAP hi h))
  clear hbk hPw hDw hk9
  refine lv_aload_n hx hb dX7_copyFrom_44 rfl (lv_at hl 0 rfl) ?_
  refine lv_aload_n hx hb dX7_copyFrom_45 rfl (lv_at hl 1 rfl) ?_
  refine va_get (D := (dC, dI)) (ws := [(K 15 v, .inr (7, [.int ((a 15 v) 0), .int ((a 15 v) 1), .int ((a 15 v) 2), .int ((a 15 v) 3), .int ((a 15 v) 4), .int ((a 15 v) 5), .int ((a 15 v) 6), .int ((a 15 v) 7), .int ((a 15 v) 8), .int ((a 15 v) 9), .int ((a 15 v) 10), .int ((a 15 v) 11), .ref (K 16 v)]))]) (ci := 7) (v := .int ((a 15 v) 7)) (C := RX7) (T := TX7) (N := 13) hx hb hts tl_X7 hown hK (hP.one (Or.inr (tw_mem (f := 15) (i := v) hi rfl))) 0 rfl rfl 7 (by decide) (hts _ tw_834) (fun _ h9 => h9) rfl dX7_copyFrom_46 ?_
  obtain ⟨ws9, k9, hPw, hDw, hk9, -, hbk⟩ := hP.cut (e := .inr (7, [.int ((b1 15 v) 0), .int ((b1 15 v) 1), .int ((b1 15 v) 2), .int ((a 15 v) 3), .int ((b1 15 v) 4), .int ((a 15 v) 5), .int ((a 15 v) 6), .int ((b1 15 v) 7), .int ((b1 15 v) 8), .int ((b1 15 v) 9), .int ((b1 15 v) 10), .int ((b1 15 v) 11), .ref (L 16 v)])) (Or.inl (tw_mem (f := 15) (i := v) (x := upd (upd (upd (b1 15 v) 3 ((a 15 v) 3)) 5 ((a 15 v) 5)) 6 ((a 15 v) 6)) hi S2_eq))
  refine va_put (D := (dC, dI)) (ci := 7) (v := .int ((a 15 v) 7)) (ty := .int) (C := RX7) (T := TX7) (N := 13) hx hb hts tl_X7 tyX7 tyX7_ok nmX7 hown hK hPw hDw hS k9 hk9 rfl 7 (by decide) (hts _ tw_834) (fun _ h9 => h9) rfl (by decide +kernel) rfl rfl (Nat.le_of_ble_eq_true rfl) dX7_copyFrom_49 (fun H locs hPw hDw hS => ?_)
  have hP : mw (dC, dI) vwCl A (fun q e => TW cy L none (S2 b1 15 v (upd (upd (upd (upd (b1 15 v) 3 ((a 15 v) 3)) 5 ((a 15 v) 5)) 6 ((a 15 v) 6)) 7 ((a 15 v) 7))) κ τ q e ∨ TW cy K sr a μ ν q e) H := (hbk _ _ hPw hDw).sub (mset_l (tw_set (b := S2 b1 15 v (upd (upd (upd (upd (b1 15 v) 3 ((a 15 v) 3)) 5 ((a 15 v) 5)) 6 ((a 15 v) 6)) 7 ((a 15 v) 7))) (f := 15) (i := v) (x := upd (upd (upd (upd (b1 15 v) 3 ((a 15 v) 3)) 5 ((a 15 v) 5)) 6 ((a 15 v) 6)) 7 ((a 15 v) 7)) hT hi (by decide) S2_S2.symm) (fun q e h => ap_off hAP hi h))
  clear hbk hPw hDw hk9
  refine lv_aload_n hx hb dX7_copyFrom_52 rfl (lv_at hl 0 rfl) ?_
  refine lv_aload_n hx hb dX7_copyFrom_53 rfl (lv_at hl 1 rfl) ?_
  refine va_get (D := (dC, dI)) (ws := [(K 15 v, .inr (7, [.int ((a 15 v) 0), .int ((a 15 v) 1), .int ((a 15 v) 2), .int ((a 15 v) 3), .int ((a 15 v) 4), .int ((a 15 v) 5), .int ((a 15 v) 6), .int ((a 15 v) 7), .int ((a 15 v) 8), .int ((a 15 v) 9), .int ((a 15 v) 10), .int ((a 15 v) 11), .ref (K 16 v)]))]) (ci := 7) (v := .int ((a 15 v) 8)) (C := RX7) (T := TX7) (N := 13) hx hb hts tl_X7 hown hK (hP.one (Or.inr (tw_mem (f := 15) (i := v) hi rfl))) 0 rfl rfl 8 (by decide) (hts _ tw_837) (fun _ h9 => h9) rfl dX7_copyFrom_54 ?_
  obtain ⟨ws9, k9, hPw, hDw, hk9, -, hbk⟩ := hP.cut (e := .inr (7, [.int ((b1 15 v) 0), .int ((b1 15 v) 1), .int ((b1 15 v) 2), .int ((a 15 v) 3), .int ((b1 15 v) 4), .int ((a 15 v) 5), .int ((a 15 v) 6), .int ((a 15 v) 7), .int ((b1 15 v) 8), .int ((b1 15 v) 9), .int ((b1 15 v) 10), .int ((b1 15 v) 11), .ref (L 16 v)])) (Or.inl (tw_mem (f := 15) (i := v) (x := upd (upd (upd (upd (b1 15 v) 3 ((a 15 v) 3)) 5 ((a 15 v) 5)) 6 ((a 15 v) 6)) 7 ((a 15 v) 7)) hi S2_eq))
  refine va_put (D := (dC, dI)) (ci := 7) (v := .int ((a 15 v) 8)) (ty := .int) (C := RX7) (T := TX7) (N := 13) hx hb hts tl_X7 tyX7 tyX7_ok nmX7 hown hK hPw hDw hS k9 hk9 rfl 8 (by decide) (hts _ tw_837) (fun _ h9 => h9) rfl (by decide +kernel) rfl rfl (Nat.le_of_ble_eq_true rfl) dX7_copyFrom_57 (fun H locs hPw hDw hS => ?_)
  have hP : mw (dC, dI) vwCl A (fun q e => TW cy L none (S2 b1 15 v (upd (upd (upd (upd (upd (b1 15 v) 3 ((a 15 v) 3)) 5 ((a 15 v) 5)) 6 ((a 15 v) 6)) 7 ((a 15 v) 7)) 8 ((a 15 v) 8))) κ τ q e ∨ TW cy K sr a μ ν q e) H := (hbk _ _ hPw hDw).sub (mset_l (tw_set (b := S2 b1 15 v (upd (upd (upd (upd (upd (b1 15 v) 3 ((a 15 v) 3)) 5 ((a 15 v) 5)) 6 ((a 15 v) 6)) 7 ((a 15 v) 7)) 8 ((a 15 v) 8))) (f := 15) (i := v) (x := upd (upd (upd (upd (upd (b1 15 v) 3 ((a 15 v) 3)) 5 ((a 15 v) 5)) 6 ((a 15 v) 6)) 7 ((a 15 v) 7)) 8 ((a 15 v) 8)) hT hi (by decide) S2_S2.symm) (fun q e h => ap_off hAP hi h))
  clear hbk hPw hDw hk9
  refine lv_aload_n hx hb dX7_copyFrom_60 rfl (lv_at hl 0 rfl) ?_
  refine lv_aload_n hx hb dX7_copyFrom_61 rfl (lv_at hl 1 rfl) ?_
  refine va_get (D := (dC, dI)) (ws := [(K 15 v, .inr (7, [.int ((a 15 v) 0), .int ((a 15 v) 1), .int ((a 15 v) 2), .int ((a 15 v) 3), .int ((a 15 v) 4), .int ((a 15 v) 5), .int ((a 15 v) 6), .int ((a 15 v) 7), .int ((a 15 v) 8), .int ((a 15 v) 9), .int ((a 15 v) 10), .int ((a 15 v) 11), .ref (K 16 v)]))]) (ci := 7) (v := .int ((a 15 v) 9)) (C := RX7) (T := TX7) (N := 13) hx hb hts tl_X7 hown hK (hP.one (Or.inr (tw_mem (f := 15) (i := v) hi rfl))) 0 rfl rfl 9 (by decide) (hts _ tw_838) (fun _ h9 => h9) rfl dX7_copyFrom_62 ?_
  obtain ⟨ws9, k9, hPw, hDw, hk9, -, hbk⟩ := hP.cut (e := .inr (7, [.int ((b1 15 v) 0), .int ((b1 15 v) 1), .int ((b1 15 v) 2), .int ((a 15 v) 3), .int ((b1 15 v) 4), .int ((a 15 v) 5), .int ((a 15 v) 6), .int ((a 15 v) 7), .int ((a 15 v) 8), .int ((b1 15 v) 9), .int ((b1 15 v) 10), .int ((b1 15 v) 11), .ref (L 16 v)])) (Or.inl (tw_mem (f := 15) (i := v) (x := upd (upd (upd (upd (upd (b1 15 v) 3 ((a 15 v) 3)) 5 ((a 15 v) 5)) 6 ((a 15 v) 6)) 7 ((a 15 v) 7)) 8 ((a 15 v) 8)) hi S2_eq))
  refine va_put (D := (dC, dI)) (ci := 7) (v := .int ((a 15 v) 9)) (ty := .int) (C := RX7) (T := TX7) (N := 13) hx hb hts tl_X7 tyX7 tyX7_ok nmX7 hown hK hPw hDw hS k9 hk9 rfl 9 (by decide) (hts _ tw_838) (fun _ h9 => h9) rfl (by decide +kernel) rfl rfl (Nat.le_of_ble_eq_true rfl) dX7_copyFrom_65 (fun H locs hPw hDw hS => ?_)
  have hP : mw (dC, dI) vwCl A (fun q e => TW cy L none (S2 b1 15 v (upd (upd (upd (upd (upd (upd (b1 15 v) 3 ((a 15 v) 3)) 5 ((a 15 v) 5)) 6 ((a 15 v) 6)) 7 ((a 15 v) 7)) 8 ((a 15 v) 8)) 9 ((a 15 v) 9))) κ τ q e ∨ TW cy K sr a μ ν q e) H := (hbk _ _ hPw hDw).sub (mset_l (tw_set (b := S2 b1 15 v (upd (upd (upd (upd (upd (upd (b1 15 v) 3 ((a 15 v) 3)) 5 ((a 15 v) 5)) 6 ((a 15 v) 6)) 7 ((a 15 v) 7)) 8 ((a 15 v) 8)) 9 ((a 15 v) 9))) (f := 15) (i := v) (x := upd (upd (upd (upd (upd (upd (b1 15 v) 3 ((a 15 v) 3)) 5 ((a 15 v) 5)) 6 ((a 15 v) 6)) 7 ((a 15 v) 7)) 8 ((a 15 v) 8)) 9 ((a 15 v) 9)) hT hi (by decide) S2_S2.symm) (fun q e h => ap_off hAP hi h))
  clear hbk hPw hDw hk9
  refine lv_aload_n hx hb dX7_copyFrom_68 rfl (lv_at hl 0 rfl) ?_
  refine lv_aload_n hx hb dX7_copyFrom_69 rfl (lv_at hl 1 rfl) ?_
  refine va_get (D := (dC, dI)) (ws := [(K 15 v, .inr (7, [.int ((a 15 v) 0), .int ((a 15 v) 1), .int ((a 15 v) 2), .int ((a 15 v) 3), .int ((a 15 v) 4), .int ((a 15 v) 5), .int ((a 15 v) 6), .int ((a 15 v) 7), .int ((a 15 v) 8), .int ((a 15 v) 9), .int ((a 15 v) 10), .int ((a 15 v) 11), .ref (K 16 v)]))]) (ci := 7) (v := .int ((a 15 v) 10)) (C := RX7) (T := TX7) (N := 13) hx hb hts tl_X7 hown hK (hP.one (Or.inr (tw_mem (f := 15) (i := v) hi rfl))) 0 rfl rfl 10 (by decide) (hts _ tw_841) (fun _ h9 => h9) rfl dX7_copyFrom_70 ?_
  obtain ⟨ws9, k9, hPw, hDw, hk9, -, hbk⟩ := hP.cut (e := .inr (7, [.int ((b1 15 v) 0), .int ((b1 15 v) 1), .int ((b1 15 v) 2), .int ((a 15 v) 3), .int ((b1 15 v) 4), .int ((a 15 v) 5), .int ((a 15 v) 6), .int ((a 15 v) 7), .int ((a 15 v) 8), .int ((a 15 v) 9), .int ((b1 15 v) 10), .int ((b1 15 v) 11), .ref (L 16 v)])) (Or.inl (tw_mem (f := 15) (i := v) (x := upd (upd (upd (upd (upd (upd (b1 15 v) 3 ((a 15 v) 3)) 5 ((a 15 v) 5)) 6 ((a 15 v) 6)) 7 ((a 15 v) 7)) 8 ((a 15 v) 8)) 9 ((a 15 v) 9)) hi S2_eq))
  refine va_put (D := (dC, dI)) (ci := 7) (v := .int ((a 15 v) 10)) (ty := .int) (C := RX7) (T := TX7) (N := 13) hx hb hts tl_X7 tyX7 tyX7_ok nmX7 hown hK hPw hDw hS k9 hk9 rfl 10 (by decide) (hts _ tw_841) (fun _ h9 => h9) rfl (by decide +kernel) rfl rfl (Nat.le_of_ble_eq_true rfl) dX7_copyFrom_73 (fun H locs hPw hDw hS => ?_)
  have hP : mw (dC, dI) vwCl A (fun q e => TW cy L none (S2 b1 15 v (upd (upd (upd (upd (upd (upd (upd (b1 15 v) 3 ((a 15 v) 3)) 5 ((a 15 v) 5)) 6 ((a 15 v) 6)) 7 ((a 15 v) 7)) 8 ((a 15 v) 8)) 9 ((a 15 v) 9)) 10 ((a 15 v) 10))) κ τ q e ∨ TW cy K sr a μ ν q e) H := (hbk _ _ hPw hDw).sub (mset_l (tw_set (b := S2 b1 15 v (upd (upd (upd (upd (upd (upd (upd (b1 15 v) 3 ((a 15 v) 3)) 5 ((a 15 v) 5)) 6 ((a 15 v) 6)) 7 ((a 15 v) 7)) 8 ((a 15 v) 8)) 9 ((a 15 v) 9)) 10 ((a 15 v) 10))) (f := 15) (i := v) (x := upd (upd (upd (upd (upd (upd (upd (b1 15 v) 3 ((a 15 v) 3)) 5 ((a 15 v) 5)) 6 ((a 15 v) 6)) 7 ((a 15 v) 7)) 8 ((a 15 v) 8)) 9 ((a 15 v) 9)) 10 ((a 15 v) 10)) hT hi (by decide) S2_S2.symm) (fun q e h => ap_off hAP hi h))
  clear hbk hPw hDw hk9
  refine lv_aload_n hx hb dX7_copyFrom_76 rfl (lv_at hl 0 rfl) ?_
  refine lv_aload_n hx hb dX7_copyFrom_77 rfl (lv_at hl 1 rfl) ?_
  refine va_get (D := (dC, dI)) (ws := [(K 15 v, .inr (7, [.int ((a 15 v) 0), .int ((a 15 v) 1), .int ((a 15 v) 2), .int ((a 15 v) 3), .int ((a 15 v) 4), .int ((a 15 v) 5), .int ((a 15 v) 6), .int ((a 15 v) 7), .int ((a 15 v) 8), .int ((a 15 v) 9), .int ((a 15 v) 10), .int ((a 15 v) 11), .ref (K 16 v)]))]) (ci := 7) (v := .int ((a 15 v) 11)) (C := RX7) (T := TX7) (N := 13) hx hb hts tl_X7 hown hK (hP.one (Or.inr (tw_mem (f := 15) (i := v) hi rfl))) 0 rfl rfl 11 (by decide) (hts _ tw_844) (fun _ h9 => h9) rfl dX7_copyFrom_78 ?_
  obtain ⟨ws9, k9, hPw, hDw, hk9, -, hbk⟩ := hP.cut (e := .inr (7, [.int ((b1 15 v) 0), .int ((b1 15 v) 1), .int ((b1 15 v) 2), .int ((a 15 v) 3), .int ((b1 15 v) 4), .int ((a 15 v) 5), .int ((a 15 v) 6), .int ((a 15 v) 7), .int ((a 15 v) 8), .int ((a 15 v) 9), .int ((a 15 v) 10), .int ((b1 15 v) 11), .ref (L 16 v)])) (Or.inl (tw_mem (f := 15) (i := v) (x := upd (upd (upd (upd (upd (upd (upd (b1 15 v) 3 ((a 15 v) 3)) 5 ((a 15 v) 5)) 6 ((a 15 v) 6)) 7 ((a 15 v) 7)) 8 ((a 15 v) 8)) 9 ((a 15 v) 9)) 10 ((a 15 v) 10)) hi S2_eq))
  refine va_put (D := (dC, dI)) (ci := 7) (v := .int ((a 15 v) 11)) (ty := .int) (C := RX7) (T := TX7) (N := 13) hx hb hts tl_X7 tyX7 tyX7_ok nmX7 hown hK hPw hDw hS k9 hk9 rfl 11 (by decide) (hts _ tw_844) (fun _ h9 => h9) rfl (by decide +kernel) rfl rfl (Nat.le_of_ble_eq_true rfl) dX7_copyFrom_81 (fun H locs hPw hDw hS => ?_)
  have hP : mw (dC, dI) vwCl A (fun q e => TW cy L none (S2 b1 15 v (upd (upd (upd (upd (upd (upd (upd (upd (b1 15 v) 3 ((a 15 v) 3)) 5 ((a 15 v) 5)) 6 ((a 15 v) 6)) 7 ((a 15 v) 7)) 8 ((a 15 v) 8)) 9 ((a 15 v) 9)) 10 ((a 15 v) 10)) 11 ((a 15 v) 11))) κ τ q e ∨ TW cy K sr a μ ν q e) H := (hbk _ _ hPw hDw).sub (mset_l (tw_set (b := S2 b1 15 v (upd (upd (upd (upd (upd (upd (upd (upd (b1 15 v) 3 ((a 15 v) 3)) 5 ((a 15 v) 5)) 6 ((a 15 v) 6)) 7 ((a 15 v) 7)) 8 ((a 15 v) 8)) 9 ((a 15 v) 9)) 10 ((a 15 v) 10)) 11 ((a 15 v) 11))) (f := 15) (i := v) (x := upd (upd (upd (upd (upd (upd (upd (upd (b1 15 v) 3 ((a 15 v) 3)) 5 ((a 15 v) 5)) 6 ((a 15 v) 6)) 7 ((a 15 v) 7)) 8 ((a 15 v) 8)) 9 ((a 15 v) 9)) 10 ((a 15 v) 10)) 11 ((a 15 v) 11)) hT hi (by decide) S2_S2.symm) (fun q e h => ap_off hAP hi h))
  clear hbk hPw hDw hk9
  refine lv_aload_n hx hb dX7_copyFrom_84 rfl (lv_at hl 1 rfl) ?_
  refine va_get (D := (dC, dI)) (ws := [(K 15 v, .inr (7, [.int ((a 15 v) 0), .int ((a 15 v) 1), .int ((a 15 v) 2), .int ((a 15 v) 3), .int ((a 15 v) 4), .int ((a 15 v) 5), .int ((a 15 v) 6), .int ((a 15 v) 7), .int ((a 15 v) 8), .int ((a 15 v) 9), .int ((a 15 v) 10), .int ((a 15 v) 11), .ref (K 16 v)]))]) (ci := 7) (v := .ref (K 16 v)) (C := RX7) (T := TX7) (N := 13) hx hb hts tl_X7 hown hK (hP.one (Or.inr (tw_mem (f := 15) (i := v) hi rfl))) 0 rfl rfl 12 (by decide) (hts _ tw_845) (fun _ h9 => h9) rfl dX7_copyFrom_85 ?_
  refine lv_iconst (v := 0) hx hb dX7_copyFrom_88 (by decide) ?_
  refine lv_aload_n hx hb dX7_copyFrom_89 rfl (lv_at hl 0 rfl) ?_
  refine va_get (D := (dC, dI)) (ws := [(L 15 v, .inr (7, [.int ((b1 15 v) 0), .int ((b1 15 v) 1), .int ((b1 15 v) 2), .int ((a 15 v) 3), .int ((b1 15 v) 4), .int ((a 15 v) 5), .int ((a 15 v) 6), .int ((a 15 v) 7), .int ((a 15 v) 8), .int ((a 15 v) 9), .int ((a 15 v) 10), .int ((a 15 v) 11), .ref (L 16 v)]))]) (ci := 7) (v := .ref (L 16 v)) (C := RX7) (T := TX7) (N := 13) hx hb hts tl_X7 hown hK (hP.one (Or.inl (tw_mem (f := 15) (i := v) (x := upd (upd (upd (upd (upd (upd (upd (upd (b1 15 v) 3 ((a 15 v) 3)) 5 ((a 15 v) 5)) 6 ((a 15 v) 6)) 7 ((a 15 v) 7)) 8 ((a 15 v) 8)) 9 ((a 15 v) 9)) 10 ((a 15 v) 10)) 11 ((a 15 v) 11)) hi S2_eq))) 0 rfl rfl 12 (by decide) (hts _ tw_845) (fun _ h9 => h9) rfl dX7_copyFrom_90 ?_
  refine lv_iconst (v := 0) hx hb dX7_copyFrom_93 (by decide) ?_
  refine lv_aload_n hx hb dX7_copyFrom_94 rfl (lv_at hl 0 rfl) ?_
  refine va_get (D := (dC, dI)) (ws := [(L 15 v, .inr (7, [.int ((b1 15 v) 0), .int ((b1 15 v) 1), .int ((b1 15 v) 2), .int ((a 15 v) 3), .int ((b1 15 v) 4), .int ((a 15 v) 5), .int ((a 15 v) 6), .int ((a 15 v) 7), .int ((a 15 v) 8), .int ((a 15 v) 9), .int ((a 15 v) 10), .int ((a 15 v) 11), .ref (L 16 v)]))]) (ci := 7) (v := .ref (L 16 v)) (C := RX7) (T := TX7) (N := 13) hx hb hts tl_X7 hown hK (hP.one (Or.inl (tw_mem (f := 15) (i := v) (x := upd (upd (upd (upd (upd (upd (upd (upd (b1 15 v) 3 ((a 15 v) 3)) 5 ((a 15 v) 5)) 6 ((a 15 v) 6)) 7 ((a 15 v) 7)) 8 ((a 15 v) 8)) 9 ((a 15 v) 9)) 10 ((a 15 v) 10)) 11 ((a 15 v) 11)) hi S2_eq))) 0 rfl rfl 12 (by decide) (hts _ tw_845) (fun _ h9 => h9) rfl dX7_copyFrom_95 ?_
  refine va_alen hx hb hK (ws := [(L 16 v, .inl (cy 0, 11, .inl (b1 16 v)))]) (hP.one (Or.inl (tw_mem (f := 16) (i := v) hi (S2_nf (by decide))))) 0 0 rfl rfl (v := 11) rfl dX7_copyFrom_98 ?_
  obtain ⟨ws9, k9, hPw, hDw, hk9, hin9, hbk⟩ := hP.cut (e := .inl (cy 0, 11, .inl (b1 16 v))) (Or.inl (tw_mem (f := 16) (i := v) hi (S2_nf (by decide))))
  obtain ⟨k8, hk8⟩ := hin9 _ (.inl (cy 0, 11, .inl (a 16 v))) (Or.inr (tw_mem (f := 16) (i := v) hi rfl))
  refine va_copyi hx hb (hml.trans hl.1.symm) hown (hts _ tw_492) (hts _ tw_342) (hts _ tw_341) (hts _ tw_36) hK hPw hDw hS k8 k9 0 0 hk8 hk9 rfl rfl rfl (by decide) (by decide) (by decide) (by decide) (by decide) (fun _ _ => rfl) (Nat.le_of_ble_eq_true rfl) (Nat.le_of_ble_eq_true rfl) dX7_copyFrom_99 (fun H locs hPw hDw hS => ?_)
  rw [show (0 : Int32).toNatClampNeg = 0 from rfl, show (11 : Int32).toNatClampNeg = 11 from rfl] at hPw hDw
  have hP : mw (dC, dI) vwCl A (fun q e => TW cy L none (S2 (S2 b1 15 v (upd (upd (upd (upd (upd (upd (upd (upd (b1 15 v) 3 ((a 15 v) 3)) 5 ((a 15 v) 5)) 6 ((a 15 v) 6)) 7 ((a 15 v) 7)) 8 ((a 15 v) 8)) 9 ((a 15 v) 9)) 10 ((a 15 v) 10)) 11 ((a 15 v) 11))) 16 v (va_cpy (a 16 v) (b1 16 v) 0 0 11)) κ τ q e ∨ TW cy K sr a μ ν q e) H := (hbk _ _ hPw hDw).sub (mset_l (tw_set (b := S2 (S2 b1 15 v (upd (upd (upd (upd (upd (upd (upd (upd (b1 15 v) 3 ((a 15 v) 3)) 5 ((a 15 v) 5)) 6 ((a 15 v) 6)) 7 ((a 15 v) 7)) 8 ((a 15 v) 8)) 9 ((a 15 v) 9)) 10 ((a 15 v) 10)) 11 ((a 15 v) 11))) 16 v (va_cpy (a 16 v) (b1 16 v) 0 0 11)) (f := 16) (i := v) (x := va_cpy (a 16 v) (b1 16 v) 0 0 11) hT hi (by decide) rfl) (fun q e h => ap_off hAP hi h))
  clear hbk hPw hDw hk9
  refine W.widen (k := 0) (n := 0) (Nat.le_of_ble_eq_true rfl) (Nat.le_of_ble_eq_true rfl) ?_
  have s_1 : S2 (S2 b1 15 v (upd (upd (upd (upd (upd (upd (upd (upd (b1 15 v) 3 ((a 15 v) 3)) 5 ((a 15 v) 5)) 6 ((a 15 v) 6)) 7 ((a 15 v) 7)) 8 ((a 15 v) 8)) 9 ((a 15 v) 9)) 10 ((a 15 v) 10)) 11 ((a 15 v) 11))) 16 v (va_cpy (a 16 v) (b1 16 v) 0 0 11) = V_copy b a v := by
    unfold V_copy V_cop1 X_cpv
    rw [← eb1]
  rw [s_1] at hP
  exact W.vret hx hb hr (fun t ht hW => ⟨⟨(), rfl, trivial, (by show mw _ _ _ _ t.heap; rw [ht]; exact hP)⟩, hS.F ht⟩) hS.2.2 dX7_copyFrom_102
set_option maxRecDepth 100000 in
set_option maxHeartbeats 4000000 in
/-- Link.copyFrom -/
theorem c_Link_copyFrom (l : Launch) (dC : Nat → ClassId) (dI : Nat → Nat → Nat) (cy : Nat → ClassId) (L : Lay) (b : St) (κ : Kap) (τ : Tau) (K : Lay) (sr : Option Nat) (a : St) (μ : Kap) (ν : Tau) (i : Nat) (sz : Nat) (hT : TL L none τ) (hT2 : TL K sr ν) (hAP : AP L K sr ν) (hi : i < 24) (h3 : in_ (a 3 i 0) 30) (h5 : in_ (a 5 i 0) 30) (hsh : a 2 i 7 = 0 ∨ a 2 i 7 = 1) : Met l yX1_copyFrom (tp_w yX1_copyFrom cX1_copyFrom 2 none) ({ frames := 2, cells := 0, slots := 0, locals := 39 }) (va_Pc [.ref (L 2 i), .ref (K 2 i)] (mPre dC dI cy (fun q e => TW cy L none b κ τ q e ∨ TW cy K sr a μ ν q e) sz)) (va_Qv (fun _ : Unit => True) (fun (_ : Unit) (t : State) => mw (dC, dI) vwCl (mA (fun q e => TW cy L none b κ τ q e ∨ TW cy K sr a μ ν q e) sz) (fun q e => TW cy L none (L_copy b a i) κ τ q e ∨ TW cy K sr a μ ν q e) t.heap) (mA (fun q e => TW cy L none b κ τ q e ∨ TW cy K sr a μ ν q e) sz)) (0) (0) (mA (fun q e => TW cy L none b κ τ q e ∨ TW cy K sr a μ ν q e) sz) := by
  refine Met.ofW (cc := cX1_copyFrom) (maxL := 2) (ret := none) (by decide) rfl ?_
  intro p e s m args below meth c s₁ B hml hv
  obtain ⟨rfl, hsz, hP, hK, hE⟩ := hv
  have hx := B.exec
  have hb := B.bytes
  have hr := B.returns
  have hts0 := atoms_spec (ws := tp_w yX1_copyFrom cX1_copyFrom 2 none) B.pre
  have hts : ∀ w ∈ tp_all, w.before _ s = true := fun w h => hts0 w (List.mem_cons_of_mem _ h)
  have hown : s.vm.findClass RX1 = some m.cls := findClass_of_methodNamed B.named
  have hlocks := B.notSynchronized
  subst hsz
  have hP := hP.self s.heap.size
  generalize hAe : mA (fun q e => TW cy L none b κ τ q e ∨ TW cy K sr a μ ν q e) s.heap.size = A at hP ⊢
  have hA : ∀ q : Nat, s.heap.size ≤ q → A q := fun q h => by rw [← hAe]; exact Or.inr h
  have hS : va_S A s.heap s.heap [] := va_S.rf
  have hl9 := lv_entry ([.ref (L 2 i), .ref (K 2 i)]) (n := 2) (Nat.le_of_ble_eq_true rfl)
  rw [lg_entry_eq]
  generalize (lg_sl ([.ref (L 2 i), .ref (K 2 i)]) ++ List.replicate (2 - (lg_sl ([.ref (L 2 i), .ref (K 2 i)])).length) Slot.unset).toArray = ls at hl9 ⊢
  have hl : lv_has ls 2 [(0, .ref (L 2 i)), (1, .ref (K 2 i))] := hl9
  refine lv_aload_n hx hb dX1_copyFrom_0 rfl (lv_at hl 0 rfl) ?_
  refine lv_aload_n hx hb dX1_copyFrom_1 rfl (lv_at hl 1 rfl) ?_
  refine va_get (D := (dC, dI)) (ws := [(K 2 i, .inr (1, [.int ((a 2 i) 0), .int ((a 2 i) 1), .int ((a 2 i) 2), .int ((a 2 i) 3), .int ((a 2 i) 4), .int ((a 2 i) 5), .int ((a 2 i) 6), .int ((a 2 i) 7), .int ((a 2 i) 8), .ref (K 3 i), .ref (K 5 i), .int ((a 2 i) 9), .int ((a 2 i) 10), .int ((a 2 i) 11), .int ((a 2 i) 12), .ref (K 7 i)]))]) (ci := 1) (v := .int ((a 2 i) 0)) (C := RX1) (T := TX1) (N := 16) hx hb hts tl_X1 hown hK (hP.one (Or.inr (tw_mem (f := 2) (i := i) hi rfl))) 0 rfl rfl 0 (by decide) (hts _ tw_625) (fun _ h9 => h9) rfl dX1_copyFrom_2 ?_
  obtain ⟨ws9, k9, hPw, hDw, hk9, -, hbk⟩ := hP.cut (e := .inr (1, [.int ((b 2 i) 0), .int ((b 2 i) 1), .int ((b 2 i) 2), .int ((b 2 i) 3), .int ((b 2 i) 4), .int ((b 2 i) 5), .int ((b 2 i) 6), .int ((b 2 i) 7), .int ((b 2 i) 8), .ref (L 3 i), .ref (L 5 i), .int ((b 2 i) 9), .int ((b 2 i) 10), .int ((b 2 i) 11), .int ((b 2 i) 12), .ref (L 7 i)])) (Or.inl (tw_mem (f := 2) (i := i) hi rfl))
  refine va_put (D := (dC, dI)) (ci := 1) (v := .int ((a 2 i) 0)) (ty := .int) (C := RX1) (T := TX1) (N := 16) hx hb hts tl_X1 tyX1 tyX1_ok nmX1 hown hK hPw hDw hS k9 hk9 rfl 0 (by decide) (hts _ tw_625) (fun _ h9 => h9) rfl (by decide +kernel) rfl rfl (Nat.le_of_ble_eq_true rfl) dX1_copyFrom_5 (fun H locs hPw hDw hS => ?_)
  have hP : mw (dC, dI) vwCl A (fun q e => TW cy L none (S2 b 2 i (upd (b 2 i) 0 ((a 2 i) 0))) κ τ q e ∨ TW cy K sr a μ ν q e) H := (hbk _ _ hPw hDw).sub (mset_l (tw_set (b := S2 b 2 i (upd (b 2 i) 0 ((a 2 i) 0))) (f := 2) (i := i) (x := upd (b 2 i) 0 ((a 2 i) 0)) hT hi (by decide) rfl) (fun q e h => ap_off hAP hi h))
  clear hbk hPw hDw hk9
  refine lv_aload_n hx hb dX1_copyFrom_8 rfl (lv_at hl 0 rfl) ?_
  refine lv_aload_n hx hb dX1_copyFrom_9 rfl (lv_at hl 1 rfl) ?_
  refine va_get (D := (dC, dI)) (ws := [(K 2 i, .inr (1, [.int ((a 2 i) 0), .int ((a 2 i) 1), .int ((a 2 i) 2), .int ((a 2 i) 3), .int ((a 2 i) 4), .int ((a 2 i) 5), .int ((a 2 i) 6), .int ((a 2 i) 7), .int ((a 2 i) 8), .ref (K 3 i), .ref (K 5 i), .int ((a 2 i) 9), .int ((a 2 i) 10), .int ((a 2 i) 11), .int ((a 2 i) 12), .ref (K 7 i)]))]) (ci := 1) (v := .int ((a 2 i) 1)) (C := RX1) (T := TX1) (N := 16) hx hb hts tl_X1 hown hK (hP.one (Or.inr (tw_mem (f := 2) (i := i) hi rfl))) 0 rfl rfl 1 (by decide) (hts _ tw_628) (fun _ h9 => h9) rfl dX1_copyFrom_10 ?_
  obtain ⟨ws9, k9, hPw, hDw, hk9, -, hbk⟩ := hP.cut (e := .inr (1, [.int ((a 2 i) 0), .int ((b 2 i) 1), .int ((b 2 i) 2), .int ((b 2 i) 3), .int ((b 2 i) 4), .int ((b 2 i) 5), .int ((b 2 i) 6), .int ((b 2 i) 7), .int ((b 2 i) 8), .ref (L 3 i), .ref (L 5 i), .int ((b 2 i) 9), .int ((b 2 i) 10), .int ((b 2 i) 11), .int ((b 2 i) 12), .ref (L 7 i)])) (Or.inl (tw_mem (f := 2) (i := i) (x := upd (b 2 i) 0 ((a 2 i) 0)) hi S2_eq))
  refine va_put (D := (dC, dI)) (ci := 1) (v := .int ((a 2 i) 1)) (ty := .int) (C := RX1) (T := TX1) (N := 16) hx hb hts tl_X1 tyX1 tyX1_ok nmX1 hown hK hPw hDw hS k9 hk9 rfl 1 (by decide) (hts _ tw_628) (fun _ h9 => h9) rfl (by decide +kernel) rfl rfl (Nat.le_of_ble_eq_true rfl) dX1_copyFrom_13 (fun H locs hPw hDw hS => ?_)
  have hP : mw (dC, dI) vwCl A (fun q e => TW cy L none (S2 b 2 i (upd (upd (b 2 i) 0 ((a 2 i) 0)) 1 ((a 2 i) 1))) κ τ q e ∨ TW cy K sr a μ ν q e) H := (hbk _ _ hPw hDw).sub (mset_l (tw_set (b := S2 b 2 i (upd (upd (b 2 i) 0 ((a 2 i) 0)) 1 ((a 2 i) 1))) (f := 2) (i := i) (x := upd (upd (b 2 i) 0 ((a 2 i) 0)) 1 ((a 2 i) 1)) hT hi (by decide) S2_S2.symm) (fun q e h => ap_off hAP hi h))
  clear hbk hPw hDw hk9
  refine lv_aload_n hx hb dX1_copyFrom_16 rfl (lv_at hl 0 rfl) ?_
  refine lv_aload_n hx hb dX1_copyFrom_17 rfl (lv_at hl 1 rfl) ?_
  refine va_get (D := (dC, dI)) (ws := [(K 2 i, .inr (1, [.int ((a 2 i) 0), .int ((a 2 i) 1), .int ((a 2 i) 2), .int ((a 2 i) 3), .int ((a 2 i) 4), .int ((a 2 i) 5), .int ((a 2 i) 6), .int ((a 2 i) 7), .int ((a 2 i) 8), .ref (K 3 i), .ref (K 5 i), .int ((a 2 i) 9), .int ((a 2 i) 10), .int ((a 2 i) 11), .int ((a 2 i) 12), .ref (K 7 i)]))]) (ci := 1) (v := .int ((a 2 i) 2)) (C := RX1) (T := TX1) (N := 16) hx hb hts tl_X1 hown hK (hP.one (Or.inr (tw_mem (f := 2) (i := i) hi rfl))) 0 rfl rfl 2 (by decide) (hts _ tw_630) (fun _ h9 => h9) rfl dX1_copyFrom_18 ?_
  obtain ⟨ws9, k9, hPw, hDw, hk9, -, hbk⟩ := hP.cut (e := .inr (1, [.int ((a 2 i) 0), .int ((a 2 i) 1), .int ((b 2 i) 2), .int ((b 2 i) 3), .int ((b 2 i) 4), .int ((b 2 i) 5), .int ((b 2 i) 6), .int ((b 2 i) 7), .int ((b 2 i) 8), .ref (L 3 i), .ref (L 5 i), .int ((b 2 i) 9), .int ((b 2 i) 10), .int ((b 2 i) 11), .int ((b 2 i) 12), .ref (L 7 i)])) (Or.inl (tw_mem (f := 2) (i := i) (x := upd (upd (b 2 i) 0 ((a 2 i) 0)) 1 ((a 2 i) 1)) hi S2_eq))
  refine va_put (D := (dC, dI)) (ci := 1) (v := .int ((a 2 i) 2)) (ty := .int) (C := RX1) (T := TX1) (N := 16) hx hb hts tl_X1 tyX1 tyX1_ok nmX1 hown hK hPw hDw hS k9 hk9 rfl 2 (by decide) (hts _ tw_630) (fun _ h9 => h9) rfl (by decide +kernel) rfl rfl (Nat.le_of_ble_eq_true rfl) dX1_copyFrom_21 (fun H locs hPw hDw hS => ?_)
  have hP : mw (dC, dI) vwCl A (fun q e => TW cy L none (S2 b 2 i (upd (upd (upd (b 2 i) 0 ((a 2 i) 0)) 1 ((a 2 i) 1)) 2 ((a 2 i) 2))) κ τ q e ∨ TW cy K sr a μ ν q e) H := (hbk _ _ hPw hDw).sub (mset_l (tw_set (b := S2 b 2 i (upd (upd (upd (b 2 i) 0 ((a 2 i) 0)) 1 ((a 2 i) 1)) 2 ((a 2 i) 2))) (f := 2) (i := i) (x := upd (upd (upd (b 2 i) 0 ((a 2 i) 0)) 1 ((a 2 i) 1)) 2 ((a 2 i) 2)) hT hi (by decide) S2_S2.symm) (fun q e h => ap_off hAP hi h))
  clear hbk hPw hDw hk9
  refine lv_aload_n hx hb dX1_copyFrom_24 rfl (lv_at hl 0 rfl) ?_
  refine lv_aload_n hx hb dX1_copyFrom_25 rfl (lv_at hl 1 rfl) ?_
  refine va_get (D := (dC, dI)) (ws := [(K 2 i, .inr (1, [.int ((a 2 i) 0), .int ((a 2 i) 1), .int ((a 2 i) 2), .int ((a 2 i) 3), .int ((a 2 i) 4), .int ((a 2 i) 5), .int ((a 2 i) 6), .int ((a 2 i) 7), .int ((a 2 i) 8), .ref (K 3 i), .ref (K 5 i), .int ((a 2 i) 9), .int ((a 2 i) 10), .int ((a 2 i) 11), .int ((a 2 i) 12), .ref (K 7 i)]))]) (ci := 1) (v := .int ((a 2 i) 3)) (C := RX1) (T := TX1) (N := 16) hx hb hts tl_X1 hown hK (hP.one (Or.inr (tw_mem (f := 2) (i := i) hi rfl))) 0 rfl rfl 3 (by decide) (hts _ tw_633) (fun _ h9 => h9) rfl dX1_copyFrom_26 ?_
  obtain ⟨ws9, k9, hPw, hDw, hk9, -, hbk⟩ := hP.cut (e := .inr (1, [.int ((a 2 i) 0), .int ((a 2 i) 1), .int ((a 2 i) 2), .int ((b 2 i) 3), .int ((b 2 i) 4), .int ((b 2 i) 5), .int ((b 2 i) 6), .int ((b 2 i) 7), .int ((b 2 i) 8), .ref (L 3 i), .ref (L 5 i), .int ((b 2 i) 9), .int ((b 2 i) 10), .int ((b 2 i) 11), .int ((b 2 i) 12), .ref (L 7 i)])) (Or.inl (tw_mem (f := 2) (i := i) (x := upd (upd (upd (b 2 i) 0 ((a 2 i) 0)) 1 ((a 2 i) 1)) 2 ((a 2 i) 2)) hi S2_eq))
  refine va_put (D := (dC, dI)) (ci := 1) (v := .int ((a 2 i) 3)) (ty := .int) (C := RX1) (T := TX1) (N := 16) hx hb hts tl_X1 tyX1 tyX1_ok nmX1 hown hK hPw hDw hS k9 hk9 rfl 3 (by decide) (hts _ tw_633) (fun _ h9 => h9) rfl (by decide +kernel) rfl rfl (Nat.le_of_ble_eq_true rfl) dX1_copyFrom_29 (fun H locs hPw hDw hS => ?_)
  have hP : mw (dC, dI) vwCl A (fun q e => TW cy L none (S2 b 2 i (upd (upd (upd (upd (b 2 i) 0 ((a 2 i) 0)) 1 ((a 2 i) 1)) 2 ((a 2 i) 2)) 3 ((a 2 i) 3))) κ τ q e ∨ TW cy K sr a μ ν q e) H := (hbk _ _ hPw hDw).sub (mset_l (tw_set (b := S2 b 2 i (upd (upd (upd (upd (b 2 i) 0 ((a 2 i) 0)) 1 ((a 2 i) 1)) 2 ((a 2 i) 2)) 3 ((a 2 i) 3))) (f := 2) (i := i) (x := upd (upd (upd (upd (b 2 i) 0 ((a 2 i) 0)) 1 ((a 2 i) 1)) 2 ((a 2 i) 2)) 3 ((a 2 i) 3)) hT hi (by decide) S2_S2.symm) (fun q e h => ap_off hAP hi h))
  clear hbk hPw hDw hk9
  refine lv_aload_n hx hb dX1_copyFrom_32 rfl (lv_at hl 0 rfl) ?_
  refine lv_aload_n hx hb dX1_copyFrom_33 rfl (lv_at hl 1 rfl) ?_
  refine va_get (D := (dC, dI)) (ws := [(K 2 i, .inr (1, [.int ((a 2 i) 0), .int ((a 2 i) 1), .int ((a 2 i) 2), .int ((a 2 i) 3), .int ((a 2 i) 4), .int ((a 2 i) 5), .int ((a 2 i) 6), .int ((a 2 i) 7), .int ((a 2 i) 8), .ref (K 3 i), .ref (K 5 i), .int ((a 2 i) 9), .int ((a 2 i) 10), .int ((a 2 i) 11), .int ((a 2 i) 12), .ref (K 7 i)]))]) (ci := 1) (v := .int ((a 2 i) 4)) (C := RX1) (T := TX1) (N := 16) hx hb hts tl_X1 hown hK (hP.one (Or.inr (tw_mem (f := 2) (i := i) hi rfl))) 0 rfl rfl 4 (by decide) (hts _ tw_634) (fun _ h9 => h9) rfl dX1_copyFrom_34 ?_
  obtain ⟨ws9, k9, hPw, hDw, hk9, -, hbk⟩ := hP.cut (e := .inr (1, [.int ((a 2 i) 0), .int ((a 2 i) 1), .int ((a 2 i) 2), .int ((a 2 i) 3), .int ((b 2 i) 4), .int ((b 2 i) 5), .int ((b 2 i) 6), .int ((b 2 i) 7), .int ((b 2 i) 8), .ref (L 3 i), .ref (L 5 i), .int ((b 2 i) 9), .int ((b 2 i) 10), .int ((b 2 i) 11), .int ((b 2 i) 12), .ref (L 7 i)])) (Or.inl (tw_mem (f := 2) (i := i) (x := upd (upd (upd (upd (b 2 i) 0 ((a 2 i) 0)) 1 ((a 2 i) 1)) 2 ((a 2 i) 2)) 3 ((a 2 i) 3)) hi S2_eq))
  refine va_put (D := (dC, dI)) (ci := 1) (v := .int ((a 2 i) 4)) (ty := .int) (C := RX1) (T := TX1) (N := 16) hx hb hts tl_X1 tyX1 tyX1_ok nmX1 hown hK hPw hDw hS k9 hk9 rfl 4 (by decide) (hts _ tw_634) (fun _ h9 => h9) rfl (by decide +kernel) rfl rfl (Nat.le_of_ble_eq_true rfl) dX1_copyFrom_37 (fun H locs hPw hDw hS => ?_)
  have hP : mw (dC, dI) vwCl A (fun q e => TW cy L none (S2 b 2 i (upd (upd (upd (upd (upd (b 2 i) 0 ((a 2 i) 0)) 1 ((a 2 i) 1)) 2 ((a 2 i) 2)) 3 ((a 2 i) 3)) 4 ((a 2 i) 4))) κ τ q e ∨ TW cy K sr a μ ν q e) H := (hbk _ _ hPw hDw).sub (mset_l (tw_set (b := S2 b 2 i (upd (upd (upd (upd (upd (b 2 i) 0 ((a 2 i) 0)) 1 ((a 2 i) 1)) 2 ((a 2 i) 2)) 3 ((a 2 i) 3)) 4 ((a 2 i) 4))) (f := 2) (i := i) (x := upd (upd (upd (upd (upd (b 2 i) 0 ((a 2 i) 0)) 1 ((a 2 i) 1)) 2 ((a 2 i) 2)) 3 ((a 2 i) 3)) 4 ((a 2 i) 4)) hT hi (by decide) S2_S2.symm) (fun q e h => ap_off hAP hi h))
  clear hbk hPw hDw hk9
  refine lv_aload_n hx hb dX1_copyFrom_40 rfl (lv_at hl 0 rfl) ?_
  refine lv_aload_n hx hb dX1_copyFrom_41 rfl (lv_at hl 1 rfl) ?_
  refine va_get (D := (dC, dI)) (ws := [(K 2 i, .inr (1, [.int ((a 2 i) 0), .int ((a 2 i) 1), .int ((a 2 i) 2), .int ((a 2 i) 3), .int ((a 2 i) 4), .int ((a 2 i) 5), .int ((a 2 i) 6), .int ((a 2 i) 7), .int ((a 2 i) 8), .ref (K 3 i), .ref (K 5 i), .int ((a 2 i) 9), .int ((a 2 i) 10), .int ((a 2 i) 11), .int ((a 2 i) 12), .ref (K 7 i)]))]) (ci := 1) (v := .int ((a 2 i) 5)) (C := RX1) (T := TX1) (N := 16) hx hb hts tl_X1 hown hK (hP.one (Or.inr (tw_mem (f := 2) (i := i) hi rfl))) 0 rfl rfl 5 (by decide) (hts _ tw_636) (fun _ h9 => h9) rfl dX1_copyFrom_42 ?_
  obtain ⟨ws9, k9, hPw, hDw, hk9, -, hbk⟩ := hP.cut (e := .inr (1, [.int ((a 2 i) 0), .int ((a 2 i) 1), .int ((a 2 i) 2), .int ((a 2 i) 3), .int ((a 2 i) 4), .int ((b 2 i) 5), .int ((b 2 i) 6), .int ((b 2 i) 7), .int ((b 2 i) 8), .ref (L 3 i), .ref (L 5 i), .int ((b 2 i) 9), .int ((b 2 i) 10), .int ((b 2 i) 11), .int ((b 2 i) 12), .ref (L 7 i)])) (Or.inl (tw_mem (f := 2) (i := i) (x := upd (upd (upd (upd (upd (b 2 i) 0 ((a 2 i) 0)) 1 ((a 2 i) 1)) 2 ((a 2 i) 2)) 3 ((a 2 i) 3)) 4 ((a 2 i) 4)) hi S2_eq))
  refine va_put (D := (dC, dI)) (ci := 1) (v := .int ((a 2 i) 5)) (ty := .int) (C := RX1) (T := TX1) (N := 16) hx hb hts tl_X1 tyX1 tyX1_ok nmX1 hown hK hPw hDw hS k9 hk9 rfl 5 (by decide) (hts _ tw_636) (fun _ h9 => h9) rfl (by decide +kernel) rfl rfl (Nat.le_of_ble_eq_true rfl) dX1_copyFrom_45 (fun H locs hPw hDw hS => ?_)
  have hP : mw (dC, dI) vwCl A (fun q e => TW cy L none (S2 b 2 i (upd (upd (upd (upd (upd (upd (b 2 i) 0 ((a 2 i) 0)) 1 ((a 2 i) 1)) 2 ((a 2 i) 2)) 3 ((a 2 i) 3)) 4 ((a 2 i) 4)) 5 ((a 2 i) 5))) κ τ q e ∨ TW cy K sr a μ ν q e) H := (hbk _ _ hPw hDw).sub (mset_l (tw_set (b := S2 b 2 i (upd (upd (upd (upd (upd (upd (b 2 i) 0 ((a 2 i) 0)) 1 ((a 2 i) 1)) 2 ((a 2 i) 2)) 3 ((a 2 i) 3)) 4 ((a 2 i) 4)) 5 ((a 2 i) 5))) (f := 2) (i := i) (x := upd (upd (upd (upd (upd (upd (b 2 i) 0 ((a 2 i) 0)) 1 ((a 2 i) 1)) 2 ((a 2 i) 2)) 3 ((a 2 i) 3)) 4 ((a 2 i) 4)) 5 ((a 2 i) 5)) hT hi (by decide) S2_S2.symm) (fun q e h => ap_off hAP hi h))
  clear hbk hPw hDw hk9
  refine lv_aload_n hx hb dX1_copyFrom_48 rfl (lv_at hl 0 rfl) ?_
  refine lv_aload_n hx hb dX1_copyFrom_49 rfl (lv_at hl 1 rfl) ?_
  refine va_get (D := (dC, dI)) (ws := [(K 2 i, .inr (1, [.int ((a 2 i) 0), .int ((a 2 i) 1), .int ((a 2 i) 2), .int ((a 2 i) 3), .int ((a 2 i) 4), .int ((a 2 i) 5), .int ((a 2 i) 6), .int ((a 2 i) 7), .int ((a 2 i) 8), .ref (K 3 i), .ref (K 5 i), .int ((a 2 i) 9), .int ((a 2 i) 10), .int ((a 2 i) 11), .int ((a 2 i) 12), .ref (K 7 i)]))]) (ci := 1) (v := .int ((a 2 i) 6)) (C := RX1) (T := TX1) (N := 16) hx hb hts tl_X1 hown hK (hP.one (Or.inr (tw_mem (f := 2) (i := i) hi rfl))) 0 rfl rfl 6 (by decide) (hts _ tw_640) (fun _ h9 => h9) rfl dX1_copyFrom_50 ?_
  obtain ⟨ws9, k9, hPw, hDw, hk9, -, hbk⟩ := hP.cut (e := .inr (1, [.int ((a 2 i) 0), .int ((a 2 i) 1), .int ((a 2 i) 2), .int ((a 2 i) 3), .int ((a 2 i) 4), .int ((a 2 i) 5), .int ((b 2 i) 6), .int ((b 2 i) 7), .int ((b 2 i) 8), .ref (L 3 i), .ref (L 5 i), .int ((b 2 i) 9), .int ((b 2 i) 10), .int ((b 2 i) 11), .int ((b 2 i) 12), .ref (L 7 i)])) (Or.inl (tw_mem (f := 2) (i := i) (x := upd (upd (upd (upd (upd (upd (b 2 i) 0 ((a 2 i) 0)) 1 ((a 2 i) 1)) 2 ((a 2 i) 2)) 3 ((a 2 i) 3)) 4 ((a 2 i) 4)) 5 ((a 2 i) 5)) hi S2_eq))
  refine va_put (D := (dC, dI)) (ci := 1) (v := .int ((a 2 i) 6)) (ty := .int) (C := RX1) (T := TX1) (N := 16) hx hb hts tl_X1 tyX1 tyX1_ok nmX1 hown hK hPw hDw hS k9 hk9 rfl 6 (by decide) (hts _ tw_640) (fun _ h9 => h9) rfl (by decide +kernel) rfl rfl (Nat.le_of_ble_eq_true rfl) dX1_copyFrom_53 (fun H locs hPw hDw hS => ?_)
  have hP : mw (dC, dI) vwCl A (fun q e => TW cy L none (S2 b 2 i (upd (upd (upd (upd (upd (upd (upd (b 2 i) 0 ((a 2 i) 0)) 1 ((a 2 i) 1)) 2 ((a 2 i) 2)) 3 ((a 2 i) 3)) 4 ((a 2 i) 4)) 5 ((a 2 i) 5)) 6 ((a 2 i) 6))) κ τ q e ∨ TW cy K sr a μ ν q e) H := (hbk _ _ hPw hDw).sub (mset_l (tw_set (b := S2 b 2 i (upd (upd (upd (upd (upd (upd (upd (b 2 i) 0 ((a 2 i) 0)) 1 ((a 2 i) 1)) 2 ((a 2 i) 2)) 3 ((a 2 i) 3)) 4 ((a 2 i) 4)) 5 ((a 2 i) 5)) 6 ((a 2 i) 6))) (f := 2) (i := i) (x := upd (upd (upd (upd (upd (upd (upd (b 2 i) 0 ((a 2 i) 0)) 1 ((a 2 i) 1)) 2 ((a 2 i) 2)) 3 ((a 2 i) 3)) 4 ((a 2 i) 4)) 5 ((a 2 i) 5)) 6 ((a 2 i) 6)) hT hi (by decide) S2_S2.symm) (fun q e h => ap_off hAP hi h))
  clear hbk hPw hDw hk9
  refine lv_aload_n hx hb dX1_copyFrom_56 rfl (lv_at hl 0 rfl) ?_
  refine lv_aload_n hx hb dX1_copyFrom_57 rfl (lv_at hl 1 rfl) ?_
  refine va_get (D := (dC, dI)) (ws := [(K 2 i, .inr (1, [.int ((a 2 i) 0), .int ((a 2 i) 1), .int ((a 2 i) 2), .int ((a 2 i) 3), .int ((a 2 i) 4), .int ((a 2 i) 5), .int ((a 2 i) 6), .int ((a 2 i) 7), .int ((a 2 i) 8), .ref (K 3 i), .ref (K 5 i), .int ((a 2 i) 9), .int ((a 2 i) 10), .int ((a 2 i) 11), .int ((a 2 i) 12), .ref (K 7 i)]))]) (ci := 1) (v := .int ((a 2 i) 7)) (C := RX1) (T := TX1) (N := 16) hx hb hts tl_X1 hown hK (hP.one (Or.inr (tw_mem (f := 2) (i := i) hi rfl))) 0 rfl rfl 7 (by decide) (hts _ tw_642) (fun _ h9 => h9) rfl dX1_copyFrom_58 ?_
  obtain ⟨ws9, k9, hPw, hDw, hk9, -, hbk⟩ := hP.cut (e := .inr (1, [.int ((a 2 i) 0), .int ((a 2 i) 1), .int ((a 2 i) 2), .int ((a 2 i) 3), .int ((a 2 i) 4), .int ((a 2 i) 5), .int ((a 2 i) 6), .int ((b 2 i) 7), .int ((b 2 i) 8), .ref (L 3 i), .ref (L 5 i), .int ((b 2 i) 9), .int ((b 2 i) 10), .int ((b 2 i) 11), .int ((b 2 i) 12), .ref (L 7 i)])) (Or.inl (tw_mem (f := 2) (i := i) (x := upd (upd (upd (upd (upd (upd (upd (b 2 i) 0 ((a 2 i) 0)) 1 ((a 2 i) 1)) 2 ((a 2 i) 2)) 3 ((a 2 i) 3)) 4 ((a 2 i) 4)) 5 ((a 2 i) 5)) 6 ((a 2 i) 6)) hi S2_eq))
  refine va_put (D := (dC, dI)) (ci := 1) (v := .int ((a 2 i) 7)) (ty := .boolean) (C := RX1) (T := TX1) (N := 16) hx hb hts tl_X1 tyX1 tyX1_ok nmX1 hown hK hPw hDw hS k9 hk9 rfl 7 (by decide) (hts _ tw_642) (fun _ h9 => h9) rfl (by decide +kernel) (m_bool hsh) (m_boolf hsh) (Nat.le_of_ble_eq_true rfl) dX1_copyFrom_61 (fun H locs hPw hDw hS => ?_)
  have hP : mw (dC, dI) vwCl A (fun q e => TW cy L none (S2 b 2 i (upd (upd (upd (upd (upd (upd (upd (upd (b 2 i) 0 ((a 2 i) 0)) 1 ((a 2 i) 1)) 2 ((a 2 i) 2)) 3 ((a 2 i) 3)) 4 ((a 2 i) 4)) 5 ((a 2 i) 5)) 6 ((a 2 i) 6)) 7 ((a 2 i) 7))) κ τ q e ∨ TW cy K sr a μ ν q e) H := (hbk _ _ hPw hDw).sub (mset_l (tw_set (b := S2 b 2 i (upd (upd (upd (upd (upd (upd (upd (upd (b 2 i) 0 ((a 2 i) 0)) 1 ((a 2 i) 1)) 2 ((a 2 i) 2)) 3 ((a 2 i) 3)) 4 ((a 2 i) 4)) 5 ((a 2 i) 5)) 6 ((a 2 i) 6)) 7 ((a 2 i) 7))) (f := 2) (i := i) (x := upd (upd (upd (upd (upd (upd (upd (upd (b 2 i) 0 ((a 2 i) 0)) 1 ((a 2 i) 1)) 2 ((a 2 i) 2)) 3 ((a 2 i) 3)) 4 ((a 2 i) 4)) 5 ((a 2 i) 5)) 6 ((a 2 i) 6)) 7 ((a 2 i) 7)) hT hi (by decide) S2_S2.symm) (fun q e h => ap_off hAP hi h))
  clear hbk hPw hDw hk9
  refine lv_aload_n hx hb dX1_copyFrom_64 rfl (lv_at hl 0 rfl) ?_
  refine lv_aload_n hx hb dX1_copyFrom_65 rfl (lv_at hl 1 rfl) ?_
  refine va_get (D := (dC, dI)) (ws := [(K 2 i, .inr (1, [.int ((a 2 i) 0), .int ((a 2 i) 1), .int ((a 2 i) 2), .int ((a 2 i) 3), .int ((a 2 i) 4), .int ((a 2 i) 5), .int ((a 2 i) 6), .int ((a 2 i) 7), .int ((a 2 i) 8), .ref (K 3 i), .ref (K 5 i), .int ((a 2 i) 9), .int ((a 2 i) 10), .int ((a 2 i) 11), .int ((a 2 i) 12), .ref (K 7 i)]))]) (ci := 1) (v := .int ((a 2 i) 8)) (C := RX1) (T := TX1) (N := 16) hx hb hts tl_X1 hown hK (hP.one (Or.inr (tw_mem (f := 2) (i := i) hi rfl))) 0 rfl rfl 8 (by decide) (hts _ tw_646) (fun _ h9 => h9) rfl dX1_copyFrom_66 ?_
  obtain ⟨ws9, k9, hPw, hDw, hk9, -, hbk⟩ := hP.cut (e := .inr (1, [.int ((a 2 i) 0), .int ((a 2 i) 1), .int ((a 2 i) 2), .int ((a 2 i) 3), .int ((a 2 i) 4), .int ((a 2 i) 5), .int ((a 2 i) 6), .int ((a 2 i) 7), .int ((b 2 i) 8), .ref (L 3 i), .ref (L 5 i), .int ((b 2 i) 9), .int ((b 2 i) 10), .int ((b 2 i) 11), .int ((b 2 i) 12), .ref (L 7 i)])) (Or.inl (tw_mem (f := 2) (i := i) (x := upd (upd (upd (upd (upd (upd (upd (upd (b 2 i) 0 ((a 2 i) 0)) 1 ((a 2 i) 1)) 2 ((a 2 i) 2)) 3 ((a 2 i) 3)) 4 ((a 2 i) 4)) 5 ((a 2 i) 5)) 6 ((a 2 i) 6)) 7 ((a 2 i) 7)) hi S2_eq))
  refine va_put (D := (dC, dI)) (ci := 1) (v := .int ((a 2 i) 8)) (ty := .int) (C := RX1) (T := TX1) (N := 16) hx hb hts tl_X1 tyX1 tyX1_ok nmX1 hown hK hPw hDw hS k9 hk9 rfl 8 (by decide) (hts _ tw_646) (fun _ h9 => h9) rfl (by decide +kernel) rfl rfl (Nat.le_of_ble_eq_true rfl) dX1_copyFrom_69 (fun H locs hPw hDw hS => ?_)
  have hP : mw (dC, dI) vwCl A (fun q e => TW cy L none (S2 b 2 i (upd (upd (upd (upd (upd (upd (upd (upd (upd (b 2 i) 0 ((a 2 i) 0)) 1 ((a 2 i) 1)) 2 ((a 2 i) 2)) 3 ((a 2 i) 3)) 4 ((a 2 i) 4)) 5 ((a 2 i) 5)) 6 ((a 2 i) 6)) 7 ((a 2 i) 7)) 8 ((a 2 i) 8))) κ τ q e ∨ TW cy K sr a μ ν q e) H := (hbk _ _ hPw hDw).sub (mset_l (tw_set (b := S2 b 2 i (upd (upd (upd (upd (upd (upd (upd (upd (upd (b 2 i) 0 ((a 2 i) 0)) 1 ((a 2 i) 1)) 2 ((a 2 i) 2)) 3 ((a 2 i) 3)) 4 ((a 2 i) 4)) 5 ((a 2 i) 5)) 6 ((a 2 i) 6)) 7 ((a 2 i) 7)) 8 ((a 2 i) 8))) (f := 2) (i := i) (x := upd (upd (upd (upd (upd (upd (upd (upd (upd (b 2 i) 0 ((a 2 i) 0)) 1 ((a 2 i) 1)) 2 ((a 2 i) 2)) 3 ((a 2 i) 3)) 4 ((a 2 i) 4)) 5 ((a 2 i) 5)) 6 ((a 2 i) 6)) 7 ((a 2 i) 7)) 8 ((a 2 i) 8)) hT hi (by decide) S2_S2.symm) (fun q e h => ap_off hAP hi h))
  clear hbk hPw hDw hk9
  refine lv_aload_n hx hb dX1_copyFrom_72 rfl (lv_at hl 0 rfl) ?_
  refine va_get (D := (dC, dI)) (ws := [(L 2 i, .inr (1, [.int ((a 2 i) 0), .int ((a 2 i) 1), .int ((a 2 i) 2), .int ((a 2 i) 3), .int ((a 2 i) 4), .int ((a 2 i) 5), .int ((a 2 i) 6), .int ((a 2 i) 7), .int ((a 2 i) 8), .ref (L 3 i), .ref (L 5 i), .int ((b 2 i) 9), .int ((b 2 i) 10), .int ((b 2 i) 11), .int ((b 2 i) 12), .ref (L 7 i)]))]) (ci := 1) (v := .ref (L 3 i)) (C := RX1) (T := TX1) (N := 16) hx hb hts tl_X1 hown hK (hP.one (Or.inl (tw_mem (f := 2) (i := i) (x := upd (upd (upd (upd (upd (upd (upd (upd (upd (b 2 i) 0 ((a 2 i) 0)) 1 ((a 2 i) 1)) 2 ((a 2 i) 2)) 3 ((a 2 i) 3)) 4 ((a 2 i) 4)) 5 ((a 2 i) 5)) 6 ((a 2 i) 6)) 7 ((a 2 i) 7)) 8 ((a 2 i) 8)) hi S2_eq))) 0 rfl rfl 9 (by decide) (hts _ tw_648) (fun _ h9 => h9) rfl dX1_copyFrom_73 ?_
  refine lv_aload_n hx hb dX1_copyFrom_76 rfl (lv_at hl 1 rfl) ?_
  refine va_get (D := (dC, dI)) (ws := [(K 2 i, .inr (1, [.int ((a 2 i) 0), .int ((a 2 i) 1), .int ((a 2 i) 2), .int ((a 2 i) 3), .int ((a 2 i) 4), .int ((a 2 i) 5), .int ((a 2 i) 6), .int ((a 2 i) 7), .int ((a 2 i) 8), .ref (K 3 i), .ref (K 5 i), .int ((a 2 i) 9), .int ((a 2 i) 10), .int ((a 2 i) 11), .int ((a 2 i) 12), .ref (K 7 i)]))]) (ci := 1) (v := .ref (K 3 i)) (C := RX1) (T := TX1) (N := 16) hx hb hts tl_X1 hown hK (hP.one (Or.inr (tw_mem (f := 2) (i := i) hi rfl))) 0 rfl rfl 9 (by decide) (hts _ tw_648) (fun _ h9 => h9) rfl dX1_copyFrom_77 ?_
  obtain ⟨b1, eb1⟩ : ∃ z : St, z = S2 b 2 i (upd (upd (upd (upd (upd (upd (upd (upd (upd (b 2 i) 0 ((a 2 i) 0)) 1 ((a 2 i) 1)) 2 ((a 2 i) 2)) 3 ((a 2 i) 3)) 4 ((a 2 i) 4)) 5 ((a 2 i) 5)) 6 ((a 2 i) 6)) 7 ((a 2 i) 7)) 8 ((a 2 i) 8)) := ⟨_, rfl⟩
  rw [← eb1] at hP
  have hFc := m_free (C := (fun q e => TW cy L none b1 κ τ q e ∨ TW cy K sr a μ ν q e)) hP hS hA (fun _ _ h => h)
  refine va_callv (va_runV (As := [.ref (K 3 i)]) (rest := []) ⟨hx, hb, hml, hown, hts⟩ (c_Row_copyFrom_row l dC dI cy L b1 κ τ K sr a μ ν i H.size hT hT2 hAP hi h3) (tp_cwV 1 hts tw_472 tw_473 tw_474 tw_24 tw_475 rfl rfl (by decide +kernel) ⟨Nat.le_of_ble_eq_true rfl, Nat.le_of_ble_eq_true rfl⟩) ⟨m_blind, va_recv hK (hP.one (e := .inr (3, [.ref (L 4 i), .int ((b1 3 i) 0)])) (Or.inl (tw_mem (f := 3) (i := i) hi rfl))) (ci := 3) (q0 := 0) rfl rfl, fun U hU hW => ⟨rfl, m_pay hK hP hE (fun _ _ h => h) U hU hW⟩⟩ rfl rfl hl.1 rfl (lv_room (Nat.le_of_ble_eq_true rfl)) dX1_copyFrom_80 ⟨(Nat.le_of_ble_eq_true rfl), (Nat.le_of_ble_eq_true rfl)⟩) hS (fun q _ h => hFc q h) hFc (fun u t H1 locs ht hvm hpo hB hz1 hk1 hS => ?_)
  have hP1 := hB
  rw [ht] at hP1
  have hP : mw (dC, dI) vwCl A (fun q e => TW cy L none (R_copy 3 4 b1 a i) κ τ q e ∨ TW cy K sr a μ ν q e) H1 := hP.join (fun _ _ h => h) hk1 hFc hP1 (fun _ _ h => Or.inl h)
  generalize H1 = H at hP hS ⊢
  clear hP1 hk1 hFc
  obtain ⟨b2, eb2⟩ : ∃ z : St, z = R_copy 3 4 b1 a i := ⟨_, rfl⟩
  rw [← eb2] at hP
  refine lv_aload_n hx hb dX1_copyFrom_83 rfl (lv_at hl 0 rfl) ?_
  refine va_get (D := (dC, dI)) (ws := [(L 2 i, .inr (1, [.int ((b2 2 i) 0), .int ((b2 2 i) 1), .int ((b2 2 i) 2), .int ((b2 2 i) 3), .int ((b2 2 i) 4), .int ((b2 2 i) 5), .int ((b2 2 i) 6), .int ((b2 2 i) 7), .int ((b2 2 i) 8), .ref (L 3 i), .ref (L 5 i), .int ((b2 2 i) 9), .int ((b2 2 i) 10), .int ((b2 2 i) 11), .int ((b2 2 i) 12), .ref (L 7 i)]))]) (ci := 1) (v := .ref (L 5 i)) (C := RX1) (T := TX1) (N := 16) hx hb hts tl_X1 hown hK (hP.one (Or.inl (tw_mem (f := 2) (i := i) hi rfl))) 0 rfl rfl 10 (by decide) (hts _ tw_651) (fun _ h9 => h9) rfl dX1_copyFrom_84 ?_
  refine lv_aload_n hx hb dX1_copyFrom_87 rfl (lv_at hl 1 rfl) ?_
  refine va_get (D := (dC, dI)) (ws := [(K 2 i, .inr (1, [.int ((a 2 i) 0), .int ((a 2 i) 1), .int ((a 2 i) 2), .int ((a 2 i) 3), .int ((a 2 i) 4), .int ((a 2 i) 5), .int ((a 2 i) 6), .int ((a 2 i) 7), .int ((a 2 i) 8), .ref (K 3 i), .ref (K 5 i), .int ((a 2 i) 9), .int ((a 2 i) 10), .int ((a 2 i) 11), .int ((a 2 i) 12), .ref (K 7 i)]))]) (ci := 1) (v := .ref (K 5 i)) (C := RX1) (T := TX1) (N := 16) hx hb hts tl_X1 hown hK (hP.one (Or.inr (tw_mem (f := 2) (i := i) hi rfl))) 0 rfl rfl 10 (by decide) (hts _ tw_651) (fun _ h9 => h9) rfl dX1_copyFrom_88 ?_
  have hFc := m_free (C := (fun q e => TW cy L none b2 κ τ q e ∨ TW cy K sr a μ ν q e)) hP hS hA (fun _ _ h => h)
  refine va_callv (va_runV (As := [.ref (K 5 i)]) (rest := []) ⟨hx, hb, hml, hown, hts⟩ (c_Row_copyFrom_ends l dC dI cy L b2 κ τ K sr a μ ν i H.size hT hT2 hAP hi h5) (tp_cwV 1 hts tw_472 tw_473 tw_474 tw_24 tw_475 rfl rfl (by decide +kernel) ⟨Nat.le_of_ble_eq_true rfl, Nat.le_of_ble_eq_true rfl⟩) ⟨m_blind, va_recv hK (hP.one (e := .inr (3, [.ref (L 6 i), .int ((b2 5 i) 0)])) (Or.inl (tw_mem (f := 5) (i := i) hi rfl))) (ci := 3) (q0 := 0) rfl rfl, fun U hU hW => ⟨rfl, m_pay hK hP hE (fun _ _ h => h) U hU hW⟩⟩ rfl rfl hl.1 rfl (lv_room (Nat.le_of_ble_eq_true rfl)) dX1_copyFrom_91 ⟨(Nat.le_of_ble_eq_true rfl), (Nat.le_of_ble_eq_true rfl)⟩) hS (fun q _ h => hFc q h) hFc (fun u t H1 locs ht hvm hpo hB hz1 hk1 hS => ?_)
  have hP1 := hB
  rw [ht] at hP1
  have hP : mw (dC, dI) vwCl A (fun q e => TW cy L none (R_copy 5 6 b2 a i) κ τ q e ∨ TW cy K sr a μ ν q e) H1 := hP.join (fun _ _ h => h) hk1 hFc hP1 (fun _ _ h => Or.inl h)
  generalize H1 = H at hP hS ⊢
  clear hP1 hk1 hFc
  obtain ⟨b3, eb3⟩ : ∃ z : St, z = R_copy 5 6 b2 a i := ⟨_, rfl⟩
  rw [← eb3] at hP
  refine W.widen (k := 0) (n := 0) (Nat.le_of_ble_eq_true rfl) (Nat.le_of_ble_eq_true rfl) ?_
  have s_1 : b3 = L_copy b a i := by
    unfold L_copy X_cp9
    rw [← eb1]
    rw [eb3, eb2]
  rw [s_1] at hP
  exact W.vret hx hb hr (fun t ht hW => ⟨⟨(), rfl, trivial, (by show mw _ _ _ _ t.heap; rw [ht]; exact hP)⟩, hS.F ht⟩) hS.2.2 dX1_copyFrom_94
