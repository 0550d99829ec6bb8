-- ===== PART A: goes FIRST, ahead of the names: the tables' words, and 'selects' of the private methods out of them =====
/-- a private method of a class that the tables say can be made, by its rows of tables_1 -/
def lw_okq (q : MethodName × Nat) : Prop := (q.1.cls ≠ "java/lang/invoke/MethodHandle" ∧ q.1.cls ≠ "java/lang/invoke/VarHandle") ∧ Cond.instantiable q.1.cls q.2 ∈ tables_1 ∧ Cond.privateMethod q.1 ∈ tables_1 ∧ Cond.instanceMethod q.1 ∈ tables_1
theorem lw_p0 : lw_okq (⟨"java/lang/Throwable", "fillInStackTrace", "(I)Ljava/lang/Throwable;"⟩, 6) := ⟨⟨by decide +kernel, by decide +kernel⟩, List.mem_of_getElem? (i := 71) (by decide +kernel), List.mem_of_getElem? (i := 69) (by decide +kernel), List.mem_of_getElem? (i := 70) (by decide +kernel)⟩
theorem lw_p1 : lw_okq (⟨"Turnpike", "linkNumbered", "(I)LTurnpike$Link;"⟩, 2) := ⟨⟨by decide +kernel, by decide +kernel⟩, List.mem_of_getElem? (i := 107) (by decide +kernel), List.mem_of_getElem? (i := 105) (by decide +kernel), List.mem_of_getElem? (i := 106) (by decide +kernel)⟩
theorem lw_p2 : lw_okq (⟨"Turnpike$Traffic", "bringVehicles", "()V"⟩, 12) := ⟨⟨by decide +kernel, by decide +kernel⟩, List.mem_of_getElem? (i := 176) (by decide +kernel), List.mem_of_getElem? (i := 174) (by decide +kernel), List.mem_of_getElem? (i := 175) (by decide +kernel)⟩
theorem lw_p3 : lw_okq (⟨"Turnpike$Traffic", "bring", "(I)V"⟩, 12) := ⟨⟨by decide +kernel, by decide +kernel⟩, List.mem_of_getElem? (i := 176) (by decide +kernel), List.mem_of_getElem? (i := 183) (by decide +kernel), List.mem_of_getElem? (i := 184) (by decide +kernel)⟩
theorem lw_p4 : lw_okq (⟨"Turnpike$Traffic", "playSignals", "()V"⟩, 12) := ⟨⟨by decide +kernel, by decide +kernel⟩, List.mem_of_getElem? (i := 176) (by decide +kernel), List.mem_of_getElem? (i := 215) (by decide +kernel), List.mem_of_getElem? (i := 216) (by decide +kernel)⟩
theorem lw_p5 : lw_okq (⟨"Turnpike$Signal", "isOn", "()Z"⟩, 6) := ⟨⟨by decide +kernel, by decide +kernel⟩, List.mem_of_getElem? (i := 225) (by decide +kernel), List.mem_of_getElem? (i := 223) (by decide +kernel), List.mem_of_getElem? (i := 224) (by decide +kernel)⟩
theorem lw_p6 : lw_okq (⟨"Turnpike$Traffic", "driveOnLinks", "()V"⟩, 12) := ⟨⟨by decide +kernel, by decide +kernel⟩, List.mem_of_getElem? (i := 176) (by decide +kernel), List.mem_of_getElem? (i := 240) (by decide +kernel), List.mem_of_getElem? (i := 241) (by decide +kernel)⟩
theorem lw_p7 : lw_okq (⟨"Turnpike$Traffic", "firstGoesOn", "(LTurnpike$Link;)Z"⟩, 12) := ⟨⟨by decide +kernel, by decide +kernel⟩, List.mem_of_getElem? (i := 176) (by decide +kernel), List.mem_of_getElem? (i := 252) (by decide +kernel), List.mem_of_getElem? (i := 253) (by decide +kernel)⟩
theorem lw_p8 : lw_okq (⟨"Turnpike$Traffic", "arrive", "(LTurnpike$Vehicle;)V"⟩, 12) := ⟨⟨by decide +kernel, by decide +kernel⟩, List.mem_of_getElem? (i := 176) (by decide +kernel), List.mem_of_getElem? (i := 262) (by decide +kernel), List.mem_of_getElem? (i := 263) (by decide +kernel)⟩
theorem lw_p9 : lw_okq (⟨"Turnpike$Traffic", "nextOf", "(LTurnpike$Vehicle;I)I"⟩, 12) := ⟨⟨by decide +kernel, by decide +kernel⟩, List.mem_of_getElem? (i := 176) (by decide +kernel), List.mem_of_getElem? (i := 277) (by decide +kernel), List.mem_of_getElem? (i := 278) (by decide +kernel)⟩
theorem lw_p10 : lw_okq (⟨"Turnpike$Traffic", "comesOnto", "(ILTurnpike$Vehicle;I)Z"⟩, 12) := ⟨⟨by decide +kernel, by decide +kernel⟩, List.mem_of_getElem? (i := 176) (by decide +kernel), List.mem_of_getElem? (i := 286) (by decide +kernel), List.mem_of_getElem? (i := 287) (by decide +kernel)⟩
theorem lw_p11 : lw_okq (⟨"Turnpike$Traffic", "driveFromNodes", "()V"⟩, 12) := ⟨⟨by decide +kernel, by decide +kernel⟩, List.mem_of_getElem? (i := 176) (by decide +kernel), List.mem_of_getElem? (i := 339) (by decide +kernel), List.mem_of_getElem? (i := 340) (by decide +kernel)⟩
theorem lw_p12 : lw_okq (⟨"Turnpike", "vehicleNumbered", "(I)LTurnpike$Vehicle;"⟩, 2) := ⟨⟨by decide +kernel, by decide +kernel⟩, List.mem_of_getElem? (i := 107) (by decide +kernel), List.mem_of_getElem? (i := 370) (by decide +kernel), List.mem_of_getElem? (i := 371) (by decide +kernel)⟩
theorem lw_p13 : lw_okq (⟨"Turnpike", "checkNode", "(I)V"⟩, 2) := ⟨⟨by decide +kernel, by decide +kernel⟩, List.mem_of_getElem? (i := 107) (by decide +kernel), List.mem_of_getElem? (i := 409) (by decide +kernel), List.mem_of_getElem? (i := 410) (by decide +kernel)⟩
theorem lw_p14 : lw_okq (⟨"Turnpike", "digestNodes", "(J)J"⟩, 2) := ⟨⟨by decide +kernel, by decide +kernel⟩, List.mem_of_getElem? (i := 107) (by decide +kernel), List.mem_of_getElem? (i := 500) (by decide +kernel), List.mem_of_getElem? (i := 501) (by decide +kernel)⟩
theorem lw_p15 : lw_okq (⟨"Turnpike", "digestLinks", "(J)J"⟩, 2) := ⟨⟨by decide +kernel, by decide +kernel⟩, List.mem_of_getElem? (i := 107) (by decide +kernel), List.mem_of_getElem? (i := 523) (by decide +kernel), List.mem_of_getElem? (i := 524) (by decide +kernel)⟩
def lw_privs_1 : List (MethodName × Nat) := [(⟨"java/lang/Throwable", "fillInStackTrace", "(I)Ljava/lang/Throwable;"⟩, 6), (⟨"Turnpike", "linkNumbered", "(I)LTurnpike$Link;"⟩, 2), (⟨"Turnpike$Traffic", "bringVehicles", "()V"⟩, 12), (⟨"Turnpike$Traffic", "bring", "(I)V"⟩, 12), (⟨"Turnpike$Traffic", "playSignals", "()V"⟩, 12), (⟨"Turnpike$Signal", "isOn", "()Z"⟩, 6), (⟨"Turnpike$Traffic", "driveOnLinks", "()V"⟩, 12), (⟨"Turnpike$Traffic", "firstGoesOn", "(LTurnpike$Link;)Z"⟩, 12), (⟨"Turnpike$Traffic", "arrive", "(LTurnpike$Vehicle;)V"⟩, 12), (⟨"Turnpike$Traffic", "nextOf", "(LTurnpike$Vehicle;I)I"⟩, 12), (⟨"Turnpike$Traffic", "comesOnto", "(ILTurnpike$Vehicle;I)Z"⟩, 12), (⟨"Turnpike$Traffic", "driveFromNodes", "()V"⟩, 12), (⟨"Turnpike", "vehicleNumbered", "(I)LTurnpike$Vehicle;"⟩, 2), (⟨"Turnpike", "checkNode", "(I)V"⟩, 2), (⟨"Turnpike", "digestNodes", "(J)J"⟩, 2), (⟨"Turnpike", "digestLinks", "(J)J"⟩, 2)]
theorem lw_r1 : ∀ q ∈ lw_privs_1, lw_okq q := List.forall_mem_cons.mpr ⟨lw_p0, List.forall_mem_cons.mpr ⟨lw_p1, List.forall_mem_cons.mpr ⟨lw_p2, List.forall_mem_cons.mpr ⟨lw_p3, List.forall_mem_cons.mpr ⟨lw_p4, List.forall_mem_cons.mpr ⟨lw_p5, List.forall_mem_cons.mpr ⟨lw_p6, List.forall_mem_cons.mpr ⟨lw_p7, List.forall_mem_cons.mpr ⟨lw_p8, List.forall_mem_cons.mpr ⟨lw_p9, List.forall_mem_cons.mpr ⟨lw_p10, List.forall_mem_cons.mpr ⟨lw_p11, List.forall_mem_cons.mpr ⟨lw_p12, List.forall_mem_cons.mpr ⟨lw_p13, List.forall_mem_cons.mpr ⟨lw_p14, List.forall_mem_cons.mpr ⟨lw_p15, fun _ h => absurd h List.not_mem_nil⟩⟩⟩⟩⟩⟩⟩⟩⟩⟩⟩⟩⟩⟩⟩⟩
theorem lw_p16 : lw_okq (⟨"Turnpike", "digestFlows", "(J)J"⟩, 2) := ⟨⟨by decide +kernel, by decide +kernel⟩, List.mem_of_getElem? (i := 107) (by decide +kernel), List.mem_of_getElem? (i := 544) (by decide +kernel), List.mem_of_getElem? (i := 545) (by decide +kernel)⟩
theorem lw_p17 : lw_okq (⟨"Turnpike", "digestVehicles", "(J)J"⟩, 2) := ⟨⟨by decide +kernel, by decide +kernel⟩, List.mem_of_getElem? (i := 107) (by decide +kernel), List.mem_of_getElem? (i := 549) (by decide +kernel), List.mem_of_getElem? (i := 550) (by decide +kernel)⟩
def lw_privs_2 : List (MethodName × Nat) := [(⟨"Turnpike", "digestFlows", "(J)J"⟩, 2), (⟨"Turnpike", "digestVehicles", "(J)J"⟩, 2)]
theorem lw_r2 : ∀ q ∈ lw_privs_2, lw_okq q := List.forall_mem_cons.mpr ⟨lw_p16, List.forall_mem_cons.mpr ⟨lw_p17, fun _ h => absurd h List.not_mem_nil⟩⟩
def lw_privs : List (MethodName × Nat) := lw_privs_1 ++ (lw_privs_2)
def lw_tbl : List Cond := k2_sels lw_privs ++ tables_1
theorem lw_privs_ok : ∀ q ∈ lw_privs, lw_okq q := by
  show ∀ q ∈ lw_privs_1 ++ (lw_privs_2), lw_okq q
  exact List.forall_mem_append.mpr ⟨lw_r1, lw_r2⟩
/-- a class of arrays over an array type (the printed block va_mna names these words) -/
def va_AOA (ty : FieldType) (U : State) : Prop := (Cond.arrayOver (.array ty)).before #[] U = true
theorem va_AOA.of {ty : FieldType} {A : Array Value} {U : State} (h : (Cond.arrayOver (.array ty)).before A U = true) : va_AOA ty U := h
theorem va_AOA.use {ty : FieldType} {A : Array Value} {U : State} (h : va_AOA ty U) : (Cond.arrayOver (.array ty)).before A U = true := h
theorem va_AOA.moved {ty : FieldType} {u U : State} (hvm : u.vm.Alike U.vm) (h : va_AOA ty u) : va_AOA ty U := Jvm.Stand.arrayOver_alikeB hvm h
/-! ===== BEGIN words of one list among another's, by their places ===== -/
theorem goodIn_r {big : List Cond} (ws : List Cond) (ps : List Nat) (hp : ws = ps.filterMap (fun i => big[i]?)) (h : ws.all goodWord = true) : GoodIn big ws := by
  intro w hw
  have h1 := List.all_eq_true.mp h w hw
  rw [hp] at hw
  obtain ⟨i, -, hi⟩ := List.mem_filterMap.mp hw
  have hm : w ∈ big := by first | exact List.mem_of_getElem? hi | exact List.getElem?_mem hi
  exact ⟨hm, good_of_word h1⟩
theorem goodIn_app {big a b : List Cond} (ha : GoodIn big a) (hb : GoodIn big b) : GoodIn big (a ++ b) := fun w h => (List.mem_append.mp h).elim (ha w) (hb w)
theorem goodIn_ca {big a b : List Cond} {c : Cond} (ha : GoodIn big (c :: a)) (hb : GoodIn big b) : GoodIn big (c :: (a ++ b)) := fun w h => (List.mem_cons.mp h).elim (fun e => ha w (List.mem_cons.mpr (Or.inl e))) (fun h => (List.mem_append.mp h).elim (fun h => ha w (List.mem_cons.mpr (Or.inr h))) (hb w))
theorem goodIn_sub {big ws : List Cond} (hm : ∀ w ∈ ws, w ∈ big) (h : ws.all goodWord = true) : GoodIn big ws := fun w hw => ⟨hm w hw, good_of_word (List.all_eq_true.mp h w hw)⟩
/-! ===== END ===== -/

/-! ===== BEGIN new T[n][m]: the outer array a place, the inner ones among the pooled ===== -/
/-- f, but v at every address of l -/
def vr_up {α : Type} (f : Nat → α) (l : List Nat) (v : α) : Nat → α := fun a => if a ∈ l then v else f a
theorem vr_up_in {α : Type} {f : Nat → α} {l : List Nat} {v : α} {a : Nat} (h : a ∈ l) : vr_up f l v a = v := if_pos h
theorem vr_up_ne {α : Type} {f : Nat → α} {l : List Nat} {v : α} {a : Nat} (h : a ∉ l) : vr_up f l v a = f a := if_neg h
theorem vr_rows {L l : List Nat} {f : Nat → va_E} {e : va_E} (h : ∀ a, a ∈ l → a ∉ L) : va_pl L f ++ l.map (fun a => (a, e)) = va_pl (L ++ l) (vr_up f l e) := by
  unfold va_pl
  rw [List.map_append]
  congr 1
  · apply List.map_congr_left
    intro a ha
    rw [vr_up_ne (fun q => h a q ha)]
  · apply List.map_congr_left
    intro a ha
    rw [vr_up_in ha]
theorem vr_lay {X rows : va_W} {x : Nat × va_E} {pl : va_W} {D : va_G} {cl : List vw_C} {H : Heap} (hP : va_P D cl (((X ++ pl) ++ [x]) ++ rows) H) : va_P D cl ((X ++ [x]) ++ (pl ++ rows)) H := by
  rw [List.append_assoc (X ++ pl)] at hP
  have h := va_P.swap hP
  rw [← List.append_assoc X] at h
  have h2 := va_P.swap h
  rw [List.append_assoc (X ++ [x])] at h2
  exact h2
theorem vr_layD {X rows : va_W} {x : Nat × va_E} {pl : va_W} {A : Nat → Prop} (hD : va_D A (((X ++ pl) ++ [x]) ++ rows)) : va_D A ((X ++ [x]) ++ (pl ++ rows)) := by
  rw [List.append_assoc (X ++ pl)] at hD
  have h := va_D.swap hD
  rw [← List.append_assoc X] at h
  have h2 := va_D.swap h
  rw [List.append_assoc (X ++ [x])] at h2
  exact h2
theorem vr_outer (c : ClassId) (N h0 : Nat) : ∀ i : Nat, Jvm.Free.Multi.outerC c N h0 i = arrV c N (fun j => va_rf (if j < i then some (h0 + 1 + j) else none))
  | 0 => by
    show ({ cls := c, slots := Array.replicate N .null, vm := .none } : Cell) = _
    rw [arrV_new]
    refine congrArg (arrV c N) (funext fun j => ?_)
    simp [va_rf]
  | i + 1 => by
    show (Jvm.Free.Multi.outerC c N h0 i).setSlot i (.ref (h0 + 1 + i)) = _
    rw [vr_outer c N h0 i, arrV_store]
    refine congrArg (arrV c N) (funext fun j => ?_)
    by_cases e : j = i
    · subst e
      simp [updV, va_rf]
    · by_cases h : j < i
      · simp [updV, e, h, Nat.lt_succ_of_lt h]
      · simp [updV, e, h, show ¬ j < i + 1 by omega]
section VGM
variable {p : Program} {l : Launch} {e : Env} {R : Room} {s : State} {m : MethodId} {args : Array Value} {below : List Frame} {meth : Method} {c : Code} {H : Heap} {locs : List Loc} {cells slots : Nat} {Q : State → Prop}
variable {cc : ByteArray} {pc : Nat} {ls : Array Slot} {rest : List Value} {D : va_G} {cl : List vw_C} {A : Nat → Prop} {a : Nat} {tys : List (ClassId × FieldType)} {ws : va_W} {H0 : Heap}
theorem va_mna {X : va_W} {L : List Nat} {f : Nat → va_E} {cc : ByteArray} (hexec : p.tables.exec = Jvm.exec) (hb : c.code = cc) {own : String} {index : Nat} {ty : FieldType} {cy : ClassId} (hown : s.vm.findClass own = some m.cls) (hclink : (Cond.classLink own index ("[" ++ (FieldType.array ty).toString)).before args s = true) (hover : va_AOA ty s) (harr : (Cond.arrayClass ty).before args s = true) (hcy : s.vm.findClass (FieldType.array ty).toString = some cy)
    (hK : va_K D cl tys s) (hP : va_P D cl (X ++ va_pl L f) H) (hD : va_D A (X ++ va_pl L f)) (hS : va_S A H0 H locs) (hA : ∀ q, H0.size ≤ q → A q) {n k : Int32} {N' K' : Nat} {z : vp_A} (hn : ¬ n < 0) (hk : ¬ k < 0) (hN : n.toNatClampNeg = N') (hM : k.toNatClampNeg = K')
    (hb1 : N' * 4 ≤ 536870912) (hb2 : K' * componentBytes ty ≤ 536870912) (hb3 : K' ≤ 536870912) (hdf : fits ty (defaultValue ty) = true) (hdd : (defaultValue ty).isDefault = true) (hcells : cells + (1 + N') ≤ R.cells) (hslots : slots + (N' + N' * K') ≤ R.slots) (hz : ∀ c : ClassId, Jvm.Free.Multi.innerC c K' (defaultValue ty) = vp_cell c z) (hdg : decode cc pc = .ok (.multianewarray index 2, 4))
    (kk : ∀ (q : Nat) (r : Nat → Nat) (cA : ClassId) (H1 : Heap), (∀ i j : Nat, i < N' → j < N' → r i = r j → i = j) → (∀ i : Nat, i < N' → r i ∉ L) → va_K D cl (tys ++ [(cA, .array ty)]) s →
      va_P D cl ((X ++ [(q, .inl (cA, N', .inr (.inr (.inr (.inr (fun i => if i < N' then some (r i) else none))))))]) ++ va_pl (L ++ (List.range N').map r) (vr_up f ((List.range N').map r) (.inl (cy, z)))) H1 → va_D A ((X ++ [(q, .inl (cA, N', .inr (.inr (.inr (.inr (fun i => if i < N' then some (r i) else none))))))]) ++ va_pl (L ++ (List.range N').map r) (vr_up f ((List.range N').map r) (.inl (cy, z)))) → va_S A H0 H1 locs →
      W p l e R s m args below meth c H1 locs (cells + 1 + N') (slots + N' + N' * K') Q (F0 m (pc + 4) ls (.ref q :: rest))) : W p l e R s m args below meth c H locs cells slots Q (F0 m pc ls (.int k :: .int n :: rest)) := by
  subst hN
  subst hM
  intro T hT Xs
  obtain ⟨vm₁, cA, comp, -, fA, fC, hO, -, X', step⟩ := Xs.multianewarray2F hexec hown hclink (va_AOA.use hover) harr (g := F0 m pc ls (.int k :: .int n :: rest)) rfl (by rw [hb]; exact hdg) rfl hn hk hb1 hb2 hb3 hdf hdd hcells hslots
  have ec : some cy = some comp := hcy.symm.trans fC
  cases ec
  generalize hF : Jvm.Free.Multi.fill (T.setVm vm₁) cA cy n.toNatClampNeg k.toNatClampNeg (defaultValue ty) n.toNatClampNeg = F at X' step
  have hTh : (T.setVm vm₁).heap = H := hT
  obtain ⟨f1, f2, -, -⟩ := Jvm.Free.Multi.fill_facts (T.setVm vm₁) cA cy n.toNatClampNeg k.toNatClampNeg (defaultValue ty) n.toNatClampNeg
  rw [hF, hTh] at f1 f2
  have hold : ∀ x : Nat, x < H.size → F.heap[x]? = H[x]? := fun x hx => by
    have := Jvm.Free.Multi.fill_old (T.setVm vm₁) cA cy n.toNatClampNeg k.toNatClampNeg (defaultValue ty) (a := x) (by rw [hTh]; exact hx) n.toNatClampNeg
    rw [hF, hTh] at this
    exact this
  have hrow : ∀ j : Nat, j < n.toNatClampNeg → F.heap[H.size + 1 + j]? = some (vp_cell cy z) := fun j hj => by
    have := Jvm.Free.Multi.fill_inner (T.setVm vm₁) cA cy n.toNatClampNeg k.toNatClampNeg (defaultValue ty) n.toNatClampNeg j hj
    rw [hF, hTh, hz] at this
    exact this
  have hout : Jvm.Free.Multi.outerC cA n.toNatClampNeg H.size n.toNatClampNeg = vp_cell cA (n.toNatClampNeg, .inr (.inr (.inr (.inr (fun i => if i < n.toNatClampNeg then some (H.size + 1 + i) else none))))) := by
    rw [vp_cell_q]
    exact vr_outer cA n.toNatClampNeg H.size n.toNatClampNeg
  rw [hout] at f2
  have hlt : ∀ a, a ∈ L → a < H.size := fun a ha => by
    obtain ⟨k9, hk9⟩ := va_pl_get (X := X) (f := f) ha
    exact (hP k9 _ hk9).lt
  have hnl : ∀ i : Nat, i < n.toNatClampNeg → H.size + 1 + i ∉ L := fun i _ h => by
    have := hlt _ h
    omega
  have hnm : ∀ a, a ∈ (List.range n.toNatClampNeg).map (fun i => H.size + 1 + i) → a ∉ L := fun a ha h => by
    obtain ⟨i, -, rfl⟩ := List.mem_map.mp ha
    have := hlt _ h
    omega
  have hP0 : va_P D cl (X ++ va_pl L f) F.heap := hP.kept (fun k9 x hx => hold x.1 ((hP k9 x hx).lt))
  have hP1 : va_P D cl ((X ++ va_pl L f) ++ [(H.size, .inl (cA, n.toNatClampNeg, .inr (.inr (.inr (.inr (fun i => if i < n.toNatClampNeg then some (H.size + 1 + i) else none))))))]) F.heap := hP0.app (fun k9 x hx => by
    have h0 : k9 < 1 := (List.getElem?_eq_some_iff.mp hx).1
    rw [show k9 = 0 by omega] at hx
    cases hx
    exact f2)
  have hP2 : va_P D cl (((X ++ va_pl L f) ++ [(H.size, .inl (cA, n.toNatClampNeg, .inr (.inr (.inr (.inr (fun i => if i < n.toNatClampNeg then some (H.size + 1 + i) else none))))))]) ++ ((List.range n.toNatClampNeg).map (fun i => H.size + 1 + i)).map (fun a => (a, .inl (cy, z)))) F.heap := hP1.app (fun k9 x hx => by
    obtain ⟨a, ha, rfl⟩ := List.mem_map.mp (List.mem_of_getElem? hx)
    obtain ⟨i, hi, rfl⟩ := List.mem_map.mp ha
    exact hrow i (List.mem_range.mp hi))
  have hD2 : va_D A (((X ++ va_pl L f) ++ [(H.size, .inl (cA, n.toNatClampNeg, .inr (.inr (.inr (.inr (fun i => if i < n.toNatClampNeg then some (H.size + 1 + i) else none))))))]) ++ ((List.range n.toNatClampNeg).map (fun i => H.size + 1 + i)).map (fun a => (a, .inl (cy, z)))) := by
    have hD1 := hD.push (e := .inl (cA, n.toNatClampNeg, .inr (.inr (.inr (.inr (fun i => if i < n.toNatClampNeg then some (H.size + 1 + i) else none)))))) hP rfl (hA _ hS.1)
    generalize hW1 : (X ++ va_pl L f) ++ [(H.size, .inl (cA, n.toNatClampNeg, .inr (.inr (.inr (.inr (fun i => if i < n.toNatClampNeg then some (H.size + 1 + i) else none))))))] = W1 at hD1 hP1 ⊢
    have hle : ∀ (k9 : Nat) (x : Nat × va_E), W1[k9]? = some x → x.1 ≤ H.size := fun k9 x hx => by
      rw [← hW1] at hx
      by_cases hl : k9 < (X ++ va_pl L f).length
      · rw [List.getElem?_append_left hl] at hx
        exact Nat.le_of_lt ((hP k9 x hx).lt)
      · rw [List.getElem?_append_right (by omega)] at hx
        have h0 : k9 - (X ++ va_pl L f).length < 1 := (List.getElem?_eq_some_iff.mp hx).1
        rw [show k9 - (X ++ va_pl L f).length = 0 by omega] at hx
        cases hx
        exact Nat.le_refl _
    have hr : ∀ (k9 : Nat) (x : Nat × va_E), (((List.range n.toNatClampNeg).map (fun i => H.size + 1 + i)).map (fun a => ((a, .inl (cy, z)) : Nat × va_E)))[k9]? = some x → x.1 = H.size + 1 + k9 := fun k9 x hx => by
      rw [List.getElem?_map, List.getElem?_map] at hx
      by_cases h9 : k9 < n.toNatClampNeg
      · rw [List.getElem?_range h9] at hx
        cases hx
        rfl
      · have hn0 : (List.range n.toNatClampNeg)[k9]? = none := List.getElem?_eq_none (by rw [List.length_range]; omega)
        rw [hn0] at hx
        cases hx
    refine ⟨fun i j x y hi hj hxy => ?_, fun k9 x hx => ?_⟩
    · by_cases h1 : i < W1.length <;> by_cases h2 : j < W1.length
      · rw [List.getElem?_append_left h1] at hi
        rw [List.getElem?_append_left h2] at hj
        exact hD1.1 i j x y hi hj hxy
      · rw [List.getElem?_append_left h1] at hi
        rw [List.getElem?_append_right (by omega)] at hj
        have := hle _ _ hi
        have := hr _ _ hj
        omega
      · rw [List.getElem?_append_right (by omega)] at hi
        rw [List.getElem?_append_left h2] at hj
        have := hle _ _ hj
        have := hr _ _ hi
        omega
      · rw [List.getElem?_append_right (by omega)] at hi hj
        have := hr _ _ hi
        have := hr _ _ hj
        omega
    · by_cases h1 : k9 < W1.length
      · rw [List.getElem?_append_left h1] at hx
        exact hD1.2 k9 x hx
      · rw [List.getElem?_append_right (by omega)] at hx
        have := hr _ _ hx
        exact hA _ (by have := hS.1; omega)
  have hAr : ArrOfT s cA (.array ty) := fun N9 z9 => by
    obtain ⟨-, k9, hk9, cm9, hkk9⟩ := (hO 0 0 0).1
    exact ⟨(fun q hq => by cases hq), k9, hk9, cm9, hkk9⟩
  have hK2 : va_K D cl (tys ++ [(cA, .array ty)]) s := ⟨hK.1, fun k9 x hx => by
    by_cases hl : k9 < tys.length
    · rw [List.getElem?_append_left hl] at hx
      exact hK.2 k9 x hx
    · rw [List.getElem?_append_right (by omega)] at hx
      have h0 : k9 - tys.length < 1 := (List.getElem?_eq_some_iff.mp hx).1
      rw [show k9 - tys.length = 0 by omega] at hx
      cases hx
      exact ⟨hAr, fA⟩⟩
  obtain ⟨t, a1, b1⟩ := kk H.size (fun i => H.size + 1 + i) cA F.heap (fun i j _ _ h => by have h9 : H.size + 1 + i = H.size + 1 + j := h; omega) hnl hK2 (by rw [← vr_rows hnm]; exact vr_lay hP2) (by rw [← vr_rows hnm]; exact vr_layD hD2) ⟨by rw [f1]; have := hS.1; omega, fun x h1 h2 => (hold x (Nat.lt_of_lt_of_le h1 hS.1)).trans (hS.2.1 x h1 h2), hS.2.2⟩ F rfl X'
  refine ⟨t, step t ?_, b1⟩
  have e : T.heap.size = H.size := by rw [hT]
  rw [e]
  exact a1
end VGM
/-! ===== END ===== -/

def RX0 : String := "Turnpike$Flow"
def TX0 : u_T := fun k => match k with
  | 0 => ("Turnpike$Flow", "from", "I", false)
  | 1 => ("Turnpike$Flow", "to", "I", false)
  | 2 => ("Turnpike$Flow", "kind", "I", false)
  | 3 => ("Turnpike$Flow", "start", "I", false)
  | 4 => ("Turnpike$Flow", "period", "I", false)
  | 5 => ("Turnpike$Flow", "most", "I", false)
  | 6 => ("Turnpike$Flow", "came", "I", false)
  | 7 => ("Turnpike$Flow", "arrived", "I", false)
  | 8 => ("Turnpike$Flow", "givenUp", "I", false)
  | 9 => ("Turnpike$Flow", "sumOfTrips", "I", false)
  | 10 => ("Turnpike$Flow", "sumOfDelays", "I", false)
  | _ => ("Turnpike$Flow", "longestTrip", "I", false)
def tyX0 : Nat → FieldType := fun k => match k with
  | 0 => .int
  | 1 => .int
  | 2 => .int
  | 3 => .int
  | 4 => .int
  | 5 => .int
  | 6 => .int
  | 7 => .int
  | 8 => .int
  | 9 => .int
  | 10 => .int
  | _ => .int
abbrev wsX00 : List Cond := u_ws RX0 TX0 12
theorem nmX0 : ∀ a, a < 12 → ∀ b, b < 12 → a ≠ b → (TX0 a).2.1 ≠ (TX0 b).2.1 := by decide +kernel
theorem tyX0_ok : ∀ k, k < 12 → parseFieldDescriptor (TX0 k).2.2.1 = some (tyX0 k) := by decide +kernel
abbrev cX0_init : ByteArray := prog_2_method_1_code
def yX0_init : MethodName := ⟨RX0, "<init>", "()V"⟩
abbrev cX0_tell : ByteArray := prog_2_method_2_code
def yX0_tell : MethodName := ⟨RX0, "tell", "(IIIIII)V"⟩
abbrev cX0_bringsIn : ByteArray := prog_2_method_3_code
def yX0_bringsIn : MethodName := ⟨RX0, "bringsIn", "(I)Z"⟩
abbrev cX0_countTrip : ByteArray := prog_2_method_4_code
def yX0_countTrip : MethodName := ⟨RX0, "countTrip", "(II)V"⟩
def RX1 : String := "Turnpike$Link"
def TX1 : u_T := fun k => match k with
  | 0 => ("Turnpike$Link", "from", "I", false)
  | 1 => ("Turnpike$Link", "to", "I", false)
  | 2 => ("Turnpike$Link", "time", "I", false)
  | 3 => ("Turnpike$Link", "room", "I", false)
  | 4 => ("Turnpike$Link", "firstRate", "I", false)
  | 5 => ("Turnpike$Link", "rate", "I", false)
  | 6 => ("Turnpike$Link", "slowTicks", "I", false)
  | 7 => ("Turnpike$Link", "shut", "Z", false)
  | 8 => ("Turnpike$Link", "cost", "I", false)
  | 9 => ("Turnpike$Link", "row", "LTurnpike$Row;", true)
  | 10 => ("Turnpike$Link", "ends", "LTurnpike$Row;", true)
  | 11 => ("Turnpike$Link", "came", "I", false)
  | 12 => ("Turnpike$Link", "left", "I", false)
  | 13 => ("Turnpike$Link", "greatestQueue", "I", false)
  | 14 => ("Turnpike$Link", "sumOfQueues", "I", false)
  | _ => ("Turnpike$Link", "wentOnto", "[I", true)
def tyX1 : Nat → FieldType := fun k => match k with
  | 0 => .int
  | 1 => .int
  | 2 => .int
  | 3 => .int
  | 4 => .int
  | 5 => .int
  | 6 => .int
  | 7 => .boolean
  | 8 => .int
  | 9 => .object "Turnpike$Row"
  | 10 => .object "Turnpike$Row"
  | 11 => .int
  | 12 => .int
  | 13 => .int
  | 14 => .int
  | _ => .array .int
abbrev wsX10 : List Cond := u_ws RX1 TX1 16
theorem nmX1 : ∀ a, a < 16 → ∀ b, b < 16 → a ≠ b → (TX1 a).2.1 ≠ (TX1 b).2.1 := by decide +kernel
theorem tyX1_ok : ∀ k, k < 16 → parseFieldDescriptor (TX1 k).2.2.1 = some (tyX1 k) := by decide +kernel
abbrev cX1_init : ByteArray := prog_3_method_1_code
def yX1_init : MethodName := ⟨RX1, "<init>", "()V"⟩
abbrev cX1_playSlowTick : ByteArray := prog_3_method_2_code
def yX1_playSlowTick : MethodName := ⟨RX1, "playSlowTick", "()V"⟩
abbrev cX1_hasQueueIn : ByteArray := prog_3_method_3_code
def yX1_hasQueueIn : MethodName := ⟨RX1, "hasQueueIn", "(I)Z"⟩
abbrev cX1_queueIn : ByteArray := prog_3_method_4_code
def yX1_queueIn : MethodName := ⟨RX1, "queueIn", "(I)I"⟩
abbrev cX1_costIn : ByteArray := prog_3_method_5_code
def yX1_costIn : MethodName := ⟨RX1, "costIn", "(I)I"⟩
abbrev cX1_isOpen : ByteArray := prog_3_method_6_code
def yX1_isOpen : MethodName := ⟨RX1, "isOpen", "()Z"⟩
abbrev cX1_takeIn : ByteArray := prog_3_method_7_code
def yX1_takeIn : MethodName := ⟨RX1, "takeIn", "(II)V"⟩
abbrev cX1_letFirstGo : ByteArray := prog_3_method_8_code
def yX1_letFirstGo : MethodName := ⟨RX1, "letFirstGo", "()V"⟩
abbrev cX1_countTurn : ByteArray := prog_3_method_9_code
def yX1_countTurn : MethodName := ⟨RX1, "countTurn", "(I)V"⟩
abbrev cX1_countQueueIn : ByteArray := prog_3_method_10_code
def yX1_countQueueIn : MethodName := ⟨RX1, "countQueueIn", "(I)V"⟩
abbrev cX1_copyFrom : ByteArray := prog_3_method_11_code
def yX1_copyFrom : MethodName := ⟨RX1, "copyFrom", "(LTurnpike$Link;)V"⟩
def RX2 : String := "Turnpike$Roads"
def TX2 : u_T := fun k => match k with
  | 0 => ("Turnpike$Roads", "link", "[LTurnpike$Link;", true)
  | 1 => ("Turnpike$Roads", "links", "I", false)
  | 2 => ("Turnpike$Roads", "costs", "[[I", true)
  | _ => ("Turnpike$Roads", "reckoned", "I", false)
def tyX2 : Nat → FieldType := fun k => match k with
  | 0 => .array (.object "Turnpike$Link")
  | 1 => .int
  | 2 => .array (.array .int)
  | _ => .int
abbrev wsX20 : List Cond := u_ws RX2 TX2 4
theorem nmX2 : ∀ a, a < 4 → ∀ b, b < 4 → a ≠ b → (TX2 a).2.1 ≠ (TX2 b).2.1 := by decide +kernel
theorem tyX2_ok : ∀ k, k < 4 → parseFieldDescriptor (TX2 k).2.2.1 = some (tyX2 k) := by decide +kernel
abbrev cX2_init : ByteArray := prog_4_method_1_code
def yX2_init : MethodName := ⟨RX2, "<init>", "()V"⟩
abbrev cX2_find : ByteArray := prog_4_method_2_code
def yX2_find : MethodName := ⟨RX2, "find", "(I)LTurnpike$Link;"⟩
abbrev cX2_lay : ByteArray := prog_4_method_3_code
def yX2_lay : MethodName := ⟨RX2, "lay", "(IIIII)I"⟩
abbrev cX2_allLeadTo : ByteArray := prog_4_method_4_code
def yX2_allLeadTo : MethodName := ⟨RX2, "allLeadTo", "(II)Z"⟩
abbrev cX2_anyHasQueueIn : ByteArray := prog_4_method_5_code
def yX2_anyHasQueueIn : MethodName := ⟨RX2, "anyHasQueueIn", "(II)Z"⟩
abbrev cX2_playSlowTick : ByteArray := prog_4_method_6_code
def yX2_playSlowTick : MethodName := ⟨RX2, "playSlowTick", "()V"⟩
abbrev cX2_reckonCostsIn : ByteArray := prog_4_method_7_code
def yX2_reckonCostsIn : MethodName := ⟨RX2, "reckonCostsIn", "(I)V"⟩
abbrev cX2_countQueuesIn : ByteArray := prog_4_method_8_code
def yX2_countQueuesIn : MethodName := ⟨RX2, "countQueuesIn", "(I)V"⟩
abbrev cX2_forgetWays : ByteArray := prog_4_method_9_code
def yX2_forgetWays : MethodName := ⟨RX2, "forgetWays", "()V"⟩
abbrev cX2_costsTo : ByteArray := prog_4_method_10_code
def yX2_costsTo : MethodName := ⟨RX2, "costsTo", "(I)[I"⟩
abbrev cX2_firstOfWay : ByteArray := prog_4_method_12_code
def yX2_firstOfWay : MethodName := ⟨RX2, "firstOfWay", "(II)I"⟩
abbrev cX2_planWay : ByteArray := prog_4_method_13_code
def yX2_planWay : MethodName := ⟨RX2, "planWay", "(LTurnpike$Vehicle;I)Z"⟩
abbrev cX2_copyFrom : ByteArray := prog_4_method_14_code
def yX2_copyFrom : MethodName := ⟨RX2, "copyFrom", "(LTurnpike$Roads;)V"⟩
def RX3 : String := "Turnpike$Row"
def TX3 : u_T := fun k => match k with
  | 0 => ("Turnpike$Row", "number", "[I", true)
  | _ => ("Turnpike$Row", "size", "I", false)
def tyX3 : Nat → FieldType := fun k => match k with
  | 0 => .array .int
  | _ => .int
abbrev wsX30 : List Cond := u_ws RX3 TX3 2
theorem nmX3 : ∀ a, a < 2 → ∀ b, b < 2 → a ≠ b → (TX3 a).2.1 ≠ (TX3 b).2.1 := by decide +kernel
theorem tyX3_ok : ∀ k, k < 2 → parseFieldDescriptor (TX3 k).2.2.1 = some (tyX3 k) := by decide +kernel
abbrev cX3_init : ByteArray := prog_5_method_1_code
def yX3_init : MethodName := ⟨RX3, "<init>", "(I)V"⟩
abbrev cX3_get : ByteArray := prog_5_method_2_code
def yX3_get : MethodName := ⟨RX3, "get", "(I)I"⟩
abbrev cX3_append : ByteArray := prog_5_method_3_code
def yX3_append : MethodName := ⟨RX3, "append", "(I)V"⟩
abbrev cX3_dropFirst : ByteArray := prog_5_method_4_code
def yX3_dropFirst : MethodName := ⟨RX3, "dropFirst", "()V"⟩
abbrev cX3_copyFrom : ByteArray := prog_5_method_5_code
def yX3_copyFrom : MethodName := ⟨RX3, "copyFrom", "(LTurnpike$Row;)V"⟩
def RX4 : String := "Turnpike$Signal"
def TX4 : u_T := fun k => match k with
  | 0 => ("Turnpike$Signal", "links", "[I", true)
  | 1 => ("Turnpike$Signal", "least", "[I", true)
  | 2 => ("Turnpike$Signal", "greatest", "[I", true)
  | 3 => ("Turnpike$Signal", "phases", "I", false)
  | 4 => ("Turnpike$Signal", "phase", "I", false)
  | _ => ("Turnpike$Signal", "ticks", "I", false)
def tyX4 : Nat → FieldType := fun k => match k with
  | 0 => .array .int
  | 1 => .array .int
  | 2 => .array .int
  | 3 => .int
  | 4 => .int
  | _ => .int
abbrev wsX40 : List Cond := u_ws RX4 TX4 6
theorem nmX4 : ∀ a, a < 6 → ∀ b, b < 6 → a ≠ b → (TX4 a).2.1 ≠ (TX4 b).2.1 := by decide +kernel
theorem tyX4_ok : ∀ k, k < 6 → parseFieldDescriptor (TX4 k).2.2.1 = some (tyX4 k) := by decide +kernel
abbrev cX4_init : ByteArray := prog_6_method_1_code
def yX4_init : MethodName := ⟨RX4, "<init>", "()V"⟩
abbrev cX4_append : ByteArray := prog_6_method_2_code
def yX4_append : MethodName := ⟨RX4, "append", "(III)I"⟩
abbrev cX4_isOn : ByteArray := prog_6_method_4_code
def yX4_isOn : MethodName := ⟨RX4, "isOn", "()Z"⟩
abbrev cX4_linksOn : ByteArray := prog_6_method_5_code
def yX4_linksOn : MethodName := ⟨RX4, "linksOn", "()I"⟩
abbrev cX4_isGreen : ByteArray := prog_6_method_6_code
def yX4_isGreen : MethodName := ⟨RX4, "isGreen", "(I)Z"⟩
abbrev cX4_playTick : ByteArray := prog_6_method_7_code
def yX4_playTick : MethodName := ⟨RX4, "playTick", "(Z)V"⟩
abbrev cX4_copyFrom : ByteArray := prog_6_method_8_code
def yX4_copyFrom : MethodName := ⟨RX4, "copyFrom", "(LTurnpike$Signal;)V"⟩
def RX5 : String := "Turnpike$Traffic"
def TX5 : u_T := fun k => match k with
  | 0 => ("Turnpike$Traffic", "roads", "LTurnpike$Roads;", true)
  | 1 => ("Turnpike$Traffic", "signal", "[LTurnpike$Signal;", true)
  | 2 => ("Turnpike$Traffic", "row", "[LTurnpike$Row;", true)
  | 3 => ("Turnpike$Traffic", "flow", "[LTurnpike$Flow;", true)
  | 4 => ("Turnpike$Traffic", "vehicle", "[LTurnpike$Vehicle;", true)
  | 5 => ("Turnpike$Traffic", "trails", "LTurnpike$Trails;", true)
  | 6 => ("Turnpike$Traffic", "clock", "I", false)
  | 7 => ("Turnpike$Traffic", "refresh", "I", false)
  | 8 => ("Turnpike$Traffic", "nodes", "I", false)
  | 9 => ("Turnpike$Traffic", "flows", "I", false)
  | 10 => ("Turnpike$Traffic", "vehicles", "I", false)
  | _ => ("Turnpike$Traffic", "underWay", "I", false)
def tyX5 : Nat → FieldType := fun k => match k with
  | 0 => .object "Turnpike$Roads"
  | 1 => .array (.object "Turnpike$Signal")
  | 2 => .array (.object "Turnpike$Row")
  | 3 => .array (.object "Turnpike$Flow")
  | 4 => .array (.object "Turnpike$Vehicle")
  | 5 => .object "Turnpike$Trails"
  | 6 => .int
  | 7 => .int
  | 8 => .int
  | 9 => .int
  | 10 => .int
  | _ => .int
abbrev wsX50 : List Cond := u_ws RX5 TX5 12
theorem nmX5 : ∀ a, a < 12 → ∀ b, b < 12 → a ≠ b → (TX5 a).2.1 ≠ (TX5 b).2.1 := by decide +kernel
theorem tyX5_ok : ∀ k, k < 12 → parseFieldDescriptor (TX5 k).2.2.1 = some (tyX5 k) := by decide +kernel
abbrev cX5_init : ByteArray := prog_7_method_1_code
def yX5_init : MethodName := ⟨RX5, "<init>", "(Z)V"⟩
abbrev cX5_find : ByteArray := prog_7_method_2_code
def yX5_find : MethodName := ⟨RX5, "find", "(I)LTurnpike$Vehicle;"⟩
abbrev cX5_tick : ByteArray := prog_7_method_3_code
def yX5_tick : MethodName := ⟨RX5, "tick", "()V"⟩
abbrev cX5_bringVehicles : ByteArray := prog_7_method_4_code
def yX5_bringVehicles : MethodName := ⟨RX5, "bringVehicles", "()V"⟩
abbrev cX5_bring : ByteArray := prog_7_method_5_code
def yX5_bring : MethodName := ⟨RX5, "bring", "(I)V"⟩
abbrev cX5_playSignals : ByteArray := prog_7_method_6_code
def yX5_playSignals : MethodName := ⟨RX5, "playSignals", "()V"⟩
abbrev cX5_driveOnLinks : ByteArray := prog_7_method_7_code
def yX5_driveOnLinks : MethodName := ⟨RX5, "driveOnLinks", "()V"⟩
abbrev cX5_firstGoesOn : ByteArray := prog_7_method_8_code
def yX5_firstGoesOn : MethodName := ⟨RX5, "firstGoesOn", "(LTurnpike$Link;)Z"⟩
abbrev cX5_driveFromNodes : ByteArray := prog_7_method_9_code
def yX5_driveFromNodes : MethodName := ⟨RX5, "driveFromNodes", "()V"⟩
abbrev cX5_nextOf : ByteArray := prog_7_method_10_code
def yX5_nextOf : MethodName := ⟨RX5, "nextOf", "(LTurnpike$Vehicle;I)I"⟩
abbrev cX5_comesOnto : ByteArray := prog_7_method_11_code
def yX5_comesOnto : MethodName := ⟨RX5, "comesOnto", "(ILTurnpike$Vehicle;I)Z"⟩
abbrev cX5_arrive : ByteArray := prog_7_method_12_code
def yX5_arrive : MethodName := ⟨RX5, "arrive", "(LTurnpike$Vehicle;)V"⟩
abbrev cX5_copyFrom : ByteArray := prog_7_method_13_code
def yX5_copyFrom : MethodName := ⟨RX5, "copyFrom", "(LTurnpike$Traffic;)V"⟩
def RX6 : String := "Turnpike$Trails"
def TX6 : u_T := fun k => match k with
  | _ => ("Turnpike$Trails", "words", "[[J", true)
def tyX6 : Nat → FieldType := fun k => match k with
  | _ => .array (.array .long)
abbrev wsX60 : List Cond := u_ws RX6 TX6 1
theorem nmX6 : ∀ a, a < 1 → ∀ b, b < 1 → a ≠ b → (TX6 a).2.1 ≠ (TX6 b).2.1 := by decide +kernel
theorem tyX6_ok : ∀ k, k < 1 → parseFieldDescriptor (TX6 k).2.2.1 = some (tyX6 k) := by decide +kernel
abbrev cX6_init : ByteArray := prog_8_method_1_code
def yX6_init : MethodName := ⟨RX6, "<init>", "()V"⟩
abbrev cX6_put : ByteArray := prog_8_method_2_code
def yX6_put : MethodName := ⟨RX6, "put", "(III)V"⟩
abbrev cX6_get : ByteArray := prog_8_method_3_code
def yX6_get : MethodName := ⟨RX6, "get", "(II)I"⟩
def RX7 : String := "Turnpike$Vehicle"
def TX7 : u_T := fun k => match k with
  | 0 => ("Turnpike$Vehicle", "flow", "I", false)
  | 1 => ("Turnpike$Vehicle", "to", "I", false)
  | 2 => ("Turnpike$Vehicle", "kind", "I", false)
  | 3 => ("Turnpike$Vehicle", "state", "I", false)
  | 4 => ("Turnpike$Vehicle", "start", "I", false)
  | 5 => ("Turnpike$Vehicle", "link", "I", false)
  | 6 => ("Turnpike$Vehicle", "end", "I", false)
  | 7 => ("Turnpike$Vehicle", "gone", "I", false)
  | 8 => ("Turnpike$Vehicle", "driven", "I", false)
  | 9 => ("Turnpike$Vehicle", "trip", "I", false)
  | 10 => ("Turnpike$Vehicle", "delay", "I", false)
  | 11 => ("Turnpike$Vehicle", "wayLinks", "I", false)
  | _ => ("Turnpike$Vehicle", "way", "[I", true)
def tyX7 : Nat → FieldType := fun k => match k with
  | 0 => .int
  | 1 => .int
  | 2 => .int
  | 3 => .int
  | 4 => .int
  | 5 => .int
  | 6 => .int
  | 7 => .int
  | 8 => .int
  | 9 => .int
  | 10 => .int
  | 11 => .int
  | _ => .array .int
abbrev wsX70 : List Cond := u_ws RX7 TX7 13
theorem nmX7 : ∀ a, a < 13 → ∀ b, b < 13 → a ≠ b → (TX7 a).2.1 ≠ (TX7 b).2.1 := by decide +kernel
theorem tyX7_ok : ∀ k, k < 13 → parseFieldDescriptor (TX7 k).2.2.1 = some (tyX7 k) := by decide +kernel
abbrev cX7_init : ByteArray := prog_9_method_1_code
def yX7_init : MethodName := ⟨RX7, "<init>", "()V"⟩
abbrev cX7_come : ByteArray := prog_9_method_2_code
def yX7_come : MethodName := ⟨RX7, "come", "(IIII)V"⟩
abbrev cX7_planOver : ByteArray := prog_9_method_3_code
def yX7_planOver : MethodName := ⟨RX7, "planOver", "(I)V"⟩
abbrev cX7_nextOfWay : ByteArray := prog_9_method_4_code
def yX7_nextOfWay : MethodName := ⟨RX7, "nextOfWay", "()I"⟩
abbrev cX7_goOnto : ByteArray := prog_9_method_5_code
def yX7_goOnto : MethodName := ⟨RX7, "goOnto", "(III)V"⟩
abbrev cX7_arrive : ByteArray := prog_9_method_6_code
def yX7_arrive : MethodName := ⟨RX7, "arrive", "(I)V"⟩
abbrev cX7_copyFrom : ByteArray := prog_9_method_7_code
def yX7_copyFrom : MethodName := ⟨RX7, "copyFrom", "(LTurnpike$Vehicle;)V"⟩
def RX8 : String := "Turnpike"
def TX8 : u_T := fun k => match k with
  | 0 => ("Turnpike", "now", "LTurnpike$Traffic;", true)
  | _ => ("Turnpike", "trial", "LTurnpike$Traffic;", true)
def tyX8 : Nat → FieldType := fun k => match k with
  | 0 => .object "Turnpike$Traffic"
  | _ => .object "Turnpike$Traffic"
abbrev wsX80 : List Cond := u_ws RX8 TX8 2
theorem nmX8 : ∀ a, a < 2 → ∀ b, b < 2 → a ≠ b → (TX8 a).2.1 ≠ (TX8 b).2.1 := by decide +kernel
theorem tyX8_ok : ∀ k, k < 2 → parseFieldDescriptor (TX8 k).2.2.1 = some (tyX8 k) := by decide +kernel
abbrev cX8_init : ByteArray := prog_1_method_1_code
def yX8_init : MethodName := ⟨RX8, "<init>", "()V"⟩
abbrev cX8_addNode : ByteArray := prog_1_method_2_code
def yX8_addNode : MethodName := ⟨RX8, "addNode", "()I"⟩
abbrev cX8_addLink : ByteArray := prog_1_method_3_code
def yX8_addLink : MethodName := ⟨RX8, "addLink", "(IIIII)I"⟩
abbrev cX8_addPhase : ByteArray := prog_1_method_4_code
def yX8_addPhase : MethodName := ⟨RX8, "addPhase", "(IIII)I"⟩
abbrev cX8_setRefresh : ByteArray := prog_1_method_6_code
def yX8_setRefresh : MethodName := ⟨RX8, "setRefresh", "(I)I"⟩
abbrev cX8_shut : ByteArray := prog_1_method_7_code
def yX8_shut : MethodName := ⟨RX8, "shut", "(IZ)Z"⟩
abbrev cX8_slow : ByteArray := prog_1_method_8_code
def yX8_slow : MethodName := ⟨RX8, "slow", "(III)I"⟩
abbrev cX8_addFlow : ByteArray := prog_1_method_9_code
def yX8_addFlow : MethodName := ⟨RX8, "addFlow", "(IIIIII)I"⟩
abbrev cX8_step : ByteArray := prog_1_method_10_code
def yX8_step : MethodName := ⟨RX8, "step", "(I)I"⟩
abbrev cX8_clock : ByteArray := prog_1_method_11_code
def yX8_clock : MethodName := ⟨RX8, "clock", "()I"⟩
abbrev cX8_nodes : ByteArray := prog_1_method_12_code
def yX8_nodes : MethodName := ⟨RX8, "nodes", "()I"⟩
abbrev cX8_links : ByteArray := prog_1_method_13_code
def yX8_links : MethodName := ⟨RX8, "links", "()I"⟩
abbrev cX8_flows : ByteArray := prog_1_method_14_code
def yX8_flows : MethodName := ⟨RX8, "flows", "()I"⟩
abbrev cX8_isShut : ByteArray := prog_1_method_15_code
def yX8_isShut : MethodName := ⟨RX8, "isShut", "(I)Z"⟩
abbrev cX8_rateOf : ByteArray := prog_1_method_16_code
def yX8_rateOf : MethodName := ⟨RX8, "rateOf", "(I)I"⟩
abbrev cX8_costOf : ByteArray := prog_1_method_17_code
def yX8_costOf : MethodName := ⟨RX8, "costOf", "(I)I"⟩
abbrev cX8_phaseOf : ByteArray := prog_1_method_18_code
def yX8_phaseOf : MethodName := ⟨RX8, "phaseOf", "(I)I"⟩
abbrev cX8_phaseTicks : ByteArray := prog_1_method_19_code
def yX8_phaseTicks : MethodName := ⟨RX8, "phaseTicks", "(I)I"⟩
abbrev cX8_distance : ByteArray := prog_1_method_20_code
def yX8_distance : MethodName := ⟨RX8, "distance", "(II)I"⟩
abbrev cX8_nextLink : ByteArray := prog_1_method_21_code
def yX8_nextLink : MethodName := ⟨RX8, "nextLink", "(II)I"⟩
abbrev cX8_vehicles : ByteArray := prog_1_method_22_code
def yX8_vehicles : MethodName := ⟨RX8, "vehicles", "()I"⟩
abbrev cX8_stateOf : ByteArray := prog_1_method_23_code
def yX8_stateOf : MethodName := ⟨RX8, "stateOf", "(I)I"⟩
abbrev cX8_linkOf : ByteArray := prog_1_method_24_code
def yX8_linkOf : MethodName := ⟨RX8, "linkOf", "(I)I"⟩
abbrev cX8_endOf : ByteArray := prog_1_method_25_code
def yX8_endOf : MethodName := ⟨RX8, "endOf", "(I)I"⟩
abbrev cX8_linksOf : ByteArray := prog_1_method_26_code
def yX8_linksOf : MethodName := ⟨RX8, "linksOf", "(I)I"⟩
abbrev cX8_linkAt : ByteArray := prog_1_method_27_code
def yX8_linkAt : MethodName := ⟨RX8, "linkAt", "(II)I"⟩
abbrev cX8_tripOf : ByteArray := prog_1_method_28_code
def yX8_tripOf : MethodName := ⟨RX8, "tripOf", "(I)I"⟩
abbrev cX8_delayOf : ByteArray := prog_1_method_29_code
def yX8_delayOf : MethodName := ⟨RX8, "delayOf", "(I)I"⟩
abbrev cX8_waiting : ByteArray := prog_1_method_30_code
def yX8_waiting : MethodName := ⟨RX8, "waiting", "(I)I"⟩
abbrev cX8_onLink : ByteArray := prog_1_method_31_code
def yX8_onLink : MethodName := ⟨RX8, "onLink", "(I)I"⟩
abbrev cX8_vehicleAt : ByteArray := prog_1_method_32_code
def yX8_vehicleAt : MethodName := ⟨RX8, "vehicleAt", "(II)I"⟩
abbrev cX8_queue : ByteArray := prog_1_method_33_code
def yX8_queue : MethodName := ⟨RX8, "queue", "(I)I"⟩
abbrev cX8_count : ByteArray := prog_1_method_34_code
def yX8_count : MethodName := ⟨RX8, "count", "(II)I"⟩
abbrev cX8_turned : ByteArray := prog_1_method_35_code
def yX8_turned : MethodName := ⟨RX8, "turned", "(II)I"⟩
abbrev cX8_ofFlow : ByteArray := prog_1_method_36_code
def yX8_ofFlow : MethodName := ⟨RX8, "ofFlow", "(II)I"⟩
abbrev cX8_arrivesIn : ByteArray := prog_1_method_38_code
def yX8_arrivesIn : MethodName := ⟨RX8, "arrivesIn", "(II)I"⟩
abbrev cX8_emptyIn : ByteArray := prog_1_method_39_code
def yX8_emptyIn : MethodName := ⟨RX8, "emptyIn", "(I)I"⟩
abbrev cX8_digest : ByteArray := prog_1_method_41_code
def yX8_digest : MethodName := ⟨RX8, "digest", "()J"⟩
abbrev cX8_digestNodes : ByteArray := prog_1_method_42_code
def yX8_digestNodes : MethodName := ⟨RX8, "digestNodes", "(J)J"⟩
abbrev cX8_digestLinks : ByteArray := prog_1_method_43_code
def yX8_digestLinks : MethodName := ⟨RX8, "digestLinks", "(J)J"⟩
abbrev cX8_digestFlows : ByteArray := prog_1_method_44_code
def yX8_digestFlows : MethodName := ⟨RX8, "digestFlows", "(J)J"⟩
abbrev cX8_digestVehicles : ByteArray := prog_1_method_45_code
def yX8_digestVehicles : MethodName := ⟨RX8, "digestVehicles", "(J)J"⟩
abbrev cX8_isWithin : ByteArray := prog_1_method_46_code
def yX8_isWithin : MethodName := ⟨RX8, "isWithin", "(III)Z"⟩
abbrev cX8_checkArgument : ByteArray := prog_1_method_47_code
def yX8_checkArgument : MethodName := ⟨RX8, "checkArgument", "(Z)V"⟩
abbrev cX8_checkTicks : ByteArray := prog_1_method_48_code
def yX8_checkTicks : MethodName := ⟨RX8, "checkTicks", "(I)V"⟩
abbrev cX8_checkNode : ByteArray := prog_1_method_49_code
def yX8_checkNode : MethodName := ⟨RX8, "checkNode", "(I)V"⟩
abbrev cX8_linkNumbered : ByteArray := prog_1_method_50_code
def yX8_linkNumbered : MethodName := ⟨RX8, "linkNumbered", "(I)LTurnpike$Link;"⟩
abbrev cX8_vehicleNumbered : ByteArray := prog_1_method_51_code
def yX8_vehicleNumbered : MethodName := ⟨RX8, "vehicleNumbered", "(I)LTurnpike$Vehicle;"⟩
def RX9 : String := "TurnpikeLaw$Roads"
def TX9 : u_T := fun k => match k with
  | 0 => ("TurnpikeLaw$Roads", "m", "LTurnpike;", true)
  | 1 => ("TurnpikeLaw$Roads", "s", "[I", true)
  | 2 => ("TurnpikeLaw$Roads", "draws", "I", false)
  | 3 => ("TurnpikeLaw$Roads", "nodes", "I", false)
  | 4 => ("TurnpikeLaw$Roads", "clock", "I", false)
  | 5 => ("TurnpikeLaw$Roads", "refresh", "I", false)
  | 6 => ("TurnpikeLaw$Roads", "links", "I", false)
  | 7 => ("TurnpikeLaw$Roads", "link", "[[I", true)
  | 8 => ("TurnpikeLaw$Roads", "rate", "[I", true)
  | 9 => ("TurnpikeLaw$Roads", "slowed", "[I", true)
  | 10 => ("TurnpikeLaw$Roads", "cost", "[I", true)
  | 11 => ("TurnpikeLaw$Roads", "isShut", "[Z", true)
  | 12 => ("TurnpikeLaw$Roads", "on", "[[I", true)
  | 13 => ("TurnpikeLaw$Roads", "waiting", "[[I", true)
  | 14 => ("TurnpikeLaw$Roads", "count", "[[I", true)
  | 15 => ("TurnpikeLaw$Roads", "turned", "[[I", true)
  | 16 => ("TurnpikeLaw$Roads", "flows", "I", false)
  | 17 => ("TurnpikeLaw$Roads", "flow", "[[I", true)
  | 18 => ("TurnpikeLaw$Roads", "vehicles", "I", false)
  | 19 => ("TurnpikeLaw$Roads", "vehicle", "[[I", true)
  | 20 => ("TurnpikeLaw$Roads", "gone", "[[I", true)
  | 21 => ("TurnpikeLaw$Roads", "way", "[[I", true)
  | 22 => ("TurnpikeLaw$Roads", "phase", "[[[I", true)
  | 23 => ("TurnpikeLaw$Roads", "isOn", "[I", true)
  | _ => ("TurnpikeLaw$Roads", "ticks", "[I", true)
def tyX9 : Nat → FieldType := fun k => match k with
  | 0 => .object "Turnpike"
  | 1 => .array .int
  | 2 => .int
  | 3 => .int
  | 4 => .int
  | 5 => .int
  | 6 => .int
  | 7 => .array (.array .int)
  | 8 => .array .int
  | 9 => .array .int
  | 10 => .array .int
  | 11 => .array .boolean
  | 12 => .array (.array .int)
  | 13 => .array (.array .int)
  | 14 => .array (.array .int)
  | 15 => .array (.array .int)
  | 16 => .int
  | 17 => .array (.array .int)
  | 18 => .int
  | 19 => .array (.array .int)
  | 20 => .array (.array .int)
  | 21 => .array (.array .int)
  | 22 => .array (.array (.array .int))
  | 23 => .array .int
  | _ => .array .int
abbrev wsX90 : List Cond := u_ws RX9 TX9 25
theorem nmX9 : ∀ a, a < 25 → ∀ b, b < 25 → a ≠ b → (TX9 a).2.1 ≠ (TX9 b).2.1 := by decide +kernel
theorem tyX9_ok : ∀ k, k < 25 → parseFieldDescriptor (TX9 k).2.2.1 = some (tyX9 k) := by decide +kernel
abbrev cX9_init : ByteArray := prog_11_method_1_code
def yX9_init : MethodName := ⟨RX9, "<init>", "([II)V"⟩
abbrev cX9_draw : ByteArray := prog_11_method_2_code
def yX9_draw : MethodName := ⟨RX9, "draw", "(I)I"⟩
abbrev cX9_addLink : ByteArray := prog_11_method_5_code
def yX9_addLink : MethodName := ⟨RX9, "addLink", "(II)Z"⟩
abbrev cX9_make : ByteArray := prog_11_method_6_code
def yX9_make : MethodName := ⟨RX9, "make", "()Z"⟩
abbrev cX9_addFlow : ByteArray := prog_11_method_7_code
def yX9_addFlow : MethodName := ⟨RX9, "addFlow", "(I)Z"⟩
abbrev cX9_addPhase : ByteArray := prog_11_method_8_code
def yX9_addPhase : MethodName := ⟨RX9, "addPhase", "(I)Z"⟩
def RX10 : String := "TurnpikeModel$World"
def TX10 : u_T := fun k => match k with
  | _ => ("", "", "", false)
def tyX10 : Nat → FieldType := fun k => match k with
  | _ => .int
abbrev wsX100 : List Cond := u_ws RX10 TX10 0
theorem nmX10 : ∀ a, a < 0 → ∀ b, b < 0 → a ≠ b → (TX10 a).2.1 ≠ (TX10 b).2.1 := by decide +kernel
theorem tyX10_ok : ∀ k, k < 0 → parseFieldDescriptor (TX10 k).2.2.1 = some (tyX10 k) := by decide +kernel
def RX11 : String := "TurnpikeModel"
def TX11 : u_T := fun k => match k with
  | _ => ("", "", "", false)
def tyX11 : Nat → FieldType := fun k => match k with
  | _ => .int
abbrev wsX110 : List Cond := u_ws RX11 TX11 0
theorem nmX11 : ∀ a, a < 0 → ∀ b, b < 0 → a ≠ b → (TX11 a).2.1 ≠ (TX11 b).2.1 := by decide +kernel
theorem tyX11_ok : ∀ k, k < 0 → parseFieldDescriptor (TX11 k).2.2.1 = some (tyX11 k) := by decide +kernel
def RJx145de : String := "java/io/Serializable"
def TJx145de : u_T := fun k => match k with
  | _ => ("", "", "", false)
def tyJx145de : Nat → FieldType := fun k => match k with
  | _ => .int
abbrev wsJx145de0 : List Cond := u_ws RJx145de TJx145de 0
theorem nmJx145de : ∀ a, a < 0 → ∀ b, b < 0 → a ≠ b → (TJx145de a).2.1 ≠ (TJx145de b).2.1 := by decide +kernel
theorem tyJx145de_ok : ∀ k, k < 0 → parseFieldDescriptor (TJx145de k).2.2.1 = some (tyJx145de k) := by decide +kernel
def RJx8e188 : String := "java/lang/Cloneable"
def TJx8e188 : u_T := fun k => match k with
  | _ => ("", "", "", false)
def tyJx8e188 : Nat → FieldType := fun k => match k with
  | _ => .int
abbrev wsJx8e1880 : List Cond := u_ws RJx8e188 TJx8e188 0
theorem nmJx8e188 : ∀ a, a < 0 → ∀ b, b < 0 → a ≠ b → (TJx8e188 a).2.1 ≠ (TJx8e188 b).2.1 := by decide +kernel
theorem tyJx8e188_ok : ∀ k, k < 0 → parseFieldDescriptor (TJx8e188 k).2.2.1 = some (tyJx8e188 k) := by decide +kernel
def RJ9 : String := "java/lang/Math"
def TJ9 : u_T := fun k => match k with
  | _ => ("", "", "", false)
def tyJ9 : Nat → FieldType := fun k => match k with
  | _ => .int
abbrev wsJ90 : List Cond := u_ws RJ9 TJ9 0
theorem nmJ9 : ∀ a, a < 0 → ∀ b, b < 0 → a ≠ b → (TJ9 a).2.1 ≠ (TJ9 b).2.1 := by decide +kernel
theorem tyJ9_ok : ∀ k, k < 0 → parseFieldDescriptor (TJ9 k).2.2.1 = some (tyJ9 k) := by decide +kernel
abbrev cJ9_floorMod_7cf53 : ByteArray := prog_19_method_50_code
def yJ9_floorMod_7cf53 : MethodName := ⟨RJ9, "floorMod", "(II)I"⟩
abbrev cJ9_max_7cf53 : ByteArray := prog_19_method_65_code
def yJ9_max_7cf53 : MethodName := ⟨RJ9, "max", "(II)I"⟩
abbrev cJ9_min_7cf53 : ByteArray := prog_19_method_69_code
def yJ9_min_7cf53 : MethodName := ⟨RJ9, "min", "(II)I"⟩
def RJ0 : String := "java/lang/String"
def TJ0 : u_T := fun k => match k with
  | _ => ("", "", "", false)
def tyJ0 : Nat → FieldType := fun k => match k with
  | _ => .int
abbrev wsJ00 : List Cond := u_ws RJ0 TJ0 0
theorem nmJ0 : ∀ a, a < 0 → ∀ b, b < 0 → a ≠ b → (TJ0 a).2.1 ≠ (TJ0 b).2.1 := by decide +kernel
theorem tyJ0_ok : ∀ k, k < 0 → parseFieldDescriptor (TJ0 k).2.2.1 = some (tyJ0 k) := by decide +kernel
def RJ10 : String := "java/lang/System"
def TJ10 : u_T := fun k => match k with
  | _ => ("", "", "", false)
def tyJ10 : Nat → FieldType := fun k => match k with
  | _ => .int
abbrev wsJ100 : List Cond := u_ws RJ10 TJ10 0
theorem nmJ10 : ∀ a, a < 0 → ∀ b, b < 0 → a ≠ b → (TJ10 a).2.1 ≠ (TJ10 b).2.1 := by decide +kernel
theorem tyJ10_ok : ∀ k, k < 0 → parseFieldDescriptor (TJ10 k).2.2.1 = some (tyJ10 k) := by decide +kernel
def RJ7 : String := "java/util/Arrays"
def TJ7 : u_T := fun k => match k with
  | _ => ("", "", "", false)
def tyJ7 : Nat → FieldType := fun k => match k with
  | _ => .int
abbrev wsJ70 : List Cond := u_ws RJ7 TJ7 0
theorem nmJ7 : ∀ a, a < 0 → ∀ b, b < 0 → a ≠ b → (TJ7 a).2.1 ≠ (TJ7 b).2.1 := by decide +kernel
theorem tyJ7_ok : ∀ k, k < 0 → parseFieldDescriptor (TJ7 k).2.2.1 = some (tyJ7 k) := by decide +kernel
abbrev cJ7_fill_53178 : ByteArray := prog_24_method_103_code
def yJ7_fill_53178 : MethodName := ⟨RJ7, "fill", "([II)V"⟩
abbrev cJ7_copyOf_c38d5 : ByteArray := prog_24_method_124_code
def yJ7_copyOf_c38d5 : MethodName := ⟨RJ7, "copyOf", "([JI)[J"⟩
def RL : String := "TurnpikeLaw"
abbrev cL_below : ByteArray := method_2_code
def yL_below : MethodName := ⟨RL, "below", "(II)I"⟩
abbrev cL_cell : ByteArray := method_3_code
def yL_cell : MethodName := ⟨RL, "cell", "([II)I"⟩
abbrev cL_law : ByteArray := code
def yL_law : MethodName := ⟨RL, "law", "([I)Z"⟩
abbrev vwCl : List vw_C := [(RX0, TX0, 12), (RX1, TX1, 16), (RX2, TX2, 4), (RX3, TX3, 2), (RX4, TX4, 6), (RX5, TX5, 12), (RX6, TX6, 1), (RX7, TX7, 13), (RX8, TX8, 2), (RX9, TX9, 25)]
