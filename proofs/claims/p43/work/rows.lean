section
-- ===== PART A: goes FIRST, ahead of the names: the tables' words, and 'selects' of the private methods out of them =====
/-- a private method of a class that the tables say can be made, by its rows of tables_1 -/
def lw_okq (q : MethodName × Nat) : Prop := (q.1.cls ≠ "java/lang/invoke/MethodHandle" ∧ q.1.cls ≠ "java/lang/invoke/VarHandle") ∧ Cond.instantiable q.1.cls q.2 ∈ tables_1 ∧ Cond.privateMethod q.1 ∈ tables_1 ∧ Cond.instanceMethod q.1 ∈ tables_1
theorem lw_p0 : lw_okq (⟨"java/lang/Throwable", "fillInStackTrace", "(I)Ljava/lang/Throwable;"⟩, 6) := ⟨⟨by decide +kernel, by decide +kernel⟩, List.mem_of_getElem? (i := 71) (by decide +kernel), List.mem_of_getElem? (i := 69) (by decide +kernel), List.mem_of_getElem? (i := 70) (by decide +kernel)⟩
theorem lw_p1 : lw_okq (⟨"Turnpike", "linkNumbered", "(I)LTurnpike$Link;"⟩, 2) := ⟨⟨by decide +kernel, by decide +kernel⟩, List.mem_of_getElem? (i := 107) (by decide +kernel), List.mem_of_getElem? (i := 105) (by decide +kernel), List.mem_of_getElem? (i := 106) (by decide +kernel)⟩
theorem lw_p2 : lw_okq (⟨"Turnpike$Traffic", "bringVehicles", "()V"⟩, 12) := ⟨⟨by decide +kernel, by decide +kernel⟩, List.mem_of_getElem? (i := 176) (by decide +kernel), List.mem_of_getElem? (i := 174) (by decide +kernel), List.mem_of_getElem? (i := 175) (by decide +kernel)⟩
theorem lw_p3 : lw_okq (⟨"Turnpike$Traffic", "bring", "(I)V"⟩, 12) := ⟨⟨by decide +kernel, by decide +kernel⟩, List.mem_of_getElem? (i := 176) (by decide +kernel), List.mem_of_getElem? (i := 183) (by decide +kernel), List.mem_of_getElem? (i := 184) (by decide +kernel)⟩
theorem lw_p4 : lw_okq (⟨"Turnpike$Traffic", "playSignals", "()V"⟩, 12) := ⟨⟨by decide +kernel, by decide +kernel⟩, List.mem_of_getElem? (i := 176) (by decide +kernel), List.mem_of_getElem? (i := 215) (by decide +kernel), List.mem_of_getElem? (i := 216) (by decide +kernel)⟩
theorem lw_p5 : lw_okq (⟨"Turnpike$Signal", "isOn", "()Z"⟩, 6) := ⟨⟨by decide +kernel, by decide +kernel⟩, List.mem_of_getElem? (i := 225) (by decide +kernel), List.mem_of_getElem? (i := 223) (by decide +kernel), List.mem_of_getElem? (i := 224) (by decide +kernel)⟩
theorem lw_p6 : lw_okq (⟨"Turnpike$Traffic", "driveOnLinks", "()V"⟩, 12) := ⟨⟨by decide +kernel, by decide +kernel⟩, List.mem_of_getElem? (i := 176) (by decide +kernel), List.mem_of_getElem? (i := 240) (by decide +kernel), List.mem_of_getElem? (i := 241) (by decide +kernel)⟩
theorem lw_p7 : lw_okq (⟨"Turnpike$Traffic", "firstGoesOn", "(LTurnpike$Link;)Z"⟩, 12) := ⟨⟨by decide +kernel, by decide +kernel⟩, List.mem_of_getElem? (i := 176) (by decide +kernel), List.mem_of_getElem? (i := 252) (by decide +kernel), List.mem_of_getElem? (i := 253) (by decide +kernel)⟩
theorem lw_p8 : lw_okq (⟨"Turnpike$Traffic", "arrive", "(LTurnpike$Vehicle;)V"⟩, 12) := ⟨⟨by decide +kernel, by decide +kernel⟩, List.mem_of_getElem? (i := 176) (by decide +kernel), List.mem_of_getElem? (i := 262) (by decide +kernel), List.mem_of_getElem? (i := 263) (by decide +kernel)⟩
theorem lw_p9 : lw_okq (⟨"Turnpike$Traffic", "nextOf", "(LTurnpike$Vehicle;I)I"⟩, 12) := ⟨⟨by decide +kernel, by decide +kernel⟩, List.mem_of_getElem? (i := 176) (by decide +kernel), List.mem_of_getElem? (i := 277) (by decide +kernel), List.mem_of_getElem? (i := 278) (by decide +kernel)⟩
theorem lw_p10 : lw_okq (⟨"Turnpike$Traffic", "comesOnto", "(ILTurnpike$Vehicle;I)Z"⟩, 12) := ⟨⟨by decide +kernel, by decide +kernel⟩, List.mem_of_getElem? (i := 176) (by decide +kernel), List.mem_of_getElem? (i := 286) (by decide +kernel), List.mem_of_getElem? (i := 287) (by decide +kernel)⟩
theorem lw_p11 : lw_okq (⟨"Turnpike$Traffic", "driveFromNodes", "()V"⟩, 12) := ⟨⟨by decide +kernel, by decide +kernel⟩, List.mem_of_getElem? (i := 176) (by decide +kernel), List.mem_of_getElem? (i := 339) (by decide +kernel), List.mem_of_getElem? (i := 340) (by decide +kernel)⟩
theorem lw_p12 : lw_okq (⟨"Turnpike", "vehicleNumbered", "(I)LTurnpike$Vehicle;"⟩, 2) := ⟨⟨by decide +kernel, by decide +kernel⟩, List.mem_of_getElem? (i := 107) (by decide +kernel), List.mem_of_getElem? (i := 370) (by decide +kernel), List.mem_of_getElem? (i := 371) (by decide +kernel)⟩
theorem lw_p13 : lw_okq (⟨"Turnpike", "checkNode", "(I)V"⟩, 2) := ⟨⟨by decide +kernel, by decide +kernel⟩, List.mem_of_getElem? (i := 107) (by decide +kernel), List.mem_of_getElem? (i := 409) (by decide +kernel), List.mem_of_getElem? (i := 410) (by decide +kernel)⟩
theorem lw_p14 : lw_okq (⟨"Turnpike", "digestNodes", "(J)J"⟩, 2) := ⟨⟨by decide +kernel, by decide +kernel⟩, List.mem_of_getElem? (i := 107) (by decide +kernel), List.mem_of_getElem? (i := 500) (by decide +kernel), List.mem_of_getElem? (i := 501) (by decide +kernel)⟩
theorem lw_p15 : lw_okq (⟨"Turnpike", "digestLinks", "(J)J"⟩, 2) := ⟨⟨by decide +kernel, by decide +kernel⟩, List.mem_of_getElem? (i := 107) (by decide +kernel), List.mem_of_getElem? (i := 523) (by decide +kernel), List.mem_of_getElem? (i := 524) (by decide +kernel)⟩
def lw_privs_1 : List (MethodName × Nat) := [(⟨"java/lang/Throwable", "fillInStackTrace", "(I)Ljava/lang/Throwable;"⟩, 6), (⟨"Turnpike", "linkNumbered", "(I)LTurnpike$Link;"⟩, 2), (⟨"Turnpike$Traffic", "bringVehicles", "()V"⟩, 12), (⟨"Turnpike$Traffic", "bring", "(I)V"⟩, 12), (⟨"Turnpike$Traffic", "playSignals", "()V"⟩, 12), (⟨"Turnpike$Signal", "isOn", "()Z"⟩, 6), (⟨"Turnpike$Traffic", "driveOnLinks", "()V"⟩, 12), (⟨"Turnpike$Traffic", "firstGoesOn", "(LTurnpike$Link;)Z"⟩, 12), (⟨"Turnpike$Traffic", "arrive", "(LTurnpike$Vehicle;)V"⟩, 12), (⟨"Turnpike$Traffic", "nextOf", "(LTurnpike$Vehicle;I)I"⟩, 12), (⟨"Turnpike$Traffic", "comesOnto", "(ILTurnpike$Vehicle;I)Z"⟩, 12), (⟨"Turnpike$Traffic", "driveFromNodes", "()V"⟩, 12), (⟨"Turnpike", "vehicleNumbered", "(I)LTurnpike$Vehicle;"⟩, 2), (⟨"Turnpike", "checkNode", "(I)V"⟩, 2), (⟨"Turnpike", "digestNodes", "(J)J"⟩, 2), (⟨"Turnpike", "digestLinks", "(J)J"⟩, 2)]
theorem lw_r1 : ∀ q ∈ lw_privs_1, lw_okq q := List.forall_mem_cons.mpr ⟨lw_p0, List.forall_mem_cons.mpr ⟨lw_p1, List.forall_mem_cons.mpr ⟨lw_p2, List.forall_mem_cons.mpr ⟨lw_p3, List.forall_mem_cons.mpr ⟨lw_p4, List.forall_mem_cons.mpr ⟨lw_p5, List.forall_mem_cons.mpr ⟨lw_p6, List.forall_mem_cons.mpr ⟨lw_p7, List.forall_mem_cons.mpr ⟨lw_p8, List.forall_mem_cons.mpr ⟨lw_p9, List.forall_mem_cons.mpr ⟨lw_p10, List.forall_mem_cons.mpr ⟨lw_p11, List.forall_mem_cons.mpr ⟨lw_p12, List.forall_mem_cons.mpr ⟨lw_p13, List.forall_mem_cons.mpr ⟨lw_p14, List.forall_mem_cons.mpr ⟨lw_p15, fun _ h => absurd h List.not_mem_nil⟩⟩⟩⟩⟩⟩⟩⟩⟩⟩⟩⟩⟩⟩⟩⟩
theorem lw_p16 : lw_okq (⟨"Turnpike", "digestFlows", "(J)J"⟩, 2) := ⟨⟨by decide +kernel, by decide +kernel⟩, List.mem_of_getElem? (i := 107) (by decide +kernel), List.mem_of_getElem? (i := 544) (by decide +kernel), List.mem_of_getElem? (i := 545) (by decide +kernel)⟩
theorem lw_p17 : lw_okq (⟨"Turnpike", "digestVehicles", "(J)J"⟩, 2) := ⟨⟨by decide +kernel, by decide +kernel⟩, List.mem_of_getElem? (i := 107) (by decide +kernel), List.mem_of_getElem? (i := 549) (by decide +kernel), List.mem_of_getElem? (i := 550) (by decide +kernel)⟩
def lw_privs_2 : List (MethodName × Nat) := [(⟨"Turnpike", "digestFlows", "(J)J"⟩, 2), (⟨"Turnpike", "digestVehicles", "(J)J"⟩, 2)]
theorem lw_r2 : ∀ q ∈ lw_privs_2, lw_okq q := List.forall_mem_cons.mpr ⟨lw_p16, List.forall_mem_cons.mpr ⟨lw_p17, fun _ h => absurd h List.not_mem_nil⟩⟩
def lw_privs : List (MethodName × Nat) := lw_privs_1 ++ (lw_privs_2)
def lw_tbl : List Cond := k2_sels lw_privs ++ tables_1
theorem lw_privs_ok : ∀ q ∈ lw_privs, lw_okq q := by
  show ∀ q ∈ lw_privs_1 ++ (lw_privs_2), lw_okq q
  exact List.forall_mem_append.mpr ⟨lw_r1, lw_r2⟩
/-- a class of arrays over an array type (the printed block va_mna names these words) -/
def va_AOA (ty : FieldType) (U : State) : Prop := (Cond.arrayOver (.array ty)).before #[] U = true
theorem va_AOA.of {ty : FieldType} {A : Array Value} {U : State} (h : (Cond.arrayOver (.array ty)).before A U = true) : va_AOA ty U := h
theorem va_AOA.use {ty : FieldType} {A : Array Value} {U : State} (h : va_AOA ty U) : (Cond.arrayOver (.array ty)).before A U = true := h
theorem va_AOA.moved {ty : FieldType} {u U : State} (hvm : u.vm.Alike U.vm) (h : va_AOA ty u) : va_AOA ty U := Jvm.Stand.arrayOver_alikeB hvm h
/-! ===== BEGIN words of one list among another's, by their places ===== -/
theorem goodIn_r {big : List Cond} (ws : List Cond) (ps : List Nat) (hp : ws = ps.filterMap (fun i => big[i]?)) (h : ws.all goodWord = true) : GoodIn big ws := by
  intro w hw
  have h1 := List.all_eq_true.mp h w hw
  rw [hp] at hw
  obtain ⟨i, -, hi⟩ := List.mem_filterMap.mp hw
  have hm : w ∈ big := by first | exact List.mem_of_getElem? hi | exact List.getElem?_mem hi
  exact ⟨hm, good_of_word h1⟩
theorem goodIn_app {big a b : List Cond} (ha : GoodIn big a) (hb : GoodIn big b) : GoodIn big (a ++ b) := fun w h => (List.mem_append.mp h).elim (ha w) (hb w)
theorem goodIn_ca {big a b : List Cond} {c : Cond} (ha : GoodIn big (c :: a)) (hb : GoodIn big b) : GoodIn big (c :: (a ++ b)) := fun w h => (List.mem_cons.mp h).elim (fun e => ha w (List.mem_cons.mpr (Or.inl e))) (fun h => (List.mem_append.mp h).elim (fun h => ha w (List.mem_cons.mpr (Or.inr h))) (hb w))
theorem goodIn_sub {big ws : List Cond} (hm : ∀ w ∈ ws, w ∈ big) (h : ws.all goodWord = true) : GoodIn big ws := fun w hw => ⟨hm w hw, good_of_word (List.all_eq_true.mp h w hw)⟩
/-! ===== END ===== -/

/-! ===== BEGIN new T[n][m]: the outer array a place, the inner ones among the pooled ===== -/
/-- f, but v at every address of l -/
def vr_up {α : Type} (f : Nat → α) (l : List Nat) (v : α) : Nat → α := fun a => if a ∈ l then v else f a
theorem vr_up_in {α : Type} {f : Nat → α} {l : List Nat} {v : α} {a : Nat} (h : a ∈ l) : vr_up f l v a = v := if_pos h
theorem vr_up_ne {α : Type} {f : Nat → α} {l : List Nat} {v : α} {a : Nat} (h : a ∉ l) : vr_up f l v a = f a := if_neg h
theorem vr_rows {L l : List Nat} {f : Nat → va_E} {e : va_E} (h : ∀ a, a ∈ l → a ∉ L) : va_pl L f ++ l.map (fun a => (a, e)) = va_pl (L ++ l) (vr_up f l e) := by
  unfold va_pl
  rw [List.map_append]
  congr 1
  · apply List.map_congr_left
    intro a ha
    rw [vr_up_ne (fun q => h a q ha)]
  · apply List.map_congr_left
    intro a ha
    rw [vr_up_in ha]
theorem vr_lay {X rows : va_W} {x : Nat × va_E} {pl : va_W} {D : va_G} {cl : List vw_C} {H : Heap} (hP : va_P D cl (((X ++ pl) ++ [x]) ++ rows) H) : va_P D cl ((X ++ [x]) ++ (pl ++ rows)) H := by
  rw [List.append_assoc (X ++ pl)] at hP
  have h := va_P.swap hP
  rw [← List.append_assoc X] at h
  have h2 := va_P.swap h
  rw [List.append_assoc (X ++ [x])] at h2
  exact h2
theorem vr_layD {X rows : va_W} {x : Nat × va_E} {pl : va_W} {A : Nat → Prop} (hD : va_D A (((X ++ pl) ++ [x]) ++ rows)) : va_D A ((X ++ [x]) ++ (pl ++ rows)) := by
  rw [List.append_assoc (X ++ pl)] at hD
  have h := va_D.swap hD
  rw [← List.append_assoc X] at h
  have h2 := va_D.swap h
  rw [List.append_assoc (X ++ [x])] at h2
  exact h2
theorem vr_outer (c : ClassId) (N h0 : Nat) : ∀ i : Nat, Jvm.Free.Multi.outerC c N h0 i = arrV c N (fun j => va_rf (if j < i then some (h0 + 1 + j) else none))
  | 0 => by
    show ({ cls := c, slots := Array.replicate N .null, vm := .none } : Cell) = _
    rw [arrV_new]
    refine congrArg (arrV c N) (funext fun j => ?_)
    simp [va_rf]
  | i + 1 => by
    show (Jvm.Free.Multi.outerC c N h0 i).setSlot i (.ref (h0 + 1 + i)) = _
    rw [vr_outer c N h0 i, arrV_store]
    refine congrArg (arrV c N) (funext fun j => ?_)
    by_cases e : j = i
    · subst e
      simp [updV, va_rf]
    · by_cases h : j < i
      · simp [updV, e, h, Nat.lt_succ_of_lt h]
      · simp [updV, e, h, show ¬ j < i + 1 by omega]
section VGM
variable {p : Program} {l : Launch} {e : Env} {R : Room} {s : State} {m : MethodId} {args : Array Value} {below : List Frame} {meth : Method} {c : Code} {H : Heap} {locs : List Loc} {cells slots : Nat} {Q : State → Prop}
variable {cc : ByteArray} {pc : Nat} {ls : Array Slot} {rest : List Value} {D : va_G} {cl : List vw_C} {A : Nat → Prop} {a : Nat} {tys : List (ClassId × FieldType)} {ws : va_W} {H0 : Heap}
theorem va_mna {X : va_W} {L : List Nat} {f : Nat → va_E} {cc : ByteArray} (hexec : p.tables.exec = Jvm.exec) (hb : c.code = cc) {own : String} {index : Nat} {ty : FieldType} {cy : ClassId} (hown : s.vm.findClass own = some m.cls) (hclink : (Cond.classLink own index ("[" ++ (FieldType.array ty).toString)).before args s = true) (hover : va_AOA ty s) (harr : (Cond.arrayClass ty).before args s = true) (hcy : s.vm.findClass (FieldType.array ty).toString = some cy)
    (hK : va_K D cl tys s) (hP : va_P D cl (X ++ va_pl L f) H) (hD : va_D A (X ++ va_pl L f)) (hS : va_S A H0 H locs) (hA : ∀ q, H0.size ≤ q → A q) {n k : Int32} {N' K' : Nat} {z : vp_A} (hn : ¬ n < 0) (hk : ¬ k < 0) (hN : n.toNatClampNeg = N') (hM : k.toNatClampNeg = K')
    (hb1 : N' * 4 ≤ 536870912) (hb2 : K' * componentBytes ty ≤ 536870912) (hb3 : K' ≤ 536870912) (hdf : fits ty (defaultValue ty) = true) (hdd : (defaultValue ty).isDefault = true) (hcells : cells + (1 + N') ≤ R.cells) (hslots : slots + (N' + N' * K') ≤ R.slots) (hz : ∀ c : ClassId, Jvm.Free.Multi.innerC c K' (defaultValue ty) = vp_cell c z) (hdg : decode cc pc = .ok (.multianewarray index 2, 4))
    (kk : ∀ (q : Nat) (r : Nat → Nat) (cA : ClassId) (H1 : Heap), (∀ i j : Nat, i < N' → j < N' → r i = r j → i = j) → (∀ i : Nat, i < N' → r i ∉ L) → va_K D cl (tys ++ [(cA, .array ty)]) s →
      va_P D cl ((X ++ [(q, .inl (cA, N', .inr (.inr (.inr (.inr (fun i => if i < N' then some (r i) else none))))))]) ++ va_pl (L ++ (List.range N').map r) (vr_up f ((List.range N').map r) (.inl (cy, z)))) H1 → va_D A ((X ++ [(q, .inl (cA, N', .inr (.inr (.inr (.inr (fun i => if i < N' then some (r i) else none))))))]) ++ va_pl (L ++ (List.range N').map r) (vr_up f ((List.range N').map r) (.inl (cy, z)))) → va_S A H0 H1 locs →
      W p l e R s m args below meth c H1 locs (cells + 1 + N') (slots + N' + N' * K') Q (F0 m (pc + 4) ls (.ref q :: rest))) : W p l e R s m args below meth c H locs cells slots Q (F0 m pc ls (.int k :: .int n :: rest)) := by
  subst hN
  subst hM
  intro T hT Xs
  obtain ⟨vm₁, cA, comp, -, fA, fC, hO, -, X', step⟩ := Xs.multianewarray2F hexec hown hclink (va_AOA.use hover) harr (g := F0 m pc ls (.int k :: .int n :: rest)) rfl (by rw [hb]; exact hdg) rfl hn hk hb1 hb2 hb3 hdf hdd hcells hslots
  have ec : some cy = some comp := hcy.symm.trans fC
  cases ec
  generalize hF : Jvm.Free.Multi.fill (T.setVm vm₁) cA cy n.toNatClampNeg k.toNatClampNeg (defaultValue ty) n.toNatClampNeg = F at X' step
  have hTh : (T.setVm vm₁).heap = H := hT
  obtain ⟨f1, f2, -, -⟩ := Jvm.Free.Multi.fill_facts (T.setVm vm₁) cA cy n.toNatClampNeg k.toNatClampNeg (defaultValue ty) n.toNatClampNeg
  rw [hF, hTh] at f1 f2
  have hold : ∀ x : Nat, x < H.size → F.heap[x]? = H[x]? := fun x hx => by
    have := Jvm.Free.Multi.fill_old (T.setVm vm₁) cA cy n.toNatClampNeg k.toNatClampNeg (defaultValue ty) (a := x) (by rw [hTh]; exact hx) n.toNatClampNeg
    rw [hF, hTh] at this
    exact this
  have hrow : ∀ j : Nat, j < n.toNatClampNeg → F.heap[H.size + 1 + j]? = some (vp_cell cy z) := fun j hj => by
    have := Jvm.Free.Multi.fill_inner (T.setVm vm₁) cA cy n.toNatClampNeg k.toNatClampNeg (defaultValue ty) n.toNatClampNeg j hj
    rw [hF, hTh, hz] at this
    exact this
  have hout : Jvm.Free.Multi.outerC cA n.toNatClampNeg H.size n.toNatClampNeg = vp_cell cA (n.toNatClampNeg, .inr (.inr (.inr (.inr (fun i => if i < n.toNatClampNeg then some (H.size + 1 + i) else none))))) := by
    rw [vp_cell_q]
    exact vr_outer cA n.toNatClampNeg H.size n.toNatClampNeg
  rw [hout] at f2
  have hlt : ∀ a, a ∈ L → a < H.size := fun a ha => by
    obtain ⟨k9, hk9⟩ := va_pl_get (X := X) (f := f) ha
    exact (hP k9 _ hk9).lt
  have hnl : ∀ i : Nat, i < n.toNatClampNeg → H.size + 1 + i ∉ L := fun i _ h => by
    have := hlt _ h
    omega
  have hnm : ∀ a, a ∈ (List.range n.toNatClampNeg).map (fun i => H.size + 1 + i) → a ∉ L := fun a ha h => by
    obtain ⟨i, -, rfl⟩ := List.mem_map.mp ha
    have := hlt _ h
    omega
  have hP0 : va_P D cl (X ++ va_pl L f) F.heap := hP.kept (fun k9 x hx => hold x.1 ((hP k9 x hx).lt))
  have hP1 : va_P D cl ((X ++ va_pl L f) ++ [(H.size, .inl (cA, n.toNatClampNeg, .inr (.inr (.inr (.inr (fun i => if i < n.toNatClampNeg then some (H.size + 1 + i) else none))))))]) F.heap := hP0.app (fun k9 x hx => by
    have h0 : k9 < 1 := (List.getElem?_eq_some_iff.mp hx).1
    rw [show k9 = 0 by omega] at hx
    cases hx
    exact f2)
  have hP2 : va_P D cl (((X ++ va_pl L f) ++ [(H.size, .inl (cA, n.toNatClampNeg, .inr (.inr (.inr (.inr (fun i => if i < n.toNatClampNeg then some (H.size + 1 + i) else none))))))]) ++ ((List.range n.toNatClampNeg).map (fun i => H.size + 1 + i)).map (fun a => (a, .inl (cy, z)))) F.heap := hP1.app (fun k9 x hx => by
    obtain ⟨a, ha, rfl⟩ := List.mem_map.mp (List.mem_of_getElem? hx)
    obtain ⟨i, hi, rfl⟩ := List.mem_map.mp ha
    exact hrow i (List.mem_range.mp hi))
  have hD2 : va_D A (((X ++ va_pl L f) ++ [(H.size, .inl (cA, n.toNatClampNeg, .inr (.inr (.inr (.inr (fun i => if i < n.toNatClampNeg then some (H.size + 1 + i) else none))))))]) ++ ((List.range n.toNatClampNeg).map (fun i => H.size + 1 + i)).map (fun a => (a, .inl (cy, z)))) := by
    have hD1 := hD.push (e := .inl (cA, n.toNatClampNeg, .inr (.inr (.inr (.inr (fun i => if i < n.toNatClampNeg then some (H.size + 1 + i) else none)))))) hP rfl (hA _ hS.1)
    generalize hW1 : (X ++ va_pl L f) ++ [(H.size, .inl (cA, n.toNatClampNeg, .inr (.inr (.inr (.inr (fun i => if i < n.toNatClampNeg then some (H.size + 1 + i) else none))))))] = W1 at hD1 hP1 ⊢
    have hle : ∀ (k9 : Nat) (x : Nat × va_E), W1[k9]? = some x → x.1 ≤ H.size := fun k9 x hx => by
      rw [← hW1] at hx
      by_cases hl : k9 < (X ++ va_pl L f).length
      · rw [List.getElem?_append_left hl] at hx
        exact Nat.le_of_lt ((hP k9 x hx).lt)
      · rw [List.getElem?_append_right (by omega)] at hx
        have h0 : k9 - (X ++ va_pl L f).length < 1 := (List.getElem?_eq_some_iff.mp hx).1
        rw [show k9 - (X ++ va_pl L f).length = 0 by omega] at hx
        cases hx
        exact Nat.le_refl _
    have hr : ∀ (k9 : Nat) (x : Nat × va_E), (((List.range n.toNatClampNeg).map (fun i => H.size + 1 + i)).map (fun a => ((a, .inl (cy, z)) : Nat × va_E)))[k9]? = some x → x.1 = H.size + 1 + k9 := fun k9 x hx => by
      rw [List.getElem?_map, List.getElem?_map] at hx
      by_cases h9 : k9 < n.toNatClampNeg
      · rw [List.getElem?_range h9] at hx
        cases hx
        rfl
      · have hn0 : (List.range n.toNatClampNeg)[k9]? = none := List.getElem?_eq_none (by rw [List.length_range]; omega)
        rw [hn0] at hx
        cases hx
    refine ⟨fun i j x y hi hj hxy => ?_, fun k9 x hx => ?_⟩
    · by_cases h1 : i < W1.length <;> by_cases h2 : j < W1.length
      · rw [List.getElem?_append_left h1] at hi
        rw [List.getElem?_append_left h2] at hj
        exact hD1.1 i j x y hi hj hxy
      · rw [List.getElem?_append_left h1] at hi
        rw [List.getElem?_append_right (by omega)] at hj
        have := hle _ _ hi
        have := hr _ _ hj
        omega
      · rw [List.getElem?_append_right (by omega)] at hi
        rw [List.getElem?_append_left h2] at hj
        have := hle _ _ hj
        have := hr _ _ hi
        omega
      · rw [List.getElem?_append_right (by omega)] at hi hj
        have := hr _ _ hi
        have := hr _ _ hj
        omega
    · by_cases h1 : k9 < W1.length
      · rw [List.getElem?_append_left h1] at hx
        exact hD1.2 k9 x hx
      · rw [List.getElem?_append_right (by omega)] at hx
        have := hr _ _ hx
        exact hA _ (by have := hS.1; omega)
  have hAr : ArrOfT s cA (.array ty) := fun N9 z9 => by
    obtain ⟨-, k9, hk9, cm9, hkk9⟩ := (hO 0 0 0).1
    exact ⟨(fun q hq => by cases hq), k9, hk9, cm9, hkk9⟩
  have hK2 : va_K D cl (tys ++ [(cA, .array ty)]) s := ⟨hK.1, fun k9 x hx => by
    by_cases hl : k9 < tys.length
    · rw [List.getElem?_append_left hl] at hx
      exact hK.2 k9 x hx
    · rw [List.getElem?_append_right (by omega)] at hx
      have h0 : k9 - tys.length < 1 := (List.getElem?_eq_some_iff.mp hx).1
      rw [show k9 - tys.length = 0 by omega] at hx
      cases hx
      exact ⟨hAr, fA⟩⟩
  obtain ⟨t, a1, b1⟩ := kk H.size (fun i => H.size + 1 + i) cA F.heap (fun i j _ _ h => by have h9 : H.size + 1 + i = H.size + 1 + j := h; omega) hnl hK2 (by rw [← vr_rows hnm]; exact vr_lay hP2) (by rw [← vr_rows hnm]; exact vr_layD hD2) ⟨by rw [f1]; have := hS.1; omega, fun x h1 h2 => (hold x (Nat.lt_of_lt_of_le h1 hS.1)).trans (hS.2.1 x h1 h2), hS.2.2⟩ F rfl X'
  refine ⟨t, step t ?_, b1⟩
  have e : T.heap.size = H.size := by rw [hT]
  rw [e]
  exact a1
end VGM
/-! ===== END ===== -/

def RX0 : String := "Turnpike$Flow"
def TX0 : u_T := fun k => match k with
  | 0 => ("Turnpike$Flow", "from", "I", false)
  | 1 => ("Turnpike$Flow", "to", "I", false)
  | 2 => ("Turnpike$Flow", "kind", "I", false)
  | 3 => ("Turnpike$Flow", "start", "I", false)
  | 4 => ("Turnpike$Flow", "period", "I", false)
  | 5 => ("Turnpike$Flow", "most", "I", false)
  | 6 => ("Turnpike$Flow", "came", "I", false)
  | 7 => ("Turnpike$Flow", "arrived", "I", false)
  | 8 => ("Turnpike$Flow", "givenUp", "I", false)
  | 9 => ("Turnpike$Flow", "sumOfTrips", "I", false)
  | 10 => ("Turnpike$Flow", "sumOfDelays", "I", false)
  | _ => ("Turnpike$Flow", "longestTrip", "I", false)
def tyX0 : Nat → FieldType := fun k => match k with
  | 0 => .int
  | 1 => .int
  | 2 => .int
  | 3 => .int
  | 4 => .int
  | 5 => .int
  | 6 => .int
  | 7 => .int
  | 8 => .int
  | 9 => .int
  | 10 => .int
  | _ => .int
abbrev wsX00 : List Cond := u_ws RX0 TX0 12
theorem nmX0 : ∀ a, a < 12 → ∀ b, b < 12 → a ≠ b → (TX0 a).2.1 ≠ (TX0 b).2.1 := by decide +kernel
theorem tyX0_ok : ∀ k, k < 12 → parseFieldDescriptor (TX0 k).2.2.1 = some (tyX0 k) := by decide +kernel
abbrev cX0_init : ByteArray := prog_2_method_1_code
def yX0_init : MethodName := ⟨RX0, "<init>", "()V"⟩
abbrev cX0_tell : ByteArray := prog_2_method_2_code
def yX0_tell : MethodName := ⟨RX0, "tell", "(IIIIII)V"⟩
abbrev cX0_bringsIn : ByteArray := prog_2_method_3_code
def yX0_bringsIn : MethodName := ⟨RX0, "bringsIn", "(I)Z"⟩
abbrev cX0_countTrip : ByteArray := prog_2_method_4_code
def yX0_countTrip : MethodName := ⟨RX0, "countTrip", "(II)V"⟩
def RX1 : String := "Turnpike$Link"
def TX1 : u_T := fun k => match k with
  | 0 => ("Turnpike$Link", "from", "I", false)
  | 1 => ("Turnpike$Link", "to", "I", false)
  | 2 => ("Turnpike$Link", "time", "I", false)
  | 3 => ("Turnpike$Link", "room", "I", false)
  | 4 => ("Turnpike$Link", "firstRate", "I", false)
  | 5 => ("Turnpike$Link", "rate", "I", false)
  | 6 => ("Turnpike$Link", "slowTicks", "I", false)
  | 7 => ("Turnpike$Link", "shut", "Z", false)
  | 8 => ("Turnpike$Link", "cost", "I", false)
  | 9 => ("Turnpike$Link", "row", "LTurnpike$Row;", true)
  | 10 => ("Turnpike$Link", "ends", "LTurnpike$Row;", true)
  | 11 => ("Turnpike$Link", "came", "I", false)
  | 12 => ("Turnpike$Link", "left", "I", false)
  | 13 => ("Turnpike$Link", "greatestQueue", "I", false)
  | 14 => ("Turnpike$Link", "sumOfQueues", "I", false)
  | _ => ("Turnpike$Link", "wentOnto", "[I", true)
def tyX1 : Nat → FieldType := fun k => match k with
  | 0 => .int
  | 1 => .int
  | 2 => .int
  | 3 => .int
  | 4 => .int
  | 5 => .int
  | 6 => .int
  | 7 => .boolean
  | 8 => .int
  | 9 => .object "Turnpike$Row"
  | 10 => .object "Turnpike$Row"
  | 11 => .int
  | 12 => .int
  | 13 => .int
  | 14 => .int
  | _ => .array .int
abbrev wsX10 : List Cond := u_ws RX1 TX1 16
theorem nmX1 : ∀ a, a < 16 → ∀ b, b < 16 → a ≠ b → (TX1 a).2.1 ≠ (TX1 b).2.1 := by decide +kernel
theorem tyX1_ok : ∀ k, k < 16 → parseFieldDescriptor (TX1 k).2.2.1 = some (tyX1 k) := by decide +kernel
abbrev cX1_init : ByteArray := prog_3_method_1_code
def yX1_init : MethodName := ⟨RX1, "<init>", "()V"⟩
abbrev cX1_playSlowTick : ByteArray := prog_3_method_2_code
def yX1_playSlowTick : MethodName := ⟨RX1, "playSlowTick", "()V"⟩
abbrev cX1_hasQueueIn : ByteArray := prog_3_method_3_code
def yX1_hasQueueIn : MethodName := ⟨RX1, "hasQueueIn", "(I)Z"⟩
abbrev cX1_queueIn : ByteArray := prog_3_method_4_code
def yX1_queueIn : MethodName := ⟨RX1, "queueIn", "(I)I"⟩
abbrev cX1_costIn : ByteArray := prog_3_method_5_code
def yX1_costIn : MethodName := ⟨RX1, "costIn", "(I)I"⟩
abbrev cX1_isOpen : ByteArray := prog_3_method_6_code
def yX1_isOpen : MethodName := ⟨RX1, "isOpen", "()Z"⟩
abbrev cX1_takeIn : ByteArray := prog_3_method_7_code
def yX1_takeIn : MethodName := ⟨RX1, "takeIn", "(II)V"⟩
abbrev cX1_letFirstGo : ByteArray := prog_3_method_8_code
def yX1_letFirstGo : MethodName := ⟨RX1, "letFirstGo", "()V"⟩
abbrev cX1_countTurn : ByteArray := prog_3_method_9_code
def yX1_countTurn : MethodName := ⟨RX1, "countTurn", "(I)V"⟩
abbrev cX1_countQueueIn : ByteArray := prog_3_method_10_code
def yX1_countQueueIn : MethodName := ⟨RX1, "countQueueIn", "(I)V"⟩
abbrev cX1_copyFrom : ByteArray := prog_3_method_11_code
def yX1_copyFrom : MethodName := ⟨RX1, "copyFrom", "(LTurnpike$Link;)V"⟩
def RX2 : String := "Turnpike$Roads"
def TX2 : u_T := fun k => match k with
  | 0 => ("Turnpike$Roads", "link", "[LTurnpike$Link;", true)
  | 1 => ("Turnpike$Roads", "links", "I", false)
  | 2 => ("Turnpike$Roads", "costs", "[[I", true)
  | _ => ("Turnpike$Roads", "reckoned", "I", false)
def tyX2 : Nat → FieldType := fun k => match k with
  | 0 => .array (.object "Turnpike$Link")
  | 1 => .int
  | 2 => .array (.array .int)
  | _ => .int
abbrev wsX20 : List Cond := u_ws RX2 TX2 4
theorem nmX2 : ∀ a, a < 4 → ∀ b, b < 4 → a ≠ b → (TX2 a).2.1 ≠ (TX2 b).2.1 := by decide +kernel
theorem tyX2_ok : ∀ k, k < 4 → parseFieldDescriptor (TX2 k).2.2.1 = some (tyX2 k) := by decide +kernel
abbrev cX2_init : ByteArray := prog_4_method_1_code
def yX2_init : MethodName := ⟨RX2, "<init>", "()V"⟩
abbrev cX2_find : ByteArray := prog_4_method_2_code
def yX2_find : MethodName := ⟨RX2, "find", "(I)LTurnpike$Link;"⟩
abbrev cX2_lay : ByteArray := prog_4_method_3_code
def yX2_lay : MethodName := ⟨RX2, "lay", "(IIIII)I"⟩
abbrev cX2_allLeadTo : ByteArray := prog_4_method_4_code
def yX2_allLeadTo : MethodName := ⟨RX2, "allLeadTo", "(II)Z"⟩
abbrev cX2_anyHasQueueIn : ByteArray := prog_4_method_5_code
def yX2_anyHasQueueIn : MethodName := ⟨RX2, "anyHasQueueIn", "(II)Z"⟩
abbrev cX2_playSlowTick : ByteArray := prog_4_method_6_code
def yX2_playSlowTick : MethodName := ⟨RX2, "playSlowTick", "()V"⟩
abbrev cX2_reckonCostsIn : ByteArray := prog_4_method_7_code
def yX2_reckonCostsIn : MethodName := ⟨RX2, "reckonCostsIn", "(I)V"⟩
abbrev cX2_countQueuesIn : ByteArray := prog_4_method_8_code
def yX2_countQueuesIn : MethodName := ⟨RX2, "countQueuesIn", "(I)V"⟩
abbrev cX2_forgetWays : ByteArray := prog_4_method_9_code
def yX2_forgetWays : MethodName := ⟨RX2, "forgetWays", "()V"⟩
abbrev cX2_costsTo : ByteArray := prog_4_method_10_code
def yX2_costsTo : MethodName := ⟨RX2, "costsTo", "(I)[I"⟩
abbrev cX2_firstOfWay : ByteArray := prog_4_method_12_code
def yX2_firstOfWay : MethodName := ⟨RX2, "firstOfWay", "(II)I"⟩
abbrev cX2_planWay : ByteArray := prog_4_method_13_code
def yX2_planWay : MethodName := ⟨RX2, "planWay", "(LTurnpike$Vehicle;I)Z"⟩
abbrev cX2_copyFrom : ByteArray := prog_4_method_14_code
def yX2_copyFrom : MethodName := ⟨RX2, "copyFrom", "(LTurnpike$Roads;)V"⟩
def RX3 : String := "Turnpike$Row"
def TX3 : u_T := fun k => match k with
  | 0 => ("Turnpike$Row", "number", "[I", true)
  | _ => ("Turnpike$Row", "size", "I", false)
def tyX3 : Nat → FieldType := fun k => match k with
  | 0 => .array .int
  | _ => .int
abbrev wsX30 : List Cond := u_ws RX3 TX3 2
theorem nmX3 : ∀ a, a < 2 → ∀ b, b < 2 → a ≠ b → (TX3 a).2.1 ≠ (TX3 b).2.1 := by decide +kernel
theorem tyX3_ok : ∀ k, k < 2 → parseFieldDescriptor (TX3 k).2.2.1 = some (tyX3 k) := by decide +kernel
abbrev cX3_init : ByteArray := prog_5_method_1_code
def yX3_init : MethodName := ⟨RX3, "<init>", "(I)V"⟩
abbrev cX3_get : ByteArray := prog_5_method_2_code
def yX3_get : MethodName := ⟨RX3, "get", "(I)I"⟩
abbrev cX3_append : ByteArray := prog_5_method_3_code
def yX3_append : MethodName := ⟨RX3, "append", "(I)V"⟩
abbrev cX3_dropFirst : ByteArray := prog_5_method_4_code
def yX3_dropFirst : MethodName := ⟨RX3, "dropFirst", "()V"⟩
abbrev cX3_copyFrom : ByteArray := prog_5_method_5_code
def yX3_copyFrom : MethodName := ⟨RX3, "copyFrom", "(LTurnpike$Row;)V"⟩
def RX4 : String := "Turnpike$Signal"
def TX4 : u_T := fun k => match k with
  | 0 => ("Turnpike$Signal", "links", "[I", true)
  | 1 => ("Turnpike$Signal", "least", "[I", true)
  | 2 => ("Turnpike$Signal", "greatest", "[I", true)
  | 3 => ("Turnpike$Signal", "phases", "I", false)
  | 4 => ("Turnpike$Signal", "phase", "I", false)
  | _ => ("Turnpike$Signal", "ticks", "I", false)
def tyX4 : Nat → FieldType := fun k => match k with
  | 0 => .array .int
  | 1 => .array .int
  | 2 => .array .int
  | 3 => .int
  | 4 => .int
  | _ => .int
abbrev wsX40 : List Cond := u_ws RX4 TX4 6
theorem nmX4 : ∀ a, a < 6 → ∀ b, b < 6 → a ≠ b → (TX4 a).2.1 ≠ (TX4 b).2.1 := by decide +kernel
theorem tyX4_ok : ∀ k, k < 6 → parseFieldDescriptor (TX4 k).2.2.1 = some (tyX4 k) := by decide +kernel
abbrev cX4_init : ByteArray := prog_6_method_1_code
def yX4_init : MethodName := ⟨RX4, "<init>", "()V"⟩
abbrev cX4_append : ByteArray := prog_6_method_2_code
def yX4_append : MethodName := ⟨RX4, "append", "(III)I"⟩
abbrev cX4_isOn : ByteArray := prog_6_method_4_code
def yX4_isOn : MethodName := ⟨RX4, "isOn", "()Z"⟩
abbrev cX4_linksOn : ByteArray := prog_6_method_5_code
def yX4_linksOn : MethodName := ⟨RX4, "linksOn", "()I"⟩
abbrev cX4_isGreen : ByteArray := prog_6_method_6_code
def yX4_isGreen : MethodName := ⟨RX4, "isGreen", "(I)Z"⟩
abbrev cX4_playTick : ByteArray := prog_6_method_7_code
def yX4_playTick : MethodName := ⟨RX4, "playTick", "(Z)V"⟩
abbrev cX4_copyFrom : ByteArray := prog_6_method_8_code
def yX4_copyFrom : MethodName := ⟨RX4, "copyFrom", "(LTurnpike$Signal;)V"⟩
def RX5 : String := "Turnpike$Traffic"
def TX5 : u_T := fun k => match k with
  | 0 => ("Turnpike$Traffic", "roads", "LTurnpike$Roads;", true)
  | 1 => ("Turnpike$Traffic", "signal", "[LTurnpike$Signal;", true)
  | 2 => ("Turnpike$Traffic", "row", "[LTurnpike$Row;", true)
  | 3 => ("Turnpike$Traffic", "flow", "[LTurnpike$Flow;", true)
  | 4 => ("Turnpike$Traffic", "vehicle", "[LTurnpike$Vehicle;", true)
  | 5 => ("Turnpike$Traffic", "trails", "LTurnpike$Trails;", true)
  | 6 => ("Turnpike$Traffic", "clock", "I", false)
  | 7 => ("Turnpike$Traffic", "refresh", "I", false)
  | 8 => ("Turnpike$Traffic", "nodes", "I", false)
  | 9 => ("Turnpike$Traffic", "flows", "I", false)
  | 10 => ("Turnpike$Traffic", "vehicles", "I", false)
  | _ => ("Turnpike$Traffic", "underWay", "I", false)
def tyX5 : Nat → FieldType := fun k => match k with
  | 0 => .object "Turnpike$Roads"
  | 1 => .array (.object "Turnpike$Signal")
  | 2 => .array (.object "Turnpike$Row")
  | 3 => .array (.object "Turnpike$Flow")
  | 4 => .array (.object "Turnpike$Vehicle")
  | 5 => .object "Turnpike$Trails"
  | 6 => .int
  | 7 => .int
  | 8 => .int
  | 9 => .int
  | 10 => .int
  | _ => .int
abbrev wsX50 : List Cond := u_ws RX5 TX5 12
theorem nmX5 : ∀ a, a < 12 → ∀ b, b < 12 → a ≠ b → (TX5 a).2.1 ≠ (TX5 b).2.1 := by decide +kernel
theorem tyX5_ok : ∀ k, k < 12 → parseFieldDescriptor (TX5 k).2.2.1 = some (tyX5 k) := by decide +kernel
abbrev cX5_init : ByteArray := prog_7_method_1_code
def yX5_init : MethodName := ⟨RX5, "<init>", "(Z)V"⟩
abbrev cX5_find : ByteArray := prog_7_method_2_code
def yX5_find : MethodName := ⟨RX5, "find", "(I)LTurnpike$Vehicle;"⟩
abbrev cX5_tick : ByteArray := prog_7_method_3_code
def yX5_tick : MethodName := ⟨RX5, "tick", "()V"⟩
abbrev cX5_bringVehicles : ByteArray := prog_7_method_4_code
def yX5_bringVehicles : MethodName := ⟨RX5, "bringVehicles", "()V"⟩
abbrev cX5_bring : ByteArray := prog_7_method_5_code
def yX5_bring : MethodName := ⟨RX5, "bring", "(I)V"⟩
abbrev cX5_playSignals : ByteArray := prog_7_method_6_code
def yX5_playSignals : MethodName := ⟨RX5, "playSignals", "()V"⟩
abbrev cX5_driveOnLinks : ByteArray := prog_7_method_7_code
def yX5_driveOnLinks : MethodName := ⟨RX5, "driveOnLinks", "()V"⟩
abbrev cX5_firstGoesOn : ByteArray := prog_7_method_8_code
def yX5_firstGoesOn : MethodName := ⟨RX5, "firstGoesOn", "(LTurnpike$Link;)Z"⟩
abbrev cX5_driveFromNodes : ByteArray := prog_7_method_9_code
def yX5_driveFromNodes : MethodName := ⟨RX5, "driveFromNodes", "()V"⟩
abbrev cX5_nextOf : ByteArray := prog_7_method_10_code
def yX5_nextOf : MethodName := ⟨RX5, "nextOf", "(LTurnpike$Vehicle;I)I"⟩
abbrev cX5_comesOnto : ByteArray := prog_7_method_11_code
def yX5_comesOnto : MethodName := ⟨RX5, "comesOnto", "(ILTurnpike$Vehicle;I)Z"⟩
abbrev cX5_arrive : ByteArray := prog_7_method_12_code
def yX5_arrive : MethodName := ⟨RX5, "arrive", "(LTurnpike$Vehicle;)V"⟩
abbrev cX5_copyFrom : ByteArray := prog_7_method_13_code
def yX5_copyFrom : MethodName := ⟨RX5, "copyFrom", "(LTurnpike$Traffic;)V"⟩
def RX6 : String := "Turnpike$Trails"
def TX6 : u_T := fun k => match k with
  | _ => ("Turnpike$Trails", "words", "[[J", true)
def tyX6 : Nat → FieldType := fun k => match k with
  | _ => .array (.array .long)
abbrev wsX60 : List Cond := u_ws RX6 TX6 1
theorem nmX6 : ∀ a, a < 1 → ∀ b, b < 1 → a ≠ b → (TX6 a).2.1 ≠ (TX6 b).2.1 := by decide +kernel
theorem tyX6_ok : ∀ k, k < 1 → parseFieldDescriptor (TX6 k).2.2.1 = some (tyX6 k) := by decide +kernel
abbrev cX6_init : ByteArray := prog_8_method_1_code
def yX6_init : MethodName := ⟨RX6, "<init>", "()V"⟩
abbrev cX6_put : ByteArray := prog_8_method_2_code
def yX6_put : MethodName := ⟨RX6, "put", "(III)V"⟩
abbrev cX6_get : ByteArray := prog_8_method_3_code
def yX6_get : MethodName := ⟨RX6, "get", "(II)I"⟩
def RX7 : String := "Turnpike$Vehicle"
def TX7 : u_T := fun k => match k with
  | 0 => ("Turnpike$Vehicle", "flow", "I", false)
  | 1 => ("Turnpike$Vehicle", "to", "I", false)
  | 2 => ("Turnpike$Vehicle", "kind", "I", false)
  | 3 => ("Turnpike$Vehicle", "state", "I", false)
  | 4 => ("Turnpike$Vehicle", "start", "I", false)
  | 5 => ("Turnpike$Vehicle", "link", "I", false)
  | 6 => ("Turnpike$Vehicle", "end", "I", false)
  | 7 => ("Turnpike$Vehicle", "gone", "I", false)
  | 8 => ("Turnpike$Vehicle", "driven", "I", false)
  | 9 => ("Turnpike$Vehicle", "trip", "I", false)
  | 10 => ("Turnpike$Vehicle", "delay", "I", false)
  | 11 => ("Turnpike$Vehicle", "wayLinks", "I", false)
  | _ => ("Turnpike$Vehicle", "way", "[I", true)
def tyX7 : Nat → FieldType := fun k => match k with
  | 0 => .int
  | 1 => .int
  | 2 => .int
  | 3 => .int
  | 4 => .int
  | 5 => .int
  | 6 => .int
  | 7 => .int
  | 8 => .int
  | 9 => .int
  | 10 => .int
  | 11 => .int
  | _ => .array .int
abbrev wsX70 : List Cond := u_ws RX7 TX7 13
theorem nmX7 : ∀ a, a < 13 → ∀ b, b < 13 → a ≠ b → (TX7 a).2.1 ≠ (TX7 b).2.1 := by decide +kernel
theorem tyX7_ok : ∀ k, k < 13 → parseFieldDescriptor (TX7 k).2.2.1 = some (tyX7 k) := by decide +kernel
abbrev cX7_init : ByteArray := prog_9_method_1_code
def yX7_init : MethodName := ⟨RX7, "<init>", "()V"⟩
abbrev cX7_come : ByteArray := prog_9_method_2_code
def yX7_come : MethodName := ⟨RX7, "come", "(IIII)V"⟩
abbrev cX7_planOver : ByteArray := prog_9_method_3_code
def yX7_planOver : MethodName := ⟨RX7, "planOver", "(I)V"⟩
abbrev cX7_nextOfWay : ByteArray := prog_9_method_4_code
def yX7_nextOfWay : MethodName := ⟨RX7, "nextOfWay", "()I"⟩
abbrev cX7_goOnto : ByteArray := prog_9_method_5_code
def yX7_goOnto : MethodName := ⟨RX7, "goOnto", "(III)V"⟩
abbrev cX7_arrive : ByteArray := prog_9_method_6_code
def yX7_arrive : MethodName := ⟨RX7, "arrive", "(I)V"⟩
abbrev cX7_copyFrom : ByteArray := prog_9_method_7_code
def yX7_copyFrom : MethodName := ⟨RX7, "copyFrom", "(LTurnpike$Vehicle;)V"⟩
def RX8 : String := "Turnpike"
def TX8 : u_T := fun k => match k with
  | 0 => ("Turnpike", "now", "LTurnpike$Traffic;", true)
  | _ => ("Turnpike", "trial", "LTurnpike$Traffic;", true)
def tyX8 : Nat → FieldType := fun k => match k with
  | 0 => .object "Turnpike$Traffic"
  | _ => .object "Turnpike$Traffic"
abbrev wsX80 : List Cond := u_ws RX8 TX8 2
theorem nmX8 : ∀ a, a < 2 → ∀ b, b < 2 → a ≠ b → (TX8 a).2.1 ≠ (TX8 b).2.1 := by decide +kernel
theorem tyX8_ok : ∀ k, k < 2 → parseFieldDescriptor (TX8 k).2.2.1 = some (tyX8 k) := by decide +kernel
abbrev cX8_init : ByteArray := prog_1_method_1_code
def yX8_init : MethodName := ⟨RX8, "<init>", "()V"⟩
abbrev cX8_addNode : ByteArray := prog_1_method_2_code
def yX8_addNode : MethodName := ⟨RX8, "addNode", "()I"⟩
abbrev cX8_addLink : ByteArray := prog_1_method_3_code
def yX8_addLink : MethodName := ⟨RX8, "addLink", "(IIIII)I"⟩
abbrev cX8_addPhase : ByteArray := prog_1_method_4_code
def yX8_addPhase : MethodName := ⟨RX8, "addPhase", "(IIII)I"⟩
abbrev cX8_setRefresh : ByteArray := prog_1_method_6_code
def yX8_setRefresh : MethodName := ⟨RX8, "setRefresh", "(I)I"⟩
abbrev cX8_shut : ByteArray := prog_1_method_7_code
def yX8_shut : MethodName := ⟨RX8, "shut", "(IZ)Z"⟩
abbrev cX8_slow : ByteArray := prog_1_method_8_code
def yX8_slow : MethodName := ⟨RX8, "slow", "(III)I"⟩
abbrev cX8_addFlow : ByteArray := prog_1_method_9_code
def yX8_addFlow : MethodName := ⟨RX8, "addFlow", "(IIIIII)I"⟩
abbrev cX8_step : ByteArray := prog_1_method_10_code
def yX8_step : MethodName := ⟨RX8, "step", "(I)I"⟩
abbrev cX8_clock : ByteArray := prog_1_method_11_code
def yX8_clock : MethodName := ⟨RX8, "clock", "()I"⟩
abbrev cX8_nodes : ByteArray := prog_1_method_12_code
def yX8_nodes : MethodName := ⟨RX8, "nodes", "()I"⟩
abbrev cX8_links : ByteArray := prog_1_method_13_code
def yX8_links : MethodName := ⟨RX8, "links", "()I"⟩
abbrev cX8_flows : ByteArray := prog_1_method_14_code
def yX8_flows : MethodName := ⟨RX8, "flows", "()I"⟩
abbrev cX8_isShut : ByteArray := prog_1_method_15_code
def yX8_isShut : MethodName := ⟨RX8, "isShut", "(I)Z"⟩
abbrev cX8_rateOf : ByteArray := prog_1_method_16_code
def yX8_rateOf : MethodName := ⟨RX8, "rateOf", "(I)I"⟩
abbrev cX8_costOf : ByteArray := prog_1_method_17_code
def yX8_costOf : MethodName := ⟨RX8, "costOf", "(I)I"⟩
abbrev cX8_phaseOf : ByteArray := prog_1_method_18_code
def yX8_phaseOf : MethodName := ⟨RX8, "phaseOf", "(I)I"⟩
abbrev cX8_phaseTicks : ByteArray := prog_1_method_19_code
def yX8_phaseTicks : MethodName := ⟨RX8, "phaseTicks", "(I)I"⟩
abbrev cX8_distance : ByteArray := prog_1_method_20_code
def yX8_distance : MethodName := ⟨RX8, "distance", "(II)I"⟩
abbrev cX8_nextLink : ByteArray := prog_1_method_21_code
def yX8_nextLink : MethodName := ⟨RX8, "nextLink", "(II)I"⟩
abbrev cX8_vehicles : ByteArray := prog_1_method_22_code
def yX8_vehicles : MethodName := ⟨RX8, "vehicles", "()I"⟩
abbrev cX8_stateOf : ByteArray := prog_1_method_23_code
def yX8_stateOf : MethodName := ⟨RX8, "stateOf", "(I)I"⟩
abbrev cX8_linkOf : ByteArray := prog_1_method_24_code
def yX8_linkOf : MethodName := ⟨RX8, "linkOf", "(I)I"⟩
abbrev cX8_endOf : ByteArray := prog_1_method_25_code
def yX8_endOf : MethodName := ⟨RX8, "endOf", "(I)I"⟩
abbrev cX8_linksOf : ByteArray := prog_1_method_26_code
def yX8_linksOf : MethodName := ⟨RX8, "linksOf", "(I)I"⟩
abbrev cX8_linkAt : ByteArray := prog_1_method_27_code
def yX8_linkAt : MethodName := ⟨RX8, "linkAt", "(II)I"⟩
abbrev cX8_tripOf : ByteArray := prog_1_method_28_code
def yX8_tripOf : MethodName := ⟨RX8, "tripOf", "(I)I"⟩
abbrev cX8_delayOf : ByteArray := prog_1_method_29_code
def yX8_delayOf : MethodName := ⟨RX8, "delayOf", "(I)I"⟩
abbrev cX8_waiting : ByteArray := prog_1_method_30_code
def yX8_waiting : MethodName := ⟨RX8, "waiting", "(I)I"⟩
abbrev cX8_onLink : ByteArray := prog_1_method_31_code
def yX8_onLink : MethodName := ⟨RX8, "onLink", "(I)I"⟩
abbrev cX8_vehicleAt : ByteArray := prog_1_method_32_code
def yX8_vehicleAt : MethodName := ⟨RX8, "vehicleAt", "(II)I"⟩
abbrev cX8_queue : ByteArray := prog_1_method_33_code
def yX8_queue : MethodName := ⟨RX8, "queue", "(I)I"⟩
abbrev cX8_count : ByteArray := prog_1_method_34_code
def yX8_count : MethodName := ⟨RX8, "count", "(II)I"⟩
abbrev cX8_turned : ByteArray := prog_1_method_35_code
def yX8_turned : MethodName := ⟨RX8, "turned", "(II)I"⟩
abbrev cX8_ofFlow : ByteArray := prog_1_method_36_code
def yX8_ofFlow : MethodName := ⟨RX8, "ofFlow", "(II)I"⟩
abbrev cX8_arrivesIn : ByteArray := prog_1_method_38_code
def yX8_arrivesIn : MethodName := ⟨RX8, "arrivesIn", "(II)I"⟩
abbrev cX8_emptyIn : ByteArray := prog_1_method_39_code
def yX8_emptyIn : MethodName := ⟨RX8, "emptyIn", "(I)I"⟩
abbrev cX8_digest : ByteArray := prog_1_method_41_code
def yX8_digest : MethodName := ⟨RX8, "digest", "()J"⟩
abbrev cX8_digestNodes : ByteArray := prog_1_method_42_code
def yX8_digestNodes : MethodName := ⟨RX8, "digestNodes", "(J)J"⟩
abbrev cX8_digestLinks : ByteArray := prog_1_method_43_code
def yX8_digestLinks : MethodName := ⟨RX8, "digestLinks", "(J)J"⟩
abbrev cX8_digestFlows : ByteArray := prog_1_method_44_code
def yX8_digestFlows : MethodName := ⟨RX8, "digestFlows", "(J)J"⟩
abbrev cX8_digestVehicles : ByteArray := prog_1_method_45_code
def yX8_digestVehicles : MethodName := ⟨RX8, "digestVehicles", "(J)J"⟩
abbrev cX8_isWithin : ByteArray := prog_1_method_46_code
def yX8_isWithin : MethodName := ⟨RX8, "isWithin", "(III)Z"⟩
abbrev cX8_checkArgument : ByteArray := prog_1_method_47_code
def yX8_checkArgument : MethodName := ⟨RX8, "checkArgument", "(Z)V"⟩
abbrev cX8_checkTicks : ByteArray := prog_1_method_48_code
def yX8_checkTicks : MethodName := ⟨RX8, "checkTicks", "(I)V"⟩
abbrev cX8_checkNode : ByteArray := prog_1_method_49_code
def yX8_checkNode : MethodName := ⟨RX8, "checkNode", "(I)V"⟩
abbrev cX8_linkNumbered : ByteArray := prog_1_method_50_code
def yX8_linkNumbered : MethodName := ⟨RX8, "linkNumbered", "(I)LTurnpike$Link;"⟩
abbrev cX8_vehicleNumbered : ByteArray := prog_1_method_51_code
def yX8_vehicleNumbered : MethodName := ⟨RX8, "vehicleNumbered", "(I)LTurnpike$Vehicle;"⟩
def RX9 : String := "TurnpikeLaw$Roads"
def TX9 : u_T := fun k => match k with
  | 0 => ("TurnpikeLaw$Roads", "m", "LTurnpike;", true)
  | 1 => ("TurnpikeLaw$Roads", "s", "[I", true)
  | 2 => ("TurnpikeLaw$Roads", "draws", "I", false)
  | 3 => ("TurnpikeLaw$Roads", "nodes", "I", false)
  | 4 => ("TurnpikeLaw$Roads", "clock", "I", false)
  | 5 => ("TurnpikeLaw$Roads", "refresh", "I", false)
  | 6 => ("TurnpikeLaw$Roads", "links", "I", false)
  | 7 => ("TurnpikeLaw$Roads", "link", "[[I", true)
  | 8 => ("TurnpikeLaw$Roads", "rate", "[I", true)
  | 9 => ("TurnpikeLaw$Roads", "slowed", "[I", true)
  | 10 => ("TurnpikeLaw$Roads", "cost", "[I", true)
  | 11 => ("TurnpikeLaw$Roads", "isShut", "[Z", true)
  | 12 => ("TurnpikeLaw$Roads", "on", "[[I", true)
  | 13 => ("TurnpikeLaw$Roads", "waiting", "[[I", true)
  | 14 => ("TurnpikeLaw$Roads", "count", "[[I", true)
  | 15 => ("TurnpikeLaw$Roads", "turned", "[[I", true)
  | 16 => ("TurnpikeLaw$Roads", "flows", "I", false)
  | 17 => ("TurnpikeLaw$Roads", "flow", "[[I", true)
  | 18 => ("TurnpikeLaw$Roads", "vehicles", "I", false)
  | 19 => ("TurnpikeLaw$Roads", "vehicle", "[[I", true)
  | 20 => ("TurnpikeLaw$Roads", "gone", "[[I", true)
  | 21 => ("TurnpikeLaw$Roads", "way", "[[I", true)
  | 22 => ("TurnpikeLaw$Roads", "phase", "[[[I", true)
  | 23 => ("TurnpikeLaw$Roads", "isOn", "[I", true)
  | _ => ("TurnpikeLaw$Roads", "ticks", "[I", true)
def tyX9 : Nat → FieldType := fun k => match k with
  | 0 => .object "Turnpike"
  | 1 => .array .int
  | 2 => .int
  | 3 => .int
  | 4 => .int
  | 5 => .int
  | 6 => .int
  | 7 => .array (.array .int)
  | 8 => .array .int
  | 9 => .array .int
  | 10 => .array .int
  | 11 => .array .boolean
  | 12 => .array (.array .int)
  | 13 => .array (.array .int)
  | 14 => .array (.array .int)
  | 15 => .array (.array .int)
  | 16 => .int
  | 17 => .array (.array .int)
  | 18 => .int
  | 19 => .array (.array .int)
  | 20 => .array (.array .int)
  | 21 => .array (.array .int)
  | 22 => .array (.array (.array .int))
  | 23 => .array .int
  | _ => .array .int
abbrev wsX90 : List Cond := u_ws RX9 TX9 25
theorem nmX9 : ∀ a, a < 25 → ∀ b, b < 25 → a ≠ b → (TX9 a).2.1 ≠ (TX9 b).2.1 := by decide +kernel
theorem tyX9_ok : ∀ k, k < 25 → parseFieldDescriptor (TX9 k).2.2.1 = some (tyX9 k) := by decide +kernel
abbrev cX9_init : ByteArray := prog_11_method_1_code
def yX9_init : MethodName := ⟨RX9, "<init>", "([II)V"⟩
abbrev cX9_draw : ByteArray := prog_11_method_2_code
def yX9_draw : MethodName := ⟨RX9, "draw", "(I)I"⟩
abbrev cX9_addLink : ByteArray := prog_11_method_5_code
def yX9_addLink : MethodName := ⟨RX9, "addLink", "(II)Z"⟩
abbrev cX9_make : ByteArray := prog_11_method_6_code
def yX9_make : MethodName := ⟨RX9, "make", "()Z"⟩
abbrev cX9_addFlow : ByteArray := prog_11_method_7_code
def yX9_addFlow : MethodName := ⟨RX9, "addFlow", "(I)Z"⟩
abbrev cX9_addPhase : ByteArray := prog_11_method_8_code
def yX9_addPhase : MethodName := ⟨RX9, "addPhase", "(I)Z"⟩
def RX10 : String := "TurnpikeModel$World"
def TX10 : u_T := fun k => match k with
  | _ => ("", "", "", false)
def tyX10 : Nat → FieldType := fun k => match k with
  | _ => .int
abbrev wsX100 : List Cond := u_ws RX10 TX10 0
theorem nmX10 : ∀ a, a < 0 → ∀ b, b < 0 → a ≠ b → (TX10 a).2.1 ≠ (TX10 b).2.1 := by decide +kernel
theorem tyX10_ok : ∀ k, k < 0 → parseFieldDescriptor (TX10 k).2.2.1 = some (tyX10 k) := by decide +kernel
def RX11 : String := "TurnpikeModel"
def TX11 : u_T := fun k => match k with
  | _ => ("", "", "", false)
def tyX11 : Nat → FieldType := fun k => match k with
  | _ => .int
abbrev wsX110 : List Cond := u_ws RX11 TX11 0
theorem nmX11 : ∀ a, a < 0 → ∀ b, b < 0 → a ≠ b → (TX11 a).2.1 ≠ (TX11 b).2.1 := by decide +kernel
theorem tyX11_ok : ∀ k, k < 0 → parseFieldDescriptor (TX11 k).2.2.1 = some (tyX11 k) := by decide +kernel
def RJx145de : String := "java/io/Serializable"
def TJx145de : u_T := fun k => match k with
  | _ => ("", "", "", false)
def tyJx145de : Nat → FieldType := fun k => match k with
  | _ => .int
abbrev wsJx145de0 : List Cond := u_ws RJx145de TJx145de 0
theorem nmJx145de : ∀ a, a < 0 → ∀ b, b < 0 → a ≠ b → (TJx145de a).2.1 ≠ (TJx145de b).2.1 := by decide +kernel
theorem tyJx145de_ok : ∀ k, k < 0 → parseFieldDescriptor (TJx145de k).2.2.1 = some (tyJx145de k) := by decide +kernel
def RJx8e188 : String := "java/lang/Cloneable"
def TJx8e188 : u_T := fun k => match k with
  | _ => ("", "", "", false)
def tyJx8e188 : Nat → FieldType := fun k => match k with
  | _ => .int
abbrev wsJx8e1880 : List Cond := u_ws RJx8e188 TJx8e188 0
theorem nmJx8e188 : ∀ a, a < 0 → ∀ b, b < 0 → a ≠ b → (TJx8e188 a).2.1 ≠ (TJx8e188 b).2.1 := by decide +kernel
theorem tyJx8e188_ok : ∀ k, k < 0 → parseFieldDescriptor (TJx8e188 k).2.2.1 = some (tyJx8e188 k) := by decide +kernel
def RJ9 : String := "java/lang/Math"
def TJ9 : u_T := fun k => match k with
  | _ => ("", "", "", false)
def tyJ9 : Nat → FieldType := fun k => match k with
  | _ => .int
abbrev wsJ90 : List Cond := u_ws RJ9 TJ9 0
theorem nmJ9 : ∀ a, a < 0 → ∀ b, b < 0 → a ≠ b → (TJ9 a).2.1 ≠ (TJ9 b).2.1 := by decide +kernel
theorem tyJ9_ok : ∀ k, k < 0 → parseFieldDescriptor (TJ9 k).2.2.1 = some (tyJ9 k) := by decide +kernel
abbrev cJ9_floorMod_7cf53 : ByteArray := prog_19_method_50_code
def yJ9_floorMod_7cf53 : MethodName := ⟨RJ9, "floorMod", "(II)I"⟩
abbrev cJ9_max_7cf53 : ByteArray := prog_19_method_65_code
def yJ9_max_7cf53 : MethodName := ⟨RJ9, "max", "(II)I"⟩
abbrev cJ9_min_7cf53 : ByteArray := prog_19_method_69_code
def yJ9_min_7cf53 : MethodName := ⟨RJ9, "min", "(II)I"⟩
def RJ0 : String := "java/lang/String"
def TJ0 : u_T := fun k => match k with
  | _ => ("", "", "", false)
def tyJ0 : Nat → FieldType := fun k => match k with
  | _ => .int
abbrev wsJ00 : List Cond := u_ws RJ0 TJ0 0
theorem nmJ0 : ∀ a, a < 0 → ∀ b, b < 0 → a ≠ b → (TJ0 a).2.1 ≠ (TJ0 b).2.1 := by decide +kernel
theorem tyJ0_ok : ∀ k, k < 0 → parseFieldDescriptor (TJ0 k).2.2.1 = some (tyJ0 k) := by decide +kernel
def RJ10 : String := "java/lang/System"
def TJ10 : u_T := fun k => match k with
  | _ => ("", "", "", false)
def tyJ10 : Nat → FieldType := fun k => match k with
  | _ => .int
abbrev wsJ100 : List Cond := u_ws RJ10 TJ10 0
theorem nmJ10 : ∀ a, a < 0 → ∀ b, b < 0 → a ≠ b → (TJ10 a).2.1 ≠ (TJ10 b).2.1 := by decide +kernel
theorem tyJ10_ok : ∀ k, k < 0 → parseFieldDescriptor (TJ10 k).2.2.1 = some (tyJ10 k) := by decide +kernel
def RJ7 : String := "java/util/Arrays"
def TJ7 : u_T := fun k => match k with
  | _ => ("", "", "", false)
def tyJ7 : Nat → FieldType := fun k => match k with
  | _ => .int
abbrev wsJ70 : List Cond := u_ws RJ7 TJ7 0
theorem nmJ7 : ∀ a, a < 0 → ∀ b, b < 0 → a ≠ b → (TJ7 a).2.1 ≠ (TJ7 b).2.1 := by decide +kernel
theorem tyJ7_ok : ∀ k, k < 0 → parseFieldDescriptor (TJ7 k).2.2.1 = some (tyJ7 k) := by decide +kernel
abbrev cJ7_fill_53178 : ByteArray := prog_24_method_103_code
def yJ7_fill_53178 : MethodName := ⟨RJ7, "fill", "([II)V"⟩
abbrev cJ7_copyOf_c38d5 : ByteArray := prog_24_method_124_code
def yJ7_copyOf_c38d5 : MethodName := ⟨RJ7, "copyOf", "([JI)[J"⟩
def RL : String := "TurnpikeLaw"
abbrev cL_below : ByteArray := method_2_code
def yL_below : MethodName := ⟨RL, "below", "(II)I"⟩
abbrev cL_cell : ByteArray := method_3_code
def yL_cell : MethodName := ⟨RL, "cell", "([II)I"⟩
abbrev cL_law : ByteArray := code
def yL_law : MethodName := ⟨RL, "law", "([I)Z"⟩
abbrev vwCl : List vw_C := [(RX0, TX0, 12), (RX1, TX1, 16), (RX2, TX2, 4), (RX3, TX3, 2), (RX4, TX4, 6), (RX5, TX5, 12), (RX6, TX6, 1), (RX7, TX7, 13), (RX8, TX8, 2), (RX9, TX9, 25)]
end
section
/-! the words that a call keeps, in one list; the words of nest mates and arrays of references: an environment that a call keeps -/
def tp_all : List Cond := lw_tbl.filter goodWord
theorem tp_mem {w : Cond} (i : Nat) (h : lw_tbl[i]? = some w) (hg : goodWord w = true) : w ∈ tp_all := List.mem_filter.mpr ⟨List.mem_of_getElem? h, hg⟩
theorem tp_ins {ws : List Cond} (h : ∀ w ∈ ws, w ∈ tp_all) : GoodIn tp_all ws := fun w hw => ⟨h w hw, good_of_word (List.mem_filter.mp (h w hw)).2⟩
abbrev tp_w (y : MethodName) (b : ByteArray) (n : Nat) (ret : Option FieldType) : List Cond := Cond.code y b n ret :: tp_all
abbrev tp_wW (y : MethodName) (b : ByteArray) (n : Nat) (ret : Option FieldType) (hh : List (Nat × Nat × Nat × Nat)) : List Cond := Cond.codeWith y b n ret hh :: tp_all
theorem tp_in {c : Cond} (h : c ∈ tp_all) : GoodIn tp_all (c :: tp_all) := tp_ins fun w hw => (List.mem_cons.mp hw).elim (fun e => by rw [e]; exact h) id
theorem tp_m3 {a b c : Cond} (h1 : a ∈ tp_all) (h2 : b ∈ tp_all) (h3 : c ∈ tp_all) : ∀ w ∈ [a, b, c], w ∈ tp_all := by
  intro w hw
  simp only [List.mem_cons, List.not_mem_nil, or_false] at hw
  rcases hw with rfl | rfl | rfl <;> assumption
theorem tp_m4 {a b c d : Cond} (h1 : a ∈ tp_all) (h2 : b ∈ tp_all) (h3 : c ∈ tp_all) (h4 : d ∈ tp_all) : ∀ w ∈ [a, b, c, d], w ∈ tp_all := by
  intro w hw
  simp only [List.mem_cons, List.not_mem_nil, or_false] at hw
  rcases hw with rfl | rfl | rfl | rfl <;> assumption
theorem tp_lay {ws : List Cond} (ps : List Nat) (hp : ws = ps.filterMap (fun i => lw_tbl[i]?)) (h : ws.all goodWord = true) : ∀ w ∈ ws, w ∈ tp_all := by
  intro w hw
  refine List.mem_filter.mpr ⟨?_, List.all_eq_true.mp h w hw⟩
  rw [hp] at hw
  obtain ⟨i, -, hi⟩ := List.mem_filterMap.mp hw
  exact List.mem_of_getElem? hi
section TPC
variable {R : Room} {s : State} {args : Array Value} {own C : String} {index maxL mc ms : Nat} {y : MethodName} {bytes : ByteArray} {ret : Option FieldType} {rm : Room}
theorem tp_cwV (n : Nat) (ht : ∀ w ∈ tp_all, w.before args s = true) (q1 : Cond.methodLink own index y ∈ tp_all) (q2 : Cond.instanceMethod y ∈ tp_all) (q3 : Cond.selects C y y ∈ tp_all) (q4 : Cond.initialized C ∈ tp_all) (q5 : Cond.code y bytes maxL ret ∈ tp_all) (hrc : rm.cells = mc) (hrs : rm.slots = ms)
    (hd : y.cls = C ∧ y.cls ≠ "java/lang/invoke/MethodHandle" ∧ y.cls ≠ "java/lang/invoke/VarHandle" ∧ (parseMethodDescriptor y.desc).map (fun d => d.parameters.length) = some n) (hR : rm.frames + 1 ≤ R.frames ∧ 8 + (maxL + 11) + rm.locals ≤ R.locals) : CallW R s args own C index y bytes maxL ret (tp_w y bytes maxL ret) rm mc ms n :=
  cwV n ht (goodIn_app (tp_ins (tp_m4 q1 q2 q3 q4)) (tp_in q5)) rfl hrc hrs hd hR
theorem tp_cwS (n : Nat) (ht : ∀ w ∈ tp_all, w.before args s = true) (q1 : Cond.methodLink own index y ∈ tp_all) (q2 : Cond.static y ∈ tp_all) (q4 : Cond.initialized y.cls ∈ tp_all) (q5 : Cond.code y bytes maxL ret ∈ tp_all) (hrc : rm.cells = mc) (hrs : rm.slots = ms)
    (hd : y.cls ≠ "java/lang/invoke/MethodHandle" ∧ y.cls ≠ "java/lang/invoke/VarHandle" ∧ (parseMethodDescriptor y.desc).map (fun d => d.parameters.length) = some n) (hR : rm.frames + 1 ≤ R.frames ∧ 8 + (maxL + 11) + rm.locals ≤ R.locals) : CallB R s args own index y bytes maxL ret (tp_w y bytes maxL ret) rm mc ms n ∧ (Cond.static y).before args s = true :=
  va_cwS n ht (goodIn_app (tp_ins (tp_m3 q1 q2 q4)) (tp_in q5)) rfl hrc hrs hd hR
theorem tp_cwI (n : Nat) (ht : ∀ w ∈ tp_all, w.before args s = true) (q1 : Cond.methodLink own index y ∈ tp_all) (q2 : Cond.instanceMethod y ∈ tp_all) (q4 : Cond.initialized y.cls ∈ tp_all) (q5 : Cond.code y bytes maxL none ∈ tp_all) (hrc : rm.cells = mc) (hrs : rm.slots = ms) (hy1 : y.name = "<init>")
    (hd : y.cls ≠ "java/lang/invoke/MethodHandle" ∧ y.cls ≠ "java/lang/invoke/VarHandle" ∧ (parseMethodDescriptor y.desc).map (fun d => d.parameters.length) = some n) (hR : rm.frames + 1 ≤ R.frames ∧ 8 + (maxL + 11) + rm.locals ≤ R.locals) : CallB R s args own index y bytes maxL none (tp_w y bytes maxL none) rm mc ms n ∧ y.name = "<init>" ∧ (Cond.instanceMethod y).before args s = true :=
  cwI n ht (tp_in q5) rfl hrc hrs (ht _ q4) (ht _ q1) (ht _ q2) hy1 hd hR
theorem tp_cnB {host : String} (n : Nat) (ht : ∀ w ∈ tp_all, w.before args s = true) (hl : va_Nw (.methodLinkNest own index y host) s) (q4 : Cond.initialized y.cls ∈ tp_all) (q5 : Cond.code y bytes maxL ret ∈ tp_all) (hrc : rm.cells = mc) (hrs : rm.slots = ms)
    (hd : y.cls ≠ "java/lang/invoke/MethodHandle" ∧ y.cls ≠ "java/lang/invoke/VarHandle" ∧ (parseMethodDescriptor y.desc).map (fun d => d.parameters.length) = some n) (hR : rm.frames + 1 ≤ R.frames ∧ 8 + (maxL + 11) + rm.locals ≤ R.locals) : va_CN R s args own index y host bytes maxL ret (tp_w y bytes maxL ret) rm mc ms n :=
  va_cnB n ht (tp_in q5) rfl hrc hrs hl (ht _ q4) hd hR
end TPC
def tp_fln : List (String × Nat × String × String × String × String) := [("Turnpike$Link", 37, "Turnpike$Row", "size", "I", "Turnpike"), ("Turnpike", 188, "Turnpike$Row", "size", "I", "Turnpike"), ("Turnpike$Roads", 27, "Turnpike$Link", "from", "I", "Turnpike"), ("Turnpike$Roads", 30, "Turnpike$Link", "to", "I", "Turnpike"), ("Turnpike$Traffic", 159, "Turnpike$Link", "to", "I", "Turnpike"), ("Turnpike$Roads", 33, "Turnpike$Link", "time", "I", "Turnpike"), ("Turnpike$Traffic", 222, "Turnpike$Link", "time", "I", "Turnpike"), ("Turnpike$Roads", 36, "Turnpike$Link", "room", "I", "Turnpike"), ("Turnpike$Roads", 39, "Turnpike$Link", "firstRate", "I", "Turnpike"), ("Turnpike$Roads", 42, "Turnpike$Link", "rate", "I", "Turnpike"), ("Turnpike$Traffic", 165, "Turnpike$Link", "rate", "I", "Turnpike"), ("Turnpike", 96, "Turnpike$Link", "rate", "I", "Turnpike"), ("Turnpike", 99, "Turnpike$Link", "slowTicks", "I", "Turnpike"), ("Turnpike", 87, "Turnpike$Link", "shut", "Z", "Turnpike"), ("Turnpike$Roads", 75, "Turnpike$Link", "shut", "Z", "Turnpike"), ("Turnpike$Roads", 45, "Turnpike$Link", "cost", "I", "Turnpike"), ("Turnpike", 126, "Turnpike$Link", "cost", "I", "Turnpike"), ("Turnpike$Traffic", 172, "Turnpike$Link", "row", "LTurnpike$Row;", "Turnpike"), ("Turnpike", 193, "Turnpike$Link", "row", "LTurnpike$Row;", "Turnpike"), ("Turnpike", 204, "Turnpike$Link", "came", "I", "Turnpike"), ("Turnpike", 207, "Turnpike$Link", "left", "I", "Turnpike"), ("Turnpike", 210, "Turnpike$Link", "greatestQueue", "I", "Turnpike"), ("Turnpike", 213, "Turnpike$Link", "sumOfQueues", "I", "Turnpike"), ("Turnpike", 221, "Turnpike$Link", "wentOnto", "[I", "Turnpike"), ("Turnpike$Traffic", 155, "Turnpike$Roads", "link", "[LTurnpike$Link;", "Turnpike"), ("Turnpike", 47, "Turnpike$Roads", "links", "I", "Turnpike"), ("Turnpike$Traffic", 146, "Turnpike$Roads", "links", "I", "Turnpike"), ("Turnpike", 66, "Turnpike$Signal", "phases", "I", "Turnpike"), ("Turnpike$Traffic", 131, "Turnpike$Signal", "phases", "I", "Turnpike"), ("Turnpike", 129, "Turnpike$Signal", "phase", "I", "Turnpike"), ("Turnpike", 132, "Turnpike$Signal", "ticks", "I", "Turnpike"), ("Turnpike$Traffic", 109, "Turnpike$Flow", "from", "I", "Turnpike"), ("Turnpike$Traffic", 96, "Turnpike$Flow", "to", "I", "Turnpike"), ("Turnpike$Traffic", 99, "Turnpike$Flow", "kind", "I", "Turnpike"), ("Turnpike$Traffic", 265, "Turnpike$Flow", "start", "I", "Turnpike"), ("Turnpike$Traffic", 268, "Turnpike$Flow", "period", "I", "Turnpike"), ("Turnpike$Traffic", 271, "Turnpike$Flow", "most", "I", "Turnpike"), ("Turnpike$Traffic", 106, "Turnpike$Flow", "came", "I", "Turnpike"), ("Turnpike", 227, "Turnpike$Flow", "came", "I", "Turnpike"), ("Turnpike", 228, "Turnpike$Flow", "arrived", "I", "Turnpike"), ("Turnpike$Traffic", 119, "Turnpike$Flow", "givenUp", "I", "Turnpike"), ("Turnpike", 231, "Turnpike$Flow", "givenUp", "I", "Turnpike"), ("Turnpike", 234, "Turnpike$Flow", "sumOfTrips", "I", "Turnpike"), ("Turnpike", 237, "Turnpike$Flow", "sumOfDelays", "I", "Turnpike"), ("Turnpike", 240, "Turnpike$Flow", "longestTrip", "I", "Turnpike"), ("Turnpike$Traffic", 244, "Turnpike$Vehicle", "flow", "I", "Turnpike"), ("Turnpike$Traffic", 186, "Turnpike$Vehicle", "to", "I", "Turnpike"), ("Turnpike$Roads", 83, "Turnpike$Vehicle", "to", "I", "Turnpike"), ("Turnpike$Traffic", 208, "Turnpike$Vehicle", "kind", "I", "Turnpike"), ("Turnpike$Traffic", 116, "Turnpike$Vehicle", "state", "I", "Turnpike"), ("Turnpike", 150, "Turnpike$Vehicle", "state", "I", "Turnpike"), ("Turnpike", 155, "Turnpike$Vehicle", "link", "I", "Turnpike"), ("Turnpike$Traffic", 229, "Turnpike$Vehicle", "end", "I", "Turnpike"), ("Turnpike", 158, "Turnpike$Vehicle", "end", "I", "Turnpike"), ("Turnpike$Traffic", 236, "Turnpike$Vehicle", "gone", "I", "Turnpike"), ("Turnpike", 161, "Turnpike$Vehicle", "gone", "I", "Turnpike"), ("Turnpike$Traffic", 246, "Turnpike$Vehicle", "trip", "I", "Turnpike"), ("Turnpike", 178, "Turnpike$Vehicle", "trip", "I", "Turnpike"), ("Turnpike$Traffic", 249, "Turnpike$Vehicle", "delay", "I", "Turnpike"), ("Turnpike", 181, "Turnpike$Vehicle", "delay", "I", "Turnpike"), ("Turnpike", 43, "Turnpike$Traffic", "roads", "LTurnpike$Roads;", "Turnpike"), ("Turnpike", 62, "Turnpike$Traffic", "signal", "[LTurnpike$Signal;", "Turnpike"), ("Turnpike", 184, "Turnpike$Traffic", "row", "[LTurnpike$Row;", "Turnpike"), ("Turnpike", 110, "Turnpike$Traffic", "flow", "[LTurnpike$Flow;", "Turnpike"), ("Turnpike", 247, "Turnpike$Traffic", "vehicle", "[LTurnpike$Vehicle;", "Turnpike"), ("Turnpike", 164, "Turnpike$Traffic", "trails", "LTurnpike$Trails;", "Turnpike"), ("Turnpike", 102, "Turnpike$Traffic", "clock", "I", "Turnpike"), ("Turnpike", 80, "Turnpike$Traffic", "refresh", "I", "Turnpike"), ("Turnpike", 21, "Turnpike$Traffic", "nodes", "I", "Turnpike"), ("Turnpike", 105, "Turnpike$Traffic", "flows", "I", "Turnpike"), ("Turnpike", 143, "Turnpike$Traffic", "vehicles", "I", "Turnpike"), ("Turnpike", 251, "Turnpike$Traffic", "underWay", "I", "Turnpike")]
def tp_mln : List (String × Nat × MethodName × String) := [("Turnpike$Trails", 16, yX8_isWithin, "Turnpike"), ("Turnpike$Roads", 22, yX1_init, "Turnpike"), ("Turnpike$Traffic", 48, yX6_init, "Turnpike"), ("Turnpike$Traffic", 53, yX4_init, "Turnpike"), ("Turnpike$Traffic", 57, yX0_init, "Turnpike"), ("Turnpike$Traffic", 58, yX7_init, "Turnpike"), ("TurnpikeLaw$Roads", 81, yL_cell, "TurnpikeLaw"), ("TurnpikeLaw$Roads", 87, yL_below, "TurnpikeLaw")]
def tp_aos : List String := ["Turnpike$Link", "Turnpike$Signal", "Turnpike$Row", "Turnpike$Flow", "Turnpike$Vehicle"]
def tp_aoa : List FieldType := [.int, .long, (.array .int)]
/-- what a method may need of the tables beside its words: kept by every call -/
def tp_E (U : State) : Prop := (∀ q ∈ tp_fln, va_Nw (.fieldLinkNest q.1 q.2.1 q.2.2.1 q.2.2.2.1 q.2.2.2.2.1 q.2.2.2.2.2) U) ∧ (∀ q ∈ tp_mln, va_Nw (.methodLinkNest q.1 q.2.1 q.2.2.1 q.2.2.2) U) ∧ (∀ C ∈ tp_aos, va_AO C U) ∧ (∀ t ∈ tp_aoa, va_AOA t U)
theorem tp_E.warm {s U : State} (hW : s.WarmedH U.vm) (h : tp_E s) : tp_E U := ⟨fun q m => va_Nw.warmF hW (h.1 q m), fun q m => va_Nw.warmM hW (h.2.1 q m), fun C m => va_AO.moved hW.alike (h.2.2.1 C m), fun t m => va_AOA.moved hW.alike (h.2.2.2 t m)⟩
theorem tp_alike {u U : State} (hv : u.vm = U.vm) : u.vm.Alike U.vm := by rw [hv]; exact Vm.Alike.refl _
theorem tp_E.same {u U : State} (hv : u.vm = U.vm) (h : tp_E u) : tp_E U := ⟨fun q m => va_Nw.same rfl hv (h.1 q m), fun q m => va_Nw.same rfl hv (h.2.1 q m), fun C m => va_AO.moved (tp_alike hv) (h.2.2.1 C m), fun t m => va_AOA.moved (tp_alike hv) (h.2.2.2 t m)⟩
/-- the classes of arrays, one for each type -/
abbrev tp_ty (cy : Nat → ClassId) : List (ClassId × FieldType) := [(cy 0, .int), (cy 1, .long), (cy 2, .boolean), (cy 3, .object RX1), (cy 4, .object RX4), (cy 5, .object RX3), (cy 6, .object RX0), (cy 7, .object RX7), (cy 8, .array .int), (cy 9, .array .long), (cy 10, .array (.array .int))]
theorem tp_RA {U : State} {c1 c2 : ClassId} {t : FieldType} (h1 : va_RA U c1 t) (h2 : va_RA U c2 t) : c1 = c2 := by
  cases t with
  | object C =>
    obtain ⟨k1, p1, -, -, -, e1⟩ := h1
    obtain ⟨k2, p2, -, -, -, e2⟩ := h2
    exact Option.some.inj (e1.symm.trans e2)
  | _ => exact Option.some.inj ((show U.vm.findClass _ = some c1 from h1).symm.trans h2)
/-- an array class that comes again is the one that was there -/
theorem tp_one {D : va_G} {cl : List vw_C} {tys : List (ClassId × FieldType)} {U : State} (hK : va_K D cl tys U) (i j : Nat) {c1 c2 : ClassId} {t : FieldType} (h1 : tys[i]? = some (c1, t)) (h2 : tys[j]? = some (c2, t)) : c1 = c2 := tp_RA (hK.2 i _ h1).2 (hK.2 j _ h2).2
section TPL
variable {p : Program} {l : Launch} {e : Env} {R : Room} {s : State} {m : MethodId} {args : Array Value} {below : List Frame} {meth : Method} {c : Code} {Q : State → Prop} {pc : Nat} {st : List Value}
/-- a loop: a state of its own, a place below which it ends, the cells and slots told by the place -/
theorem tp_for {σ : Type} (N : Nat) (cf sf : Nat → Nat) (I : Nat → σ → Heap → List Loc → Array Slot → Prop)
    (hx : ∀ (x : σ) (H : Heap) (locs : List Loc) (ls : Array Slot), I N x H locs ls → W p l e R s m args below meth c H locs (cf N) (sf N) Q (F0 m pc ls st))
    (hs : ∀ (i : Nat) (x : σ) (H : Heap) (locs : List Loc) (ls : Array Slot), i < N → I i x H locs ls → (∀ (x : σ) (H : Heap) (locs : List Loc) (ls : Array Slot), I (i + 1) x H locs ls → W p l e R s m args below meth c H locs (cf (i + 1)) (sf (i + 1)) Q (F0 m pc ls st)) → W p l e R s m args below meth c H locs (cf i) (sf i) Q (F0 m pc ls st)) :
    ∀ (n i : Nat), i + n = N → ∀ (x : σ) (H : Heap) (locs : List Loc) (ls : Array Slot), I i x H locs ls → W p l e R s m args below meth c H locs (cf i) (sf i) Q (F0 m pc ls st) := by
  intro n
  induction n with
  | zero =>
    intro i hi x H locs ls h
    have e : i = N := by omega
    subst e
    exact hx x H locs ls h
  | succ n ih =>
    intro i hi x H locs ls h
    exact hs i x H locs ls (by omega) h (fun x H locs ls h => ih (i + 1) (by omega) x H locs ls h)
/-- a loop with a measure that falls: the turn may end the loop itself -/
theorem tp_loop {σ : Type} (μ : σ → Nat) (C S : σ → Nat) (I : σ → Heap → List Loc → Array Slot → Prop)
    (hs : ∀ (x : σ) (H : Heap) (locs : List Loc) (ls : Array Slot), I x H locs ls → (∀ (y : σ) (H : Heap) (locs : List Loc) (ls : Array Slot), μ y < μ x → I y H locs ls → W p l e R s m args below meth c H locs (C y) (S y) Q (F0 m pc ls st)) → W p l e R s m args below meth c H locs (C x) (S x) Q (F0 m pc ls st)) :
    ∀ (n : Nat) (x : σ), μ x ≤ n → ∀ (H : Heap) (locs : List Loc) (ls : Array Slot), I x H locs ls → W p l e R s m args below meth c H locs (C x) (S x) Q (F0 m pc ls st) := by
  intro n
  induction n with
  | zero =>
    intro x hx H locs ls h
    exact hs x H locs ls h (fun y _ _ _ hy => absurd hy (by omega))
  | succ n ih =>
    intro x hx H locs ls h
    exact hs x H locs ls h (fun y H locs ls hy hi => ih y (by omega) H locs ls hi)
end TPL
theorem tl_X0 : ∀ w ∈ u_ws RX0 TX0 12, w ∈ tp_all := tp_lay [788, 790, 792, 794, 796, 798, 800, 802, 804, 806, 808, 810] (by decide +kernel) (by decide +kernel)
theorem tl_X1 : ∀ w ∈ u_ws RX1 TX1 16, w ∈ tp_all := tp_lay [662, 664, 666, 668, 670, 672, 674, 676, 678, 680, 682, 684, 686, 688, 690, 692] (by decide +kernel) (by decide +kernel)
theorem tl_X2 : ∀ w ∈ u_ws RX2 TX2 4, w ∈ tp_all := tp_lay [702, 704, 706, 708] (by decide +kernel) (by decide +kernel)
theorem tl_X3 : ∀ w ∈ u_ws RX3 TX3 2, w ∈ tp_all := tp_lay [618, 620] (by decide +kernel) (by decide +kernel)
theorem tl_X4 : ∀ w ∈ u_ws RX4 TX4 6, w ∈ tp_all := tp_lay [745, 747, 749, 751, 753, 755] (by decide +kernel) (by decide +kernel)
theorem tl_X5 : ∀ w ∈ u_ws RX5 TX5 12, w ∈ tp_all := tp_lay [897, 899, 901, 903, 905, 907, 909, 911, 913, 915, 917, 919] (by decide +kernel) (by decide +kernel)
theorem tl_X6 : ∀ w ∈ u_ws RX6 TX6 1, w ∈ tp_all := tp_lay [728] (by decide +kernel) (by decide +kernel)
theorem tl_X7 : ∀ w ∈ u_ws RX7 TX7 13, w ∈ tp_all := tp_lay [846, 848, 850, 852, 854, 856, 858, 860, 862, 864, 866, 868, 870] (by decide +kernel) (by decide +kernel)
theorem tl_X8 : ∀ w ∈ u_ws RX8 TX8 2, w ∈ tp_all := tp_lay [924, 926] (by decide +kernel) (by decide +kernel)
theorem tl_X9 : ∀ w ∈ u_ws RX9 TX9 25, w ∈ tp_all := tp_lay [963, 965, 967, 969, 971, 973, 975, 977, 979, 981, 983, 985, 987, 989, 991, 993, 995, 997, 999, 1001, 1003, 1005, 1007, 1009, 1011] (by decide +kernel) (by decide +kernel)
end
section
/-! worlds as predicates on places: 'P q e': at the place q there is e -/
abbrev mP : Type := Nat → va_E → Prop
def mw (D : va_G) (cl : List vw_C) (A : Nat → Prop) (P : mP) (H : Heap) : Prop := ∃ ws : va_W, va_P D cl ws H ∧ va_D A ws ∧ ∀ q e, P q e ↔ (q, e) ∈ ws
/-- which places a method may change: its world's, and new ones -/
def mA (P : mP) (sz : Nat) : Nat → Prop := fun q => (∃ e, P q e) ∨ sz ≤ q
def mset (P : mP) (a : Nat) (x : va_E) : mP := fun q e => (q = a ∧ e = x) ∨ (q ≠ a ∧ P q e)
def madd (P : mP) (a : Nat) (x : va_E) : mP := fun q e => P q e ∨ (q = a ∧ e = x)
theorem vD_nd {ws : va_W} : (∀ (i j : Nat) (p q : Nat × va_E), ws[i]? = some p → ws[j]? = some q → p.1 = q.1 → i = j) ↔ (ws.map Prod.fst).Nodup := by
  unfold List.Nodup
  rw [List.pairwise_iff_getElem]
  constructor
  · intro h i j hi hj hij heq
    have hi' : i < ws.length := by rw [List.length_map] at hi; exact hi
    have hj' : j < ws.length := by rw [List.length_map] at hj; exact hj
    rw [List.getElem_map, List.getElem_map] at heq
    have h9 := h i j ws[i] ws[j] (List.getElem?_eq_getElem hi') (List.getElem?_eq_getElem hj') heq
    omega
  · intro h i j p q hi hj hpq
    obtain ⟨li, ei⟩ := List.getElem?_eq_some_iff.mp hi
    obtain ⟨lj, ej⟩ := List.getElem?_eq_some_iff.mp hj
    have li' : i < (ws.map Prod.fst).length := by rw [List.length_map]; exact li
    have lj' : j < (ws.map Prod.fst).length := by rw [List.length_map]; exact lj
    have h1 : (ws.map Prod.fst)[i] = (ws.map Prod.fst)[j] := by rw [List.getElem_map, List.getElem_map, ei, ej]; exact hpq
    rcases Nat.lt_trichotomy i j with hl | hl | hl
    · exact absurd h1 (h i j li' lj' hl)
    · exact hl
    · exact absurd h1.symm (h j i lj' li' hl)
theorem vP_mem {D : va_G} {cl : List vw_C} {ws : va_W} {H : Heap} : va_P D cl ws H ↔ ∀ q, q ∈ ws → va_at D cl q H := ⟨fun h q hq => by
  obtain ⟨i, hi⟩ := List.getElem?_of_mem hq
  exact h i q hi, fun h k q hk => h q (List.mem_of_getElem? hk)⟩
theorem vA_mem {A : Nat → Prop} {ws : va_W} : (∀ (k : Nat) (q : Nat × va_E), ws[k]? = some q → A q.1) ↔ ∀ q, q ∈ ws → A q.1 := ⟨fun h q hq => by
  obtain ⟨i, hi⟩ := List.getElem?_of_mem hq
  exact h i q hi, fun h k q hk => h q (List.mem_of_getElem? hk)⟩
section MW
variable {D : va_G} {cl : List vw_C} {A B : Nat → Prop} {P P' C C1 : mP} {H H1 : Heap} {a : Nat} {e x : va_E}
theorem mw.at (h : mw D cl A P H) (he : P a e) : va_at D cl (a, e) H := by
  obtain ⟨ws, h1, h2, h3⟩ := h
  exact vP_mem.mp h1 _ ((h3 a e).mp he)
theorem mw.lt (h : mw D cl A P H) (he : P a e) : a < H.size := (h.at he).lt
theorem mw.inA (h : mw D cl A P H) (he : P a e) : A a := by
  obtain ⟨ws, h1, h2, h3⟩ := h
  exact vA_mem.mp h2.2 _ ((h3 a e).mp he)
theorem mw.fn (h : mw D cl A P H) (he : P a e) (hx : P a x) : e = x := by
  obtain ⟨ws, h1, h2, h3⟩ := h
  obtain ⟨i, hi⟩ := List.getElem?_of_mem ((h3 a e).mp he)
  obtain ⟨j, hj⟩ := List.getElem?_of_mem ((h3 a x).mp hx)
  have hij := h2.1 i j _ _ hi hj rfl
  subst hij
  rw [hi] at hj
  cases hj
  rfl
theorem mw.one (h : mw D cl A P H) (he : P a e) : va_P D cl [(a, e)] H := vP_mem.mpr fun q hq => by
  rw [List.mem_singleton.mp hq]
  exact h.at he
theorem mw.sub (h : mw D cl A P H) (hs : ∀ q e, P' q e → P q e) : mw D cl A P' H := by
  classical
  obtain ⟨ws, h1, h2, h3⟩ := h
  refine ⟨ws.filter (fun q => decide (P' q.1 q.2)), vP_mem.mpr fun q hq => vP_mem.mp h1 q (List.mem_filter.mp hq).1, ⟨vD_nd.mpr ?_, vA_mem.mpr fun q hq => vA_mem.mp h2.2 q (List.mem_filter.mp hq).1⟩, fun q e => ?_⟩
  · exact List.Nodup.sublist (List.Sublist.map _ List.filter_sublist) (vD_nd.mp h2.1)
  · rw [List.mem_filter]
    exact ⟨fun hp => ⟨(h3 q e).mp (hs q e hp), decide_eq_true hp⟩, fun hp => of_decide_eq_true hp.2⟩
theorem mw.weak (h : mw D cl A P H) (hB : ∀ q e, P q e → A q → B q) : mw D cl B P H := by
  obtain ⟨ws, h1, h2, h3⟩ := h
  exact ⟨ws, h1, ⟨h2.1, vA_mem.mpr fun q hq => hB q.1 q.2 ((h3 q.1 q.2).mpr hq) (vA_mem.mp h2.2 q hq)⟩, h3⟩
theorem mw.self (sz : Nat) (h : mw D cl A P H) : mw D cl (mA P sz) P H := h.weak fun _ e hp _ => Or.inl ⟨e, hp⟩
theorem mw.kept (h : mw D cl A P H) (hq : ∀ q e, P q e → H1[q]? = H[q]?) : mw D cl A P H1 := by
  obtain ⟨ws, h1, h2, h3⟩ := h
  exact ⟨ws, vP_mem.mpr fun q hm => (vP_mem.mp h1 q hm).kept (hq q.1 q.2 ((h3 q.1 q.2).mpr hm)), h2, h3⟩
/-- a cell taken out, to be changed by a row of the kit -/
theorem mw.cut (h : mw D cl A P H) (he : P a e) : ∃ (ws : va_W) (k : Nat), va_P D cl ws H ∧ va_D A ws ∧ ws[k]? = some (a, e) ∧ (∀ (q : Nat) (y : va_E), P q y → ∃ j : Nat, ws[j]? = some (q, y)) ∧ ∀ (y : va_E) (H1 : Heap), va_P D cl (ws.set k (a, y)) H1 → va_D A (ws.set k (a, y)) → mw D cl A (mset P a y) H1 := by
  obtain ⟨ws, h1, h2, h3⟩ := h
  obtain ⟨k, hk⟩ := List.getElem?_of_mem ((h3 a e).mp he)
  refine ⟨ws, k, h1, h2, hk, fun q x hq => List.getElem?_of_mem ((h3 q x).mp hq), fun x H1 g1 g2 => ⟨_, g1, g2, fun q y => ?_⟩⟩
  have hl := (List.getElem?_eq_some_iff.mp hk).1
  constructor
  · rintro (⟨rfl, rfl⟩ | ⟨hq, hp⟩)
    · exact List.mem_of_getElem? (i := k) (List.getElem?_set_self hl)
    · obtain ⟨j, hj⟩ := List.getElem?_of_mem ((h3 q y).mp hp)
      have hjk : k ≠ j := by
        rintro rfl
        rw [hk] at hj
        cases hj
        exact hq rfl
      exact List.mem_of_getElem? (i := j) (by rw [List.getElem?_set_ne hjk]; exact hj)
  · intro hm
    obtain ⟨j, hj⟩ := List.getElem?_of_mem hm
    by_cases hjk : k = j
    · subst hjk
      rw [List.getElem?_set_self hl] at hj
      cases hj
      exact Or.inl ⟨rfl, rfl⟩
    · rw [List.getElem?_set_ne hjk] at hj
      exact Or.inr ⟨fun hq => hjk (h2.1 k j _ _ hk hj hq.symm), (h3 q y).mpr (List.mem_of_getElem? hj)⟩
/-- a new cell -/
theorem mw.push (h : mw D cl A P H) : ∃ ws : va_W, va_P D cl ws H ∧ va_D A ws ∧ (∀ (q : Nat) (y : va_E), P q y → ∃ j : Nat, ws[j]? = some (q, y)) ∧ ∀ (b : Nat) (y : va_E) (H1 : Heap), va_P D cl (ws ++ [(b, y)]) H1 → va_D A (ws ++ [(b, y)]) → mw D cl A (madd P b y) H1 ∧ ∀ q z, P q z → q ≠ b := by
  obtain ⟨ws, h1, h2, h3⟩ := h
  refine ⟨ws, h1, h2, fun q x hq => List.getElem?_of_mem ((h3 q x).mp hq), fun b y H1 g1 g2 => ⟨⟨_, g1, g2, fun q z => ?_⟩, fun q z hz hq => ?_⟩⟩
  · rw [List.mem_append, List.mem_singleton]
    exact or_congr (h3 q z) ⟨fun h => by rw [h.1, h.2], fun h => by cases h; exact ⟨rfl, rfl⟩⟩
  · obtain ⟨j, hj⟩ := List.getElem?_of_mem ((h3 q z).mp hz)
    have hl := (List.getElem?_eq_some_iff.mp hj).1
    have h9 := g2.1 j ws.length (q, z) (b, y) (by rw [List.getElem?_append_left hl]; exact hj) (by rw [List.getElem?_append_right (Nat.le_refl _), Nat.sub_self]; rfl) hq
    omega
/-- behind a call: the callee's world as it is now, and what is the caller's alone -/
theorem mw.join {C : mP} (h : mw D cl A P H) (hC : ∀ q e, C q e → P q e) (hk : ∀ q : Nat, q < H.size → ¬ mA C H.size q → H1[q]? = H[q]?) (hF : ∀ q, mA C H.size q → A q) (h1 : mw D cl (mA C H.size) C1 H1) (hs : ∀ q e, P' q e → C1 q e ∨ (P q e ∧ ∀ y, ¬ C q y)) : mw D cl A P' H1 := by
  classical
  have h0 : mw D cl A (fun q e => P q e ∧ ∀ y, ¬ C q y) H1 := (h.sub (P' := fun q e => P q e ∧ ∀ y, ¬ C q y) (fun _ _ hp => hp.1)).kept fun q e hp => hk q (h.lt hp.1) (by
    rintro (⟨y, hy⟩ | hy)
    · exact hp.2 y hy
    · exact absurd (h.lt hp.1) (by omega))
  have hlt : ∀ q e, (P q e ∧ ∀ y, ¬ C q y) → q < H.size := fun q e hp => h.lt hp.1
  obtain ⟨w0, a1, a2, a3⟩ := h0
  obtain ⟨w1, b1, b2, b3⟩ := h1
  refine mw.sub (P := fun q e => (q, e) ∈ w0 ++ w1) ⟨w0 ++ w1, va_P.app a1 b1, va_D.app a2 (b2.weaken fun _ _ _ hq => hF _ hq) ?_, fun _ _ => Iff.rfl⟩ ?_
  · intro i j p q hp hq hpq
    have h5 := (a3 p.1 p.2).mpr (List.mem_of_getElem? hp)
    have h6 := b2.2 j q hq
    rw [← hpq] at h6
    rcases h6 with ⟨y, hy⟩ | hy
    · exact h5.2 y hy
    · exact absurd (hlt p.1 p.2 h5) (by omega)
  · intro q e hp
    rcases hs q e hp with hc | hc
    · exact List.mem_append.mpr (Or.inr ((b3 q e).mp hc))
    · exact List.mem_append.mpr (Or.inl ((a3 q e).mp hc))
end MW
section MPRE
variable {dC : Nat → ClassId} {dI : Nat → Nat → Nat} {cy : Nat → ClassId}
def mPre (dC : Nat → ClassId) (dI : Nat → Nat → Nat) (cy : Nat → ClassId) (P : mP) (sz : Nat) (U : State) : Prop := U.heap.size = sz ∧ mw (dC, dI) vwCl (fun _ => True) P U.heap ∧ va_K (dC, dI) vwCl (tp_ty cy) U ∧ tp_E U
theorem m_blind {av : List Value} {P : mP} {sz : Nat} : FrameBlind (va_Pc av (mPre dC dI cy P sz)) := fun a U g mk h => by
  obtain ⟨h0, h1, h2, h3, h4⟩ := h
  exact ⟨h0, h1, h2, va_K.moved (u := U) (U := U.calling g mk a) (Vm.Alike.refl U.vm) h3, tp_E.same (u := U) (U := U.calling g mk a) rfl h4⟩
theorem m_pay {A : Nat → Prop} {P C : mP} {s : State} {H : Heap} (hK : va_K (dC, dI) vwCl (tp_ty cy) s) (hP : mw (dC, dI) vwCl A P H) (hE : tp_E s) (hC : ∀ q e, C q e → P q e) (U : State) (hU : U.heap = H) (hW : s.WarmedH U.vm) : mPre dC dI cy C H.size U := by
  subst hU
  exact ⟨rfl, (hP.sub hC).weak (fun _ _ _ _ => trivial), va_K.moved hW.alike hK, tp_E.warm hW hE⟩
theorem m_free {A : Nat → Prop} {P C : mP} {H0 H : Heap} {locs : List Loc} (hP : mw (dC, dI) vwCl A P H) (hS : va_S A H0 H locs) (hA : ∀ q, H0.size ≤ q → A q) (hC : ∀ q e, C q e → P q e) : ∀ q, mA C H.size q → A q := by
  rintro q (⟨y, hy⟩ | hy)
  · exact hP.inA (hC q y hy)
  · exact hA q (Nat.le_trans hS.1 hy)
end MPRE
end
section
/-! a Traffic's cells: families of places, numbers in each place -/
abbrev St : Type := Nat → Nat → Nat → Int32
def S2 (a : St) (f i : Nat) (x : Nat → Int32) : St := fun g j => if g = f ∧ j = i then x else a g j
theorem S2_eq {a : St} {f i : Nat} {x : Nat → Int32} : S2 a f i x f i = x := by simp [S2]
theorem S2_nf {a : St} {f i g j : Nat} {x : Nat → Int32} (h : g ≠ f) : S2 a f i x g j = a g j := by simp [S2, h]
theorem S2_ni {a : St} {f i g j : Nat} {x : Nat → Int32} (h : j ≠ i) : S2 a f i x g j = a g j := by simp [S2, h]
theorem S2_id {a : St} {f i : Nat} : S2 a f i (a f i) = a := by
  funext g j
  by_cases h : g = f ∧ j = i
  · obtain ⟨rfl, rfl⟩ := h
    exact S2_eq
  · simp [S2, h]
theorem S2_S2 {a : St} {f i : Nat} {x y : Nat → Int32} : S2 (S2 a f i x) f i y = S2 a f i y := by
  funext g j
  by_cases h : g = f ∧ j = i <;> simp [S2, h]
abbrev Lay : Type := Nat → Nat → Nat
/-- how many places a family has -/
def nF (f : Nat) : Nat := match f with
  | 0 => 1 | 1 => 1 | 2 => 24 | 3 => 24 | 4 => 24 | 5 => 24 | 6 => 24 | 7 => 24 | 8 => 12 | 9 => 12 | 10 => 12 | 11 => 12 | 12 => 12 | 13 => 12 | 14 => 10 | 15 => 200 | 16 => 200 | 17 => 12
  | 20 => 1 | 21 => 1 | 22 => 1 | 23 => 1 | 24 => 1 | 25 => 1 | _ => 0
def LI (L : Lay) : Prop := ∀ f i g j, i < nF f → j < nF g → L f i = L g j → f = g ∧ i = j
/-- what is reckoned of the ways: for which nodes, and the rows -/
abbrev Kap : Type := Int32 × (Nat → Nat → Int32)
/-- the trails: the array of rows, its rows' places, how long each is, the words -/
abbrev Tau : Type := Nat × (Nat → Nat) × (Nat → Nat) × (Nat → Nat → Int64)
def ct (cy : Nat → ClassId) (L : Lay) (tr : Option Nat) (κ : Kap) (f i : Nat) (x : Nat → Int32) : va_E := match f with
  | 0 => .inr (5, [.ref (L 1 0), .ref (L 20 0), .ref (L 21 0), .ref (L 22 0), .ref (L 23 0), va_rf tr, .int (x 0), .int (x 1), .int (x 2), .int (x 3), .int (x 4), .int (x 5)])
  | 1 => .inr (2, [.ref (L 24 0), .int (x 0), .ref (L 25 0), .int κ.1])
  | 2 => .inr (1, [.int (x 0), .int (x 1), .int (x 2), .int (x 3), .int (x 4), .int (x 5), .int (x 6), .int (x 7), .int (x 8), .ref (L 3 i), .ref (L 5 i), .int (x 9), .int (x 10), .int (x 11), .int (x 12), .ref (L 7 i)])
  | 3 => .inr (3, [.ref (L 4 i), .int (x 0)])
  | 4 => .inl (cy 0, 30, .inl x)
  | 5 => .inr (3, [.ref (L 6 i), .int (x 0)])
  | 6 => .inl (cy 0, 30, .inl x)
  | 7 => .inl (cy 0, 24, .inl x)
  | 8 => .inr (4, [.ref (L 9 i), .ref (L 10 i), .ref (L 11 i), .int (x 0), .int (x 1), .int (x 2)])
  | 9 => .inl (cy 0, 4, .inl x)
  | 10 => .inl (cy 0, 4, .inl x)
  | 11 => .inl (cy 0, 4, .inl x)
  | 12 => .inr (3, [.ref (L 13 i), .int (x 0)])
  | 13 => .inl (cy 0, 200, .inl x)
  | 14 => .inr (0, [.int (x 0), .int (x 1), .int (x 2), .int (x 3), .int (x 4), .int (x 5), .int (x 6), .int (x 7), .int (x 8), .int (x 9), .int (x 10), .int (x 11)])
  | 15 => .inr (7, [.int (x 0), .int (x 1), .int (x 2), .int (x 3), .int (x 4), .int (x 5), .int (x 6), .int (x 7), .int (x 8), .int (x 9), .int (x 10), .int (x 11), .ref (L 16 i)])
  | 16 => .inl (cy 0, 11, .inl x)
  | 17 => .inl (cy 0, 12, .inl (κ.2 i))
  | 20 => .inl (cy 4, 12, .inr (.inr (.inr (.inr (fun j => some (L 8 j))))))
  | 21 => .inl (cy 5, 12, .inr (.inr (.inr (.inr (fun j => some (L 12 j))))))
  | 22 => .inl (cy 6, 10, .inr (.inr (.inr (.inr (fun j => some (L 14 j))))))
  | 23 => .inl (cy 7, 200, .inr (.inr (.inr (.inr (fun j => some (L 15 j))))))
  | 24 => .inl (cy 3, 24, .inr (.inr (.inr (.inr (fun j => some (L 2 j))))))
  | _ => .inl (cy 8, 12, .inr (.inr (.inr (.inr (fun j => some (L 17 j))))))
def trw (cy : Nat → ClassId) (tr : Option Nat) (τ : Tau) : mP := fun q e => ∃ t, tr = some t ∧ ((q = t ∧ e = .inr (6, [.ref τ.1])) ∨ (q = τ.1 ∧ e = .inl (cy 9, 200, .inr (.inr (.inr (.inr (fun v => some (τ.2.1 v))))))) ∨ ∃ v, v < 200 ∧ q = τ.2.1 v ∧ e = .inl (cy 1, τ.2.2.1 v, .inr (.inl (τ.2.2.2 v))))
def TW (cy : Nat → ClassId) (L : Lay) (tr : Option Nat) (a : St) (κ : Kap) (τ : Tau) : mP := fun q e => (∃ f i, i < nF f ∧ q = L f i ∧ e = ct cy L tr κ f i (a f i)) ∨ trw cy tr τ q e
/-- all places apart -/
def TL (L : Lay) (tr : Option Nat) (τ : Tau) : Prop := LI L ∧ ∀ t, tr = some t → (∀ f i, i < nF f → L f i ≠ t ∧ L f i ≠ τ.1 ∧ ∀ v, v < 200 → L f i ≠ τ.2.1 v) ∧ t ≠ τ.1 ∧ (∀ v, v < 200 → τ.2.1 v ≠ t ∧ τ.2.1 v ≠ τ.1) ∧ ∀ u v, u < 200 → v < 200 → τ.2.1 u = τ.2.1 v → u = v
section TWS
variable {cy : Nat → ClassId} {L : Lay} {tr : Option Nat} {a b : St} {κ κ' : Kap} {τ τ' : Tau} {f i : Nat} {x : Nat → Int32}
theorem tw_mem (hi : i < nF f) (hx : a f i = x) : TW cy L tr a κ τ (L f i) (ct cy L tr κ f i x) := Or.inl ⟨f, i, hi, rfl, by rw [hx]⟩
theorem tw_off (hT : TL L tr τ) (hi : i < nF f) {q : Nat} {e : va_E} (h : trw cy tr τ q e) : q ≠ L f i := by
  obtain ⟨t, ht, h⟩ := h
  obtain ⟨h1, -, -, -⟩ := hT.2 t ht
  obtain ⟨g1, g2, g3⟩ := h1 f i hi
  rcases h with ⟨rfl, -⟩ | ⟨rfl, -⟩ | ⟨v, hv, rfl, -⟩
  · exact g1.symm
  · exact g2.symm
  · exact (g3 v hv).symm
/-- one cell's numbers changed -/
theorem tw_set (hT : TL L tr τ) (hi : i < nF f) (h9 : f ≠ 1 ∧ f ≠ 17) (hb : b = S2 a f i x) : ∀ q e, TW cy L tr b κ τ q e → mset (TW cy L tr a κ τ) (L f i) (ct cy L tr κ f i x) q e := by
  subst hb
  rintro q e (⟨g, j, hj, rfl, rfl⟩ | h)
  · by_cases hh : g = f ∧ j = i
    · obtain ⟨rfl, rfl⟩ := hh
      exact Or.inl ⟨rfl, by rw [S2_eq]⟩
    · exact Or.inr ⟨fun hq => hh (hT.1 g j f i hj hi hq), Or.inl ⟨g, j, hj, rfl, by simp [S2, hh]⟩⟩
  · exact Or.inr ⟨tw_off hT hi h, Or.inr h⟩
/-- the links' number, and for which nodes ways are reckoned -/
theorem tw_set1 (hT : TL L tr τ) {r : Int32} (hb : b = S2 a 1 0 x) (hκ : κ' = (r, κ.2)) : ∀ q e, TW cy L tr b κ' τ q e → mset (TW cy L tr a κ τ) (L 1 0) (ct cy L tr κ' 1 0 x) q e := by
  subst hb
  subst hκ
  rintro q e (⟨g, j, hj, rfl, rfl⟩ | h)
  · by_cases hh : g = 1 ∧ j = 0
    · obtain ⟨rfl, rfl⟩ := hh
      exact Or.inl ⟨rfl, by rw [S2_eq]⟩
    · refine Or.inr ⟨fun hq => hh (hT.1 g j 1 0 hj (by decide) hq), Or.inl ⟨g, j, hj, rfl, ?_⟩⟩
      have h1 : g ≠ 1 := fun h => hh ⟨h, by subst h; have : nF 1 = 1 := rfl; omega⟩
      rw [S2_nf h1]
      unfold ct
      split <;> first | rfl | exact absurd rfl h1
  · exact Or.inr ⟨tw_off hT (by decide) h, Or.inr h⟩
/-- a row of costs -/
theorem tw_set17 (hT : TL L tr τ) (hi : i < 12) {z : Nat → Int32} (hκ : κ' = (κ.1, fun j => if j = i then z else κ.2 j)) : ∀ q e, TW cy L tr a κ' τ q e → mset (TW cy L tr a κ τ) (L 17 i) (.inl (cy 0, 12, .inl z)) q e := by
  subst hκ
  rintro q e (⟨g, j, hj, rfl, rfl⟩ | h)
  · by_cases hh : g = 17 ∧ j = i
    · obtain ⟨rfl, rfl⟩ := hh
      exact Or.inl ⟨rfl, by simp [ct]⟩
    · refine Or.inr ⟨fun hq => hh (hT.1 g j 17 i hj hi hq), Or.inl ⟨g, j, hj, rfl, ?_⟩⟩
      by_cases h1 : g = 17
      · subst h1
        have h2 : j ≠ i := fun h => hh ⟨rfl, h⟩
        simp [ct, h2]
      · unfold ct
        split <;> first | rfl | exact absurd rfl h1
  · exact Or.inr ⟨tw_off hT (by exact hi) h, Or.inr h⟩
/-- a world with the same places: what a caller may be given back -/
theorem tw_dom (hi : i < nF f) : ∃ e, TW cy L tr a κ τ (L f i) e := ⟨_, tw_mem hi rfl⟩
end TWS
end
section
/-! what the leaves' methods do, in numbers -/
theorem m_cl {v : Int32} {j n : Nat} (h : v = nI j) (hj : j < n) (hn : n < 2 ^ 31) : v.toNatClampNeg = j := by
  subst h
  exact nI_clamp (by omega)
theorem m_in {v : Int32} {j n : Nat} (h : v = nI j) (hj : j < n) (hn : n < 2 ^ 31) : vp_in v n := by
  subst h
  exact vp_in_nI hj hn
theorem m_nI {v : Int32} (h : ¬ v < 0) : v = nI v.toNatClampNeg := by
  obtain ⟨j, hj, rfl⟩ := nI_of h
  rw [nI_clamp hj]
theorem m_i0 {v : Int32} : ¬ v < 0 ↔ 0 ≤ v.toInt := by
  rw [Int32.not_lt, Int32.le_iff_toInt_le]
  exact Iff.rfl
theorem m_n0 {v : Int32} (h : 0 ≤ v.toInt) : v = nI v.toNatClampNeg := m_nI (m_i0.mpr h)
theorem m_tn {v : Int32} (h : 0 ≤ v.toInt) : (v.toNatClampNeg : Int) = v.toInt := by
  show ((v.toInt.toNat : Nat) : Int) = v.toInt
  omega
theorem m_lt {v w : Int32} {n : Nat} (h0 : ¬ v < 0) (h : ¬ w ≤ v) (hw : w.toInt ≤ n) : v.toNatClampNeg < n := by
  have h1 := m_tn (m_i0.mp h0)
  have h2 : v.toInt < w.toInt := Int32.lt_iff_toInt_lt.mp (Int32.not_le.mp h)
  omega
theorem m_ltI {v : Int32} {n : Nat} (h0 : 0 ≤ v.toInt) (h : v.toInt < n) : v.toNatClampNeg < n := by
  have h1 := m_tn h0
  omega
theorem m_le0 {v : Int32} (h : ¬ v ≤ 0) : 0 < v.toInt := by
  have h1 := Int32.lt_iff_toInt_lt.mp (Int32.not_le.mp h)
  exact h1
theorem m_ge {v : Int32} {c : Int32} (h : ¬ c ≤ v) : v.toInt < c.toInt := Int32.lt_iff_toInt_lt.mp (Int32.not_le.mp h)
theorem m_pred {v : Int32} (h : ¬ v ≤ 0) : (v - 1).toInt = v.toInt - 1 := by
  have h1 := m_le0 h
  have h2 : v.toInt < 2 ^ 31 := v.toInt_lt
  rw [Int32.toInt_sub, Int.bmod_eq_of_le] <;> simp <;> omega
theorem m_pred0 {v : Int32} (h : ¬ v ≤ 0) : ¬ v - 1 < 0 := m_i0.mpr (by rw [m_pred h]; have := m_le0 h; omega)
theorem m_d1 {v : Int32} {n : Nat} (h : ¬ v ≤ 0) (hs : v.toInt ≤ n) : (1 : Int32).toNatClampNeg + (v - 1).toNatClampNeg ≤ n := by
  have h1 := m_pred h
  have h2 := m_tn (v := v - 1) (m_i0.mp (m_pred0 h))
  have h3 : (1 : Int32).toNatClampNeg = 1 := rfl
  omega
theorem m_d0 {v : Int32} {n : Nat} (h : ¬ v ≤ 0) (hs : v.toInt ≤ n) : (0 : Int32).toNatClampNeg + (v - 1).toNatClampNeg ≤ n := by
  have h1 := m_d1 h hs
  have h3 : (1 : Int32).toNatClampNeg = 1 := rfl
  have h4 : (0 : Int32).toNatClampNeg = 0 := rfl
  omega
theorem m_ne0 {v : Int32} (h : ¬ v ≤ 0) : ¬ v = 0 := fun h9 => h (by rw [h9]; exact Int32.le_refl 0)
theorem m_ge1 {v : Int32} (h : 1 ≤ v) : ¬ v = 0 := fun h9 => by
  rw [h9] at h
  exact absurd h (by decide)
section MROWS
variable {p : Program} {l : Launch} {e : Env} {R : Room} {s : State} {m : MethodId} {args : Array Value} {below : List Frame} {meth : Method} {c : Code} {H : Heap} {locs : List Loc} {cells slots : Nat} {Q : State → Prop}
variable {cc : ByteArray} {pc : Nat} {ls : Array Slot} {rest : List Value} {D : va_G} {cl : List vw_C} {A : Nat → Prop} {a : Nat} {tys : List (ClassId × FieldType)} {ws : va_W} {H0 : Heap}
/-- a row out of an array of arrays -/
theorem m_aldA (hexec : p.tables.exec = Jvm.exec) (hb : c.code = cc) (hK : va_K D cl tys s) (hP : va_P D cl ws H) (q0 t0 : Nat) {cA : ClassId} {ty : FieldType} {n : Nat} {f : Nat → Option Nat} (ha : ws[q0]? = some (a, .inl (cA, n, .inr (.inr (.inr (.inr f)))))) (ht : tys[t0]? = some (cA, .array ty)) {i : Int32} (hin : vp_in i n) (hdg : decode cc pc = .ok (.aaload, 1))
    (kk : W p l e R s m args below meth c H locs cells slots Q (F0 m (pc + 1) ls (va_rf (f i.toNatClampNeg) :: rest))) : W p l e R s m args below meth c H locs cells slots Q (F0 m pc ls (.int i :: .ref a :: rest)) := by
  have hlt : i.toNatClampNeg < n := Nat.not_le.mp fun q => hin (Or.inr q)
  exact W.aald (v := va_rf (f i.toNatClampNeg)) (ty := .array ty) hexec hb (hP q0 _ ha) ((hK.2 t0 _ ht).1 n (fun j => va_rf (f j))) rfl (fun q => by cases q) (by show ¬ (i < 0 ∨ (arrV _ _ _).slots.size ≤ _); rw [arrV_size]; exact hin) (by show (arrV _ _ _).slots[_]? = _; rw [arrV_read _ _ hlt]) rfl rfl hdg kk
end MROWS
/-- Row: get, append, dropFirst; f the family of the Row objects, g that of their arrays, c their length -/
def R_get (n : Int32) (g : Nat → Int32) (p : Int32) : Int32 := if p < 0 then -1 else if n ≤ p then -1 else g p.toNatClampNeg
def R_app (f g : Nat) (c : Int32) (a : St) (i : Nat) (v : Int32) : St := if c ≤ a f i 0 then a else S2 (S2 a g i (upd (a g i) (a f i 0).toNatClampNeg v)) f i (upd (a f i) 0 (a f i 0 + 1))
def R_drop (f g : Nat) (a : St) (i : Nat) : St := if a f i 0 ≤ 0 then a else S2 (S2 a f i (upd (a f i) 0 (a f i 0 - 1))) g i (va_cpy (a g i) (a g i) 1 0 (a f i 0 - 1).toNatClampNeg)
theorem R_app_off {f g : Nat} {c : Int32} {a : St} {i : Nat} {v : Int32} {h j : Nat} (h1 : h ≠ f) (h2 : h ≠ g) : R_app f g c a i v h j = a h j := by
  unfold R_app
  split
  · rfl
  · rw [S2_nf h1, S2_nf h2]
theorem R_drop_off {f g : Nat} {a : St} {i : Nat} {h j : Nat} (h1 : h ≠ f) (h2 : h ≠ g) : R_drop f g a i h j = a h j := by
  unfold R_drop
  split
  · rfl
  · rw [S2_nf h2, S2_nf h1]
/-- Link -/
def X_slow (x : Nat → Int32) : Nat → Int32 := if x 6 ≤ 0 then (if x 6 = 0 then upd (upd x 6 (-1)) 5 (x 4) else x) else upd x 6 (x 6 - 1)
def L_slow (a : St) (i : Nat) : St := S2 a 2 i (X_slow (a 2 i))
def L_has (a : St) (i : Nat) (t : Int32) : Int32 := if a 5 i 0 ≤ 0 then 0 else if t < R_get (a 5 i 0) (a 6 i) 0 then 0 else 1
def Q_in (g : Nat → Int32) (t : Int32) : Nat → Nat → Nat
  | 0, k => k
  | n + 1, k => if t < g k then k else Q_in g t n (k + 1)
def L_q (a : St) (i : Nat) (t : Int32) : Int32 := nI (Q_in (a 6 i) t (a 5 i 0).toNatClampNeg 0)
def L_cost (a : St) (i : Nat) (t : Int32) : Int32 := a 2 i 2 + (if a 2 i 5 ≤ 0 then 10 * L_q a i t else (L_q a i t + a 2 i 5 - 1) / a 2 i 5)
def L_open (a : St) (i : Nat) : Int32 := if a 2 i 7 = 0 then (if a 2 i 3 ≤ a 3 i 0 then 0 else 1) else 0
def L_came (b : St) (i : Nat) : St := S2 b 2 i (upd (b 2 i) 9 (b 2 i 9 + 1))
def L_take (a : St) (i : Nat) (v e : Int32) : St := L_came (R_app 5 6 30 (R_app 3 4 30 a i v) i e) i
def L_left (b : St) (i : Nat) : St := S2 b 2 i (upd (b 2 i) 10 (b 2 i 10 + 1))
def L_go (a : St) (i : Nat) : St := L_left (R_drop 5 6 (R_drop 3 4 a i) i) i
def L_turn (a : St) (i : Nat) (n : Int32) : St := if n < 0 then a else if 24 ≤ n then a else S2 a 7 i (upd (a 7 i) n.toNatClampNeg (a 7 i n.toNatClampNeg + 1))
def X_cq (x : Nat → Int32) (q : Int32) : Nat → Int32 := upd (upd x 11 (if x 11 < q then q else x 11)) 12 (x 12 + q)
def L_cq (a : St) (i : Nat) (t : Int32) : St := S2 a 2 i (X_cq (a 2 i) (L_q a i t))
/-- Signal -/
def S_on (x : Nat → Int32) : Int32 := if x 1 < 0 then 0 else if x 0 ≤ x 1 then 0 else 1
def S_links (a : St) (n : Nat) : Int32 := if S_on (a 8 n) = 0 then 0 else a 9 n (a 8 n 1).toNatClampNeg
def S_green (a : St) (n : Nat) (k : Int32) : Int32 := if a 8 n 0 = 0 then 1 else if (S_links a n >>> (k &&& 31)) &&& 1 = 1 then 1 else 0
def X_next (x : Nat → Int32) : Nat → Int32 := upd (upd x 1 (if x 0 ≤ x 1 + 1 then 0 else x 1 + 1)) 2 1
def S_next (b : St) (n : Nat) : St := S2 b 8 n (X_next (b 8 n))
def S_tick (a : St) (n : Nat) : St := S2 a 8 n (upd (a 8 n) 2 (a 8 n 2 + 1))
def S_play1 (b : St) (n : Nat) (h : Int32) : St := if S_on (b 8 n) = 0 then S_next b n else if b 11 n (b 8 n 1).toNatClampNeg < b 8 n 2 then S_next b n else if b 8 n 2 ≤ b 10 n (b 8 n 1).toNatClampNeg then b else if h = 0 then S_next b n else b
def S_play (a : St) (n : Nat) (h : Int32) : St := S_play1 (S_tick a n) n h
def S_app (a : St) (n : Nat) (x y z : Int32) : St := S2 (S2 (S2 (S2 a 9 n (upd (a 9 n) (a 8 n 0).toNatClampNeg x)) 10 n (upd (a 10 n) (a 8 n 0).toNatClampNeg y)) 11 n (upd (a 11 n) (a 8 n 0).toNatClampNeg z)) 8 n (upd (a 8 n) 0 (a 8 n 0 + 1))
theorem S_on_in {x : Nat → Int32} (h : ¬ S_on x = 0) : ¬ x 1 < 0 ∧ ¬ x 0 ≤ x 1 := by
  unfold S_on at h
  by_cases h1 : x 1 < 0
  · rw [if_pos h1] at h
    exact absurd rfl h
  · rw [if_neg h1] at h
    by_cases h2 : x 0 ≤ x 1
    · rw [if_pos h2] at h
      exact absurd rfl h
    · exact ⟨h1, h2⟩
/-- Flow -/
def F_tell (a : St) (f : Nat) (fr to k st pe mo : Int32) : St := S2 a 14 f (upd (upd (upd (upd (upd (upd (a 14 f) 0 fr) 1 to) 2 k) 3 st) 4 pe) 5 mo)
def F_brings (x : Nat → Int32) (t : Int32) : Int32 := if t < x 3 then 0 else if 1 ≤ x 4 then (if (t - x 3) - (t - x 3) / x 4 * x 4 = 0 then (if x 5 ≤ (t - x 3) / x 4 then 0 else 1) else 0) else 0
def X_trip (x : Nat → Int32) (t d : Int32) : Nat → Int32 := upd (upd (upd (upd x 7 (x 7 + 1)) 9 (x 9 + t)) 10 (x 10 + d)) 11 (if x 11 < t then t else x 11)
def F_trip (a : St) (f : Nat) (t d : Int32) : St := S2 a 14 f (X_trip (a 14 f) t d)
/-- Vehicle -/
def X_come (x : Nat → Int32) (fl to k t : Int32) : Nat → Int32 := upd (upd (upd (upd (upd (upd (upd (upd (upd (upd (upd (upd x 0 fl) 1 to) 2 k) 3 0) 4 t) 5 (-1)) 6 (-1)) 7 0) 8 0) 9 (-1)) 10 (-1)) 11 0
def V_come (a : St) (v : Nat) (fl to k t : Int32) : St := S2 a 15 v (X_come (a 15 v) fl to k t)
def V_plan (a : St) (v : Nat) (nx : Int32) : St := if 11 ≤ a 15 v 11 then a else S2 (S2 a 16 v (upd (a 16 v) (a 15 v 11).toNatClampNeg nx)) 15 v (upd (a 15 v) 11 (a 15 v 11 + 1))
def V_next (a : St) (v : Nat) : Int32 := if a 15 v 7 < 0 then -1 else if a 15 v 11 ≤ a 15 v 7 then -1 else a 16 v (a 15 v 7).toNatClampNeg
def X_onto (x : Nat → Int32) (nx tm t : Int32) : Nat → Int32 := upd (upd (upd (upd (upd x 3 1) 5 nx) 6 (t + tm)) 7 (x 7 + 1)) 8 (x 8 + tm)
def V_onto (a : St) (v : Nat) (nx tm t : Int32) : St := S2 a 15 v (X_onto (a 15 v) nx tm t)
def X_arr (x : Nat → Int32) (t : Int32) : Nat → Int32 := upd (upd (upd (upd (upd x 3 2) 5 (-1)) 6 (-1)) 9 (t - x 4)) 10 (t - x 4 - x 8)
def V_arr (a : St) (v : Nat) (t : Int32) : St := S2 a 15 v (X_arr (a 15 v) t)
end
section
theorem tw_615 : Cond.fieldLink RX3 21 "Turnpike$Row" "size" "I" ∈ tp_all := tp_mem 615 (by decide +kernel) rfl
theorem tw_614 : Cond.fieldLink RX3 15 "Turnpike$Row" "number" "[I" ∈ tp_all := tp_mem 614 (by decide +kernel) rfl
theorem tw_355 : Cond.methodLink RX3 25 ⟨"java/lang/System", "arraycopy", "(Ljava/lang/Object;ILjava/lang/Object;II)V"⟩ ∈ tp_all := tp_mem 355 (by decide +kernel) rfl
theorem tw_342 : Cond.native ⟨"java/lang/System", "arraycopy", "(Ljava/lang/Object;ILjava/lang/Object;II)V"⟩ ∈ tp_all := tp_mem 342 (by decide +kernel) rfl
theorem tw_341 : Cond.static ⟨"java/lang/System", "arraycopy", "(Ljava/lang/Object;ILjava/lang/Object;II)V"⟩ ∈ tp_all := tp_mem 341 (by decide +kernel) rfl
theorem tw_36 : Cond.initialized RJ10 ∈ tp_all := tp_mem 36 (by decide +kernel) rfl
theorem dX3_get_0 : decode cX3_get 0 = .ok (.iload_n 1, 1) := by decide +kernel
theorem dX3_get_1 : decode cX3_get 1 = .ok (.ifCond .lt 20, 3) := by decide +kernel
theorem dX3_get_21 : decode cX3_get 21 = .ok (.iconst (-1), 1) := by decide +kernel
theorem dX3_get_22 : decode cX3_get 22 = .ok (.ireturn, 1) := by decide +kernel
theorem dX3_get_4 : decode cX3_get 4 = .ok (.iload_n 1, 1) := by decide +kernel
theorem dX3_get_5 : decode cX3_get 5 = .ok (.aload_n 0, 1) := by decide +kernel
theorem dX3_get_6 : decode cX3_get 6 = .ok (.getfield 21, 3) := by decide +kernel
theorem dX3_get_9 : decode cX3_get 9 = .ok (.if_icmp .ge 12, 3) := by decide +kernel
theorem dX3_get_12 : decode cX3_get 12 = .ok (.aload_n 0, 1) := by decide +kernel
theorem dX3_get_13 : decode cX3_get 13 = .ok (.getfield 15, 3) := by decide +kernel
theorem dX3_get_16 : decode cX3_get 16 = .ok (.iload_n 1, 1) := by decide +kernel
theorem dX3_get_17 : decode cX3_get 17 = .ok (.iaload, 1) := by decide +kernel
theorem dX3_get_18 : decode cX3_get 18 = .ok (.goto 4, 3) := by decide +kernel
theorem dX3_append_0 : decode cX3_append 0 = .ok (.aload_n 0, 1) := by decide +kernel
theorem dX3_append_1 : decode cX3_append 1 = .ok (.getfield 21, 3) := by decide +kernel
theorem dX3_append_4 : decode cX3_append 4 = .ok (.aload_n 0, 1) := by decide +kernel
theorem dX3_append_5 : decode cX3_append 5 = .ok (.getfield 15, 3) := by decide +kernel
theorem dX3_append_8 : decode cX3_append 8 = .ok (.arraylength, 1) := by decide +kernel
theorem dX3_append_9 : decode cX3_append 9 = .ok (.if_icmp .ge 23, 3) := by decide +kernel
theorem dX3_append_32 : decode cX3_append 32 = .ok (.return_, 1) := by decide +kernel
theorem dX3_append_12 : decode cX3_append 12 = .ok (.aload_n 0, 1) := by decide +kernel
theorem dX3_append_13 : decode cX3_append 13 = .ok (.getfield 15, 3) := by decide +kernel
theorem dX3_append_16 : decode cX3_append 16 = .ok (.aload_n 0, 1) := by decide +kernel
theorem dX3_append_17 : decode cX3_append 17 = .ok (.getfield 21, 3) := by decide +kernel
theorem dX3_append_20 : decode cX3_append 20 = .ok (.iload_n 1, 1) := by decide +kernel
theorem dX3_append_21 : decode cX3_append 21 = .ok (.iastore, 1) := by decide +kernel
theorem dX3_append_22 : decode cX3_append 22 = .ok (.aload_n 0, 1) := by decide +kernel
theorem dX3_append_23 : decode cX3_append 23 = .ok (.dup, 1) := by decide +kernel
theorem dX3_append_24 : decode cX3_append 24 = .ok (.getfield 21, 3) := by decide +kernel
theorem dX3_append_27 : decode cX3_append 27 = .ok (.iconst 1, 1) := by decide +kernel
theorem dX3_append_28 : decode cX3_append 28 = .ok (.iadd, 1) := by decide +kernel
theorem dX3_append_29 : decode cX3_append 29 = .ok (.putfield 21, 3) := by decide +kernel
theorem dX3_dropFirst_0 : decode cX3_dropFirst 0 = .ok (.aload_n 0, 1) := by decide +kernel
theorem dX3_dropFirst_1 : decode cX3_dropFirst 1 = .ok (.getfield 21, 3) := by decide +kernel
theorem dX3_dropFirst_4 : decode cX3_dropFirst 4 = .ok (.ifCond .le 30, 3) := by decide +kernel
theorem dX3_dropFirst_34 : decode cX3_dropFirst 34 = .ok (.return_, 1) := by decide +kernel
theorem dX3_dropFirst_7 : decode cX3_dropFirst 7 = .ok (.aload_n 0, 1) := by decide +kernel
theorem dX3_dropFirst_8 : decode cX3_dropFirst 8 = .ok (.dup, 1) := by decide +kernel
theorem dX3_dropFirst_9 : decode cX3_dropFirst 9 = .ok (.getfield 21, 3) := by decide +kernel
theorem dX3_dropFirst_12 : decode cX3_dropFirst 12 = .ok (.iconst 1, 1) := by decide +kernel
theorem dX3_dropFirst_13 : decode cX3_dropFirst 13 = .ok (.isub, 1) := by decide +kernel
theorem dX3_dropFirst_14 : decode cX3_dropFirst 14 = .ok (.putfield 21, 3) := by decide +kernel
theorem dX3_dropFirst_17 : decode cX3_dropFirst 17 = .ok (.aload_n 0, 1) := by decide +kernel
theorem dX3_dropFirst_18 : decode cX3_dropFirst 18 = .ok (.getfield 15, 3) := by decide +kernel
theorem dX3_dropFirst_21 : decode cX3_dropFirst 21 = .ok (.iconst 1, 1) := by decide +kernel
theorem dX3_dropFirst_22 : decode cX3_dropFirst 22 = .ok (.aload_n 0, 1) := by decide +kernel
theorem dX3_dropFirst_23 : decode cX3_dropFirst 23 = .ok (.getfield 15, 3) := by decide +kernel
theorem dX3_dropFirst_26 : decode cX3_dropFirst 26 = .ok (.iconst 0, 1) := by decide +kernel
theorem dX3_dropFirst_27 : decode cX3_dropFirst 27 = .ok (.aload_n 0, 1) := by decide +kernel
theorem dX3_dropFirst_28 : decode cX3_dropFirst 28 = .ok (.getfield 21, 3) := by decide +kernel
theorem dX3_dropFirst_31 : decode cX3_dropFirst 31 = .ok (.invokestatic 25, 3) := by decide +kernel
set_option maxRecDepth 100000 in
set_option maxHeartbeats 4000000 in
/-- Row.get, row -/
theorem c_Row_get_row (l : Launch) (dC : Nat → ClassId) (dI : Nat → Nat → Nat) (cy : Nat → ClassId) (L : Lay) (tr : Option Nat) (a : St) (κ : Kap) (τ : Tau) (i : Nat) (n : Int32) (sz : Nat) (hT : TL L tr τ) (hi : i < 24) (hs : (a 3 i 0).toInt ≤ 30) : Met l yX3_get (tp_w yX3_get cX3_get 2 (some .int)) ({ frames := 0, cells := 0, slots := 0, locals := 0 }) (va_Pc [.ref (L 3 i), .int n] (mPre dC dI cy (TW cy L tr a κ τ) sz)) (va_Qi (fun (r u : Int32) => r = u) (fun (u : Int32) (t : State) => (u = R_get (a 3 i 0) (a 4 i) n) ∧ mw (dC, dI) vwCl (mA (TW cy L tr a κ τ) sz) (TW cy L tr a κ τ) t.heap) (mA (TW cy L tr a κ τ) sz)) (0) (0) (mA (TW cy L tr a κ τ) sz) := by
  refine Met.ofW (cc := cX3_get) (maxL := 2) (ret := (some .int)) (by decide) rfl ?_
  intro p e s m args below meth c s₁ B hml hv
  obtain ⟨rfl, hsz, hP, hK, hE⟩ := hv
  have hx := B.exec
  have hb := B.bytes
  have hr := B.returns
  have hts0 := atoms_spec (ws := tp_w yX3_get cX3_get 2 (some .int)) B.pre
  have hts : ∀ w ∈ tp_all, w.before _ s = true := fun w h => hts0 w (List.mem_cons_of_mem _ h)
  have hown : s.vm.findClass RX3 = some m.cls := findClass_of_methodNamed B.named
  have hlocks := B.notSynchronized
  subst hsz
  have hP := hP.self s.heap.size
  generalize hAe : mA (TW cy L tr a κ τ) s.heap.size = A at hP ⊢
  have hA : ∀ q : Nat, s.heap.size ≤ q → A q := fun q h => by rw [← hAe]; exact Or.inr h
  have hS : va_S A s.heap s.heap [] := va_S.rf
  have hl9 := lv_entry ([.ref (L 3 i), .int n]) (n := 2) (Nat.le_of_ble_eq_true rfl)
  rw [lg_entry_eq]
  generalize (lg_sl ([.ref (L 3 i), .int n]) ++ List.replicate (2 - (lg_sl ([.ref (L 3 i), .int n])).length) Slot.unset).toArray = ls at hl9 ⊢
  have hl : lv_has ls 2 [(0, .ref (L 3 i)), (1, .int n)] := hl9
  refine lv_iload_n hx hb dX3_get_0 rfl (lv_at hl 1 rfl) ?_
  refine lv_if_lt (tgt := 21) hx hb dX3_get_1 (by decide) (fun c_1 => ?_) (fun c_1 => ?_)
  · refine lv_iconst (v := -1) hx hb dX3_get_21 (by decide) ?_
    refine W.widen (k := 0) (n := 0) (Nat.le_of_ble_eq_true rfl) (Nat.le_of_ble_eq_true rfl) ?_
    have g_1 : ((-1)) = R_get (a 3 i 0) (a 4 i) n := by
      first | rfl | assumption | (simp only [R_get, if_pos c_1])
    exact W.iret (v := (-1)) hx hb hr (fun t ht hW => ⟨⟨((-1)), ((-1)), rfl, rfl, ⟨g_1, by show mw _ _ _ _ t.heap; rw [ht]; exact hP⟩⟩, hS.F ht⟩) hS.2.2 dX3_get_22
  · refine lv_iload_n hx hb dX3_get_4 rfl (lv_at hl 1 rfl) ?_
    refine lv_aload_n hx hb dX3_get_5 rfl (lv_at hl 0 rfl) ?_
    refine va_get (D := (dC, dI)) (ws := [(L 3 i, .inr (3, [.ref (L 4 i), .int ((a 3 i) 0)]))]) (ci := 3) (v := .int ((a 3 i) 0)) (C := RX3) (T := TX3) (N := 2) hx hb hts tl_X3 hown hK (hP.one (tw_mem (f := 3) (i := i) hi rfl)) 0 rfl rfl 1 (by decide) (hts _ tw_615) (fun _ h9 => h9) rfl dX3_get_6 ?_
    refine lv_icmp_ge (tgt := 21) hx hb dX3_get_9 (by decide) (fun c_2 => ?_) (fun c_2 => ?_)
    · refine lv_iconst (v := -1) hx hb dX3_get_21 (by decide) ?_
      refine W.widen (k := 0) (n := 0) (Nat.le_of_ble_eq_true rfl) (Nat.le_of_ble_eq_true rfl) ?_
      have g_2 : ((-1)) = R_get (a 3 i 0) (a 4 i) n := by
        first | rfl | assumption | (simp only [R_get, if_neg c_1, if_pos c_2])
      exact W.iret (v := (-1)) hx hb hr (fun t ht hW => ⟨⟨((-1)), ((-1)), rfl, rfl, ⟨g_2, by show mw _ _ _ _ t.heap; rw [ht]; exact hP⟩⟩, hS.F ht⟩) hS.2.2 dX3_get_22
    · refine lv_aload_n hx hb dX3_get_12 rfl (lv_at hl 0 rfl) ?_
      refine va_get (D := (dC, dI)) (ws := [(L 3 i, .inr (3, [.ref (L 4 i), .int ((a 3 i) 0)]))]) (ci := 3) (v := .ref (L 4 i)) (C := RX3) (T := TX3) (N := 2) hx hb hts tl_X3 hown hK (hP.one (tw_mem (f := 3) (i := i) hi rfl)) 0 rfl rfl 0 (by decide) (hts _ tw_614) (fun _ h9 => h9) rfl dX3_get_13 ?_
      refine lv_iload_n hx hb dX3_get_16 rfl (lv_at hl 1 rfl) ?_
      have j_1 : (n : Int32).toNatClampNeg = n.toNatClampNeg := m_cl (m_nI c_1) (m_lt c_1 c_2 hs) (by decide)
      refine va_iald hx hb hK (ws := [(L 4 i, .inl (cy 0, 30, .inl (a 4 i)))]) (hP.one (tw_mem (f := 4) (i := i) hi rfl)) 0 0 rfl rfl (m_in (m_nI c_1) (m_lt c_1 c_2 hs) (by decide)) dX3_get_17 ?_
      refine W.eq (g2 := F0 m 18 ls [.int ((a 4 i) n.toNatClampNeg)]) (by first | (rw [j_1]; done) | (rw [j_1]; rfl)) ?_
      refine lv_goto (tgt := 22) hx hb dX3_get_18 (by decide) ?_
      refine W.widen (k := 0) (n := 0) (Nat.le_of_ble_eq_true rfl) (Nat.le_of_ble_eq_true rfl) ?_
      have g_3 : ((a 4 i) n.toNatClampNeg) = R_get (a 3 i 0) (a 4 i) n := by
        first | rfl | assumption | (simp only [R_get, if_neg c_1, if_neg c_2])
      exact W.iret (v := (a 4 i) n.toNatClampNeg) hx hb hr (fun t ht hW => ⟨⟨((a 4 i) n.toNatClampNeg), ((a 4 i) n.toNatClampNeg), rfl, rfl, ⟨g_3, by show mw _ _ _ _ t.heap; rw [ht]; exact hP⟩⟩, hS.F ht⟩) hS.2.2 dX3_get_22
set_option maxRecDepth 100000 in
set_option maxHeartbeats 4000000 in
/-- Row.append, row -/
theorem c_Row_append_row (l : Launch) (dC : Nat → ClassId) (dI : Nat → Nat → Nat) (cy : Nat → ClassId) (L : Lay) (tr : Option Nat) (a : St) (κ : Kap) (τ : Tau) (i : Nat) (v : Int32) (sz : Nat) (hT : TL L tr τ) (hi : i < 24) (hs : 0 ≤ (a 3 i 0).toInt) : Met l yX3_append (tp_w yX3_append cX3_append 2 none) ({ frames := 0, cells := 0, slots := 0, locals := 0 }) (va_Pc [.ref (L 3 i), .int v] (mPre dC dI cy (TW cy L tr a κ τ) sz)) (va_Qv (fun _ : Unit => True) (fun (_ : Unit) (t : State) => mw (dC, dI) vwCl (mA (TW cy L tr a κ τ) sz) (TW cy L tr (R_app 3 4 30 a i v) κ τ) t.heap) (mA (TW cy L tr a κ τ) sz)) (0) (0) (mA (TW cy L tr a κ τ) sz) := by
  refine Met.ofW (cc := cX3_append) (maxL := 2) (ret := none) (by decide) rfl ?_
  intro p e s m args below meth c s₁ B hml hv
  obtain ⟨rfl, hsz, hP, hK, hE⟩ := hv
  have hx := B.exec
  have hb := B.bytes
  have hr := B.returns
  have hts0 := atoms_spec (ws := tp_w yX3_append cX3_append 2 none) B.pre
  have hts : ∀ w ∈ tp_all, w.before _ s = true := fun w h => hts0 w (List.mem_cons_of_mem _ h)
  have hown : s.vm.findClass RX3 = some m.cls := findClass_of_methodNamed B.named
  have hlocks := B.notSynchronized
  subst hsz
  have hP := hP.self s.heap.size
  generalize hAe : mA (TW cy L tr a κ τ) s.heap.size = A at hP ⊢
  have hA : ∀ q : Nat, s.heap.size ≤ q → A q := fun q h => by rw [← hAe]; exact Or.inr h
  have hS : va_S A s.heap s.heap [] := va_S.rf
  have hl9 := lv_entry ([.ref (L 3 i), .int v]) (n := 2) (Nat.le_of_ble_eq_true rfl)
  rw [lg_entry_eq]
  generalize (lg_sl ([.ref (L 3 i), .int v]) ++ List.replicate (2 - (lg_sl ([.ref (L 3 i), .int v])).length) Slot.unset).toArray = ls at hl9 ⊢
  have hl : lv_has ls 2 [(0, .ref (L 3 i)), (1, .int v)] := hl9
  refine lv_aload_n hx hb dX3_append_0 rfl (lv_at hl 0 rfl) ?_
  refine va_get (D := (dC, dI)) (ws := [(L 3 i, .inr (3, [.ref (L 4 i), .int ((a 3 i) 0)]))]) (ci := 3) (v := .int ((a 3 i) 0)) (C := RX3) (T := TX3) (N := 2) hx hb hts tl_X3 hown hK (hP.one (tw_mem (f := 3) (i := i) hi rfl)) 0 rfl rfl 1 (by decide) (hts _ tw_615) (fun _ h9 => h9) rfl dX3_append_1 ?_
  refine lv_aload_n hx hb dX3_append_4 rfl (lv_at hl 0 rfl) ?_
  refine va_get (D := (dC, dI)) (ws := [(L 3 i, .inr (3, [.ref (L 4 i), .int ((a 3 i) 0)]))]) (ci := 3) (v := .ref (L 4 i)) (C := RX3) (T := TX3) (N := 2) hx hb hts tl_X3 hown hK (hP.one (tw_mem (f := 3) (i := i) hi rfl)) 0 rfl rfl 0 (by decide) (hts _ tw_614) (fun _ h9 => h9) rfl dX3_append_5 ?_
  refine va_alen hx hb hK (ws := [(L 4 i, .inl (cy 0, 30, .inl (a 4 i)))]) (hP.one (tw_mem (f := 4) (i := i) hi rfl)) 0 0 rfl rfl (v := 30) rfl dX3_append_8 ?_
  refine lv_icmp_ge (tgt := 32) hx hb dX3_append_9 (by decide) (fun c_1 => ?_) (fun c_1 => ?_)
  · refine W.widen (k := 0) (n := 0) (Nat.le_of_ble_eq_true rfl) (Nat.le_of_ble_eq_true rfl) ?_
    have s_1 : a = R_app 3 4 30 a i v := by
      first | rfl | (simp only [R_app, if_pos c_1])
    rw [s_1] at hP
    exact W.vret hx hb hr (fun t ht hW => ⟨⟨(), rfl, trivial, (by show mw _ _ _ _ t.heap; rw [ht]; exact hP)⟩, hS.F ht⟩) hS.2.2 dX3_append_32
  · refine lv_aload_n hx hb dX3_append_12 rfl (lv_at hl 0 rfl) ?_
    refine va_get (D := (dC, dI)) (ws := [(L 3 i, .inr (3, [.ref (L 4 i), .int ((a 3 i) 0)]))]) (ci := 3) (v := .ref (L 4 i)) (C := RX3) (T := TX3) (N := 2) hx hb hts tl_X3 hown hK (hP.one (tw_mem (f := 3) (i := i) hi rfl)) 0 rfl rfl 0 (by decide) (hts _ tw_614) (fun _ h9 => h9) rfl dX3_append_13 ?_
    refine lv_aload_n hx hb dX3_append_16 rfl (lv_at hl 0 rfl) ?_
    refine va_get (D := (dC, dI)) (ws := [(L 3 i, .inr (3, [.ref (L 4 i), .int ((a 3 i) 0)]))]) (ci := 3) (v := .int ((a 3 i) 0)) (C := RX3) (T := TX3) (N := 2) hx hb hts tl_X3 hown hK (hP.one (tw_mem (f := 3) (i := i) hi rfl)) 0 rfl rfl 1 (by decide) (hts _ tw_615) (fun _ h9 => h9) rfl dX3_append_17 ?_
    refine lv_iload_n hx hb dX3_append_20 rfl (lv_at hl 1 rfl) ?_
    have j_1 : ((a 3 i) 0 : Int32).toNatClampNeg = (a 3 i 0).toNatClampNeg := m_cl (m_n0 hs) (m_ltI hs (m_ge c_1)) (by decide)
    obtain ⟨ws9, k9, hPw, hDw, hk9, -, hbk⟩ := hP.cut (e := .inl (cy 0, 30, .inl (a 4 i))) (tw_mem (f := 4) (i := i) hi rfl)
    refine va_iast hx hb hK hPw hDw hS k9 0 hk9 rfl (m_in (m_n0 hs) (m_ltI hs (m_ge c_1)) (by decide)) dX3_append_21 (fun H locs hPw hDw hS => ?_)
    rw [j_1] at hPw hDw
    have hP : mw (dC, dI) vwCl A (TW cy L tr (S2 a 4 i (upd (a 4 i) ((a 3 i 0).toNatClampNeg) v)) κ τ) H := (hbk _ _ hPw hDw).sub (tw_set (b := S2 a 4 i (upd (a 4 i) ((a 3 i 0).toNatClampNeg) v)) (f := 4) (i := i) (x := upd (a 4 i) ((a 3 i 0).toNatClampNeg) v) hT hi (by decide) rfl)
    clear hbk hPw hDw hk9
    refine lv_aload_n hx hb dX3_append_22 rfl (lv_at hl 0 rfl) ?_
    refine lv_dup hx hb dX3_append_23 rfl ?_
    refine va_get (D := (dC, dI)) (ws := [(L 3 i, .inr (3, [.ref (L 4 i), .int ((a 3 i) 0)]))]) (ci := 3) (v := .int ((a 3 i) 0)) (C := RX3) (T := TX3) (N := 2) hx hb hts tl_X3 hown hK (hP.one (tw_mem (f := 3) (i := i) hi (S2_nf (by decide)))) 0 rfl rfl 1 (by decide) (hts _ tw_615) (fun _ h9 => h9) rfl dX3_append_24 ?_
    refine lv_iconst (v := 1) hx hb dX3_append_27 (by decide) ?_
    refine lv_iadd hx hb dX3_append_28 ?_
    obtain ⟨ws9, k9, hPw, hDw, hk9, -, hbk⟩ := hP.cut (e := .inr (3, [.ref (L 4 i), .int ((a 3 i) 0)])) (tw_mem (f := 3) (i := i) hi (S2_nf (by decide)))
    refine va_put (D := (dC, dI)) (ci := 3) (v := .int (((a 3 i) 0) + 1)) (ty := .int) (C := RX3) (T := TX3) (N := 2) hx hb hts tl_X3 tyX3 tyX3_ok nmX3 hown hK hPw hDw hS k9 hk9 rfl 1 (by decide) (hts _ tw_615) (fun _ h9 => h9) rfl (by decide +kernel) rfl rfl (Nat.le_of_ble_eq_true rfl) dX3_append_29 (fun H locs hPw hDw hS => ?_)
    have hP : mw (dC, dI) vwCl A (TW cy L tr (S2 (S2 a 4 i (upd (a 4 i) ((a 3 i 0).toNatClampNeg) v)) 3 i (upd (a 3 i) 0 (((a 3 i) 0) + 1))) κ τ) H := (hbk _ _ hPw hDw).sub (tw_set (b := S2 (S2 a 4 i (upd (a 4 i) ((a 3 i 0).toNatClampNeg) v)) 3 i (upd (a 3 i) 0 (((a 3 i) 0) + 1))) (f := 3) (i := i) (x := upd (a 3 i) 0 (((a 3 i) 0) + 1)) hT hi (by decide) rfl)
    clear hbk hPw hDw hk9
    refine W.widen (k := 0) (n := 0) (Nat.le_of_ble_eq_true rfl) (Nat.le_of_ble_eq_true rfl) ?_
    have s_2 : S2 (S2 a 4 i (upd (a 4 i) ((a 3 i 0).toNatClampNeg) v)) 3 i (upd (a 3 i) 0 (((a 3 i) 0) + 1)) = R_app 3 4 30 a i v := by
      first | rfl | (simp only [R_app, if_neg c_1])
    rw [s_2] at hP
    exact W.vret hx hb hr (fun t ht hW => ⟨⟨(), rfl, trivial, (by show mw _ _ _ _ t.heap; rw [ht]; exact hP)⟩, hS.F ht⟩) hS.2.2 dX3_append_32
set_option maxRecDepth 100000 in
set_option maxHeartbeats 4000000 in
/-- Row.dropFirst, row -/
theorem c_Row_dropFirst_row (l : Launch) (dC : Nat → ClassId) (dI : Nat → Nat → Nat) (cy : Nat → ClassId) (L : Lay) (tr : Option Nat) (a : St) (κ : Kap) (τ : Tau) (i : Nat) (sz : Nat) (hT : TL L tr τ) (hi : i < 24) (hs : (a 3 i 0).toInt ≤ 30) : Met l yX3_dropFirst (tp_w yX3_dropFirst cX3_dropFirst 1 none) ({ frames := 1, cells := 0, slots := 0, locals := 18 }) (va_Pc [.ref (L 3 i)] (mPre dC dI cy (TW cy L tr a κ τ) sz)) (va_Qv (fun _ : Unit => True) (fun (_ : Unit) (t : State) => mw (dC, dI) vwCl (mA (TW cy L tr a κ τ) sz) (TW cy L tr (R_drop 3 4 a i) κ τ) t.heap) (mA (TW cy L tr a κ τ) sz)) (0) (0) (mA (TW cy L tr a κ τ) sz) := by
  refine Met.ofW (cc := cX3_dropFirst) (maxL := 1) (ret := none) (by decide) rfl ?_
  intro p e s m args below meth c s₁ B hml hv
  obtain ⟨rfl, hsz, hP, hK, hE⟩ := hv
  have hx := B.exec
  have hb := B.bytes
  have hr := B.returns
  have hts0 := atoms_spec (ws := tp_w yX3_dropFirst cX3_dropFirst 1 none) B.pre
  have hts : ∀ w ∈ tp_all, w.before _ s = true := fun w h => hts0 w (List.mem_cons_of_mem _ h)
  have hown : s.vm.findClass RX3 = some m.cls := findClass_of_methodNamed B.named
  have hlocks := B.notSynchronized
  subst hsz
  have hP := hP.self s.heap.size
  generalize hAe : mA (TW cy L tr a κ τ) s.heap.size = A at hP ⊢
  have hA : ∀ q : Nat, s.heap.size ≤ q → A q := fun q h => by rw [← hAe]; exact Or.inr h
  have hS : va_S A s.heap s.heap [] := va_S.rf
  have hl9 := lv_entry ([.ref (L 3 i)]) (n := 1) (Nat.le_of_ble_eq_true rfl)
  rw [lg_entry_eq]
  generalize (lg_sl ([.ref (L 3 i)]) ++ List.replicate (1 - (lg_sl ([.ref (L 3 i)])).length) Slot.unset).toArray = ls at hl9 ⊢
  have hl : lv_has ls 1 [(0, .ref (L 3 i))] := hl9
  refine lv_aload_n hx hb dX3_dropFirst_0 rfl (lv_at hl 0 rfl) ?_
  refine va_get (D := (dC, dI)) (ws := [(L 3 i, .inr (3, [.ref (L 4 i), .int ((a 3 i) 0)]))]) (ci := 3) (v := .int ((a 3 i) 0)) (C := RX3) (T := TX3) (N := 2) hx hb hts tl_X3 hown hK (hP.one (tw_mem (f := 3) (i := i) hi rfl)) 0 rfl rfl 1 (by decide) (hts _ tw_615) (fun _ h9 => h9) rfl dX3_dropFirst_1 ?_
  refine lv_if_le (tgt := 34) hx hb dX3_dropFirst_4 (by decide) (fun c_1 => ?_) (fun c_1 => ?_)
  · refine W.widen (k := 0) (n := 0) (Nat.le_of_ble_eq_true rfl) (Nat.le_of_ble_eq_true rfl) ?_
    have s_1 : a = R_drop 3 4 a i := by
      first | rfl | (simp only [R_drop, if_pos c_1])
    rw [s_1] at hP
    exact W.vret hx hb hr (fun t ht hW => ⟨⟨(), rfl, trivial, (by show mw _ _ _ _ t.heap; rw [ht]; exact hP)⟩, hS.F ht⟩) hS.2.2 dX3_dropFirst_34
  · refine lv_aload_n hx hb dX3_dropFirst_7 rfl (lv_at hl 0 rfl) ?_
    refine lv_dup hx hb dX3_dropFirst_8 rfl ?_
    refine va_get (D := (dC, dI)) (ws := [(L 3 i, .inr (3, [.ref (L 4 i), .int ((a 3 i) 0)]))]) (ci := 3) (v := .int ((a 3 i) 0)) (C := RX3) (T := TX3) (N := 2) hx hb hts tl_X3 hown hK (hP.one (tw_mem (f := 3) (i := i) hi rfl)) 0 rfl rfl 1 (by decide) (hts _ tw_615) (fun _ h9 => h9) rfl dX3_dropFirst_9 ?_
    refine lv_iconst (v := 1) hx hb dX3_dropFirst_12 (by decide) ?_
    refine lv_isub hx hb dX3_dropFirst_13 ?_
    obtain ⟨ws9, k9, hPw, hDw, hk9, -, hbk⟩ := hP.cut (e := .inr (3, [.ref (L 4 i), .int ((a 3 i) 0)])) (tw_mem (f := 3) (i := i) hi rfl)
    refine va_put (D := (dC, dI)) (ci := 3) (v := .int (((a 3 i) 0) - 1)) (ty := .int) (C := RX3) (T := TX3) (N := 2) hx hb hts tl_X3 tyX3 tyX3_ok nmX3 hown hK hPw hDw hS k9 hk9 rfl 1 (by decide) (hts _ tw_615) (fun _ h9 => h9) rfl (by decide +kernel) rfl rfl (Nat.le_of_ble_eq_true rfl) dX3_dropFirst_14 (fun H locs hPw hDw hS => ?_)
    have hP : mw (dC, dI) vwCl A (TW cy L tr (S2 a 3 i (upd (a 3 i) 0 (((a 3 i) 0) - 1))) κ τ) H := (hbk _ _ hPw hDw).sub (tw_set (b := S2 a 3 i (upd (a 3 i) 0 (((a 3 i) 0) - 1))) (f := 3) (i := i) (x := upd (a 3 i) 0 (((a 3 i) 0) - 1)) hT hi (by decide) rfl)
    clear hbk hPw hDw hk9
    refine lv_aload_n hx hb dX3_dropFirst_17 rfl (lv_at hl 0 rfl) ?_
    refine va_get (D := (dC, dI)) (ws := [(L 3 i, .inr (3, [.ref (L 4 i), .int (((a 3 i) 0) - 1)]))]) (ci := 3) (v := .ref (L 4 i)) (C := RX3) (T := TX3) (N := 2) hx hb hts tl_X3 hown hK (hP.one (tw_mem (f := 3) (i := i) hi S2_eq)) 0 rfl rfl 0 (by decide) (hts _ tw_614) (fun _ h9 => h9) rfl dX3_dropFirst_18 ?_
    refine lv_iconst (v := 1) hx hb dX3_dropFirst_21 (by decide) ?_
    refine lv_aload_n hx hb dX3_dropFirst_22 rfl (lv_at hl 0 rfl) ?_
    refine va_get (D := (dC, dI)) (ws := [(L 3 i, .inr (3, [.ref (L 4 i), .int (((a 3 i) 0) - 1)]))]) (ci := 3) (v := .ref (L 4 i)) (C := RX3) (T := TX3) (N := 2) hx hb hts tl_X3 hown hK (hP.one (tw_mem (f := 3) (i := i) hi S2_eq)) 0 rfl rfl 0 (by decide) (hts _ tw_614) (fun _ h9 => h9) rfl dX3_dropFirst_23 ?_
    refine lv_iconst (v := 0) hx hb dX3_dropFirst_26 (by decide) ?_
    refine lv_aload_n hx hb dX3_dropFirst_27 rfl (lv_at hl 0 rfl) ?_
    refine va_get (D := (dC, dI)) (ws := [(L 3 i, .inr (3, [.ref (L 4 i), .int (((a 3 i) 0) - 1)]))]) (ci := 3) (v := .int (((a 3 i) 0) - 1)) (C := RX3) (T := TX3) (N := 2) hx hb hts tl_X3 hown hK (hP.one (tw_mem (f := 3) (i := i) hi S2_eq)) 0 rfl rfl 1 (by decide) (hts _ tw_615) (fun _ h9 => h9) rfl dX3_dropFirst_28 ?_
    obtain ⟨ws9, k9, hPw, hDw, hk9, hin9, hbk⟩ := hP.cut (e := .inl (cy 0, 30, .inl (a 4 i))) (tw_mem (f := 4) (i := i) hi (S2_nf (by decide)))
    obtain ⟨k8, hk8⟩ := hin9 _ (.inl (cy 0, 30, .inl (a 4 i))) (tw_mem (f := 4) (i := i) hi (S2_nf (by decide)))
    refine va_copyi hx hb (hml.trans hl.1.symm) hown (hts _ tw_355) (hts _ tw_342) (hts _ tw_341) (hts _ tw_36) hK hPw hDw hS k8 k9 0 0 hk8 hk9 rfl rfl rfl (by decide) (by decide) (m_pred0 c_1) (m_d1 c_1 hs) (m_d0 c_1 hs) (fun _ _ => rfl) (Nat.le_of_ble_eq_true rfl) (Nat.le_of_ble_eq_true rfl) dX3_dropFirst_31 (fun H locs hPw hDw hS => ?_)
    rw [show (1 : Int32).toNatClampNeg = 1 from rfl, show (0 : Int32).toNatClampNeg = 0 from rfl] at hPw hDw
    have hP : mw (dC, dI) vwCl A (TW cy L tr (S2 (S2 a 3 i (upd (a 3 i) 0 (((a 3 i) 0) - 1))) 4 i (va_cpy (a 4 i) (a 4 i) 1 0 ((a 3 i 0 - 1).toNatClampNeg))) κ τ) H := (hbk _ _ hPw hDw).sub (tw_set (b := S2 (S2 a 3 i (upd (a 3 i) 0 (((a 3 i) 0) - 1))) 4 i (va_cpy (a 4 i) (a 4 i) 1 0 ((a 3 i 0 - 1).toNatClampNeg))) (f := 4) (i := i) (x := va_cpy (a 4 i) (a 4 i) 1 0 ((a 3 i 0 - 1).toNatClampNeg)) hT hi (by decide) rfl)
    clear hbk hPw hDw hk9
    refine W.widen (k := 0) (n := 0) (Nat.le_of_ble_eq_true rfl) (Nat.le_of_ble_eq_true rfl) ?_
    have s_2 : S2 (S2 a 3 i (upd (a 3 i) 0 (((a 3 i) 0) - 1))) 4 i (va_cpy (a 4 i) (a 4 i) 1 0 ((a 3 i 0 - 1).toNatClampNeg)) = R_drop 3 4 a i := by
      first | rfl | (simp only [R_drop, if_neg c_1])
    rw [s_2] at hP
    exact W.vret hx hb hr (fun t ht hW => ⟨⟨(), rfl, trivial, (by show mw _ _ _ _ t.heap; rw [ht]; exact hP)⟩, hS.F ht⟩) hS.2.2 dX3_dropFirst_34
set_option maxRecDepth 100000 in
set_option maxHeartbeats 4000000 in
/-- Row.get, ends -/
theorem c_Row_get_ends (l : Launch) (dC : Nat → ClassId) (dI : Nat → Nat → Nat) (cy : Nat → ClassId) (L : Lay) (tr : Option Nat) (a : St) (κ : Kap) (τ : Tau) (i : Nat) (n : Int32) (sz : Nat) (hT : TL L tr τ) (hi : i < 24) (hs : (a 5 i 0).toInt ≤ 30) : Met l yX3_get (tp_w yX3_get cX3_get 2 (some .int)) ({ frames := 0, cells := 0, slots := 0, locals := 0 }) (va_Pc [.ref (L 5 i), .int n] (mPre dC dI cy (TW cy L tr a κ τ) sz)) (va_Qi (fun (r u : Int32) => r = u) (fun (u : Int32) (t : State) => (u = R_get (a 5 i 0) (a 6 i) n) ∧ mw (dC, dI) vwCl (mA (TW cy L tr a κ τ) sz) (TW cy L tr a κ τ) t.heap) (mA (TW cy L tr a κ τ) sz)) (0) (0) (mA (TW cy L tr a κ τ) sz) := by
  refine Met.ofW (cc := cX3_get) (maxL := 2) (ret := (some .int)) (by decide) rfl ?_
  intro p e s m args below meth c s₁ B hml hv
  obtain ⟨rfl, hsz, hP, hK, hE⟩ := hv
  have hx := B.exec
  have hb := B.bytes
  have hr := B.returns
  have hts0 := atoms_spec (ws := tp_w yX3_get cX3_get 2 (some .int)) B.pre
  have hts : ∀ w ∈ tp_all, w.before _ s = true := fun w h => hts0 w (List.mem_cons_of_mem _ h)
  have hown : s.vm.findClass RX3 = some m.cls := findClass_of_methodNamed B.named
  have hlocks := B.notSynchronized
  subst hsz
  have hP := hP.self s.heap.size
  generalize hAe : mA (TW cy L tr a κ τ) s.heap.size = A at hP ⊢
  have hA : ∀ q : Nat, s.heap.size ≤ q → A q := fun q h => by rw [← hAe]; exact Or.inr h
  have hS : va_S A s.heap s.heap [] := va_S.rf
  have hl9 := lv_entry ([.ref (L 5 i), .int n]) (n := 2) (Nat.le_of_ble_eq_true rfl)
  rw [lg_entry_eq]
  generalize (lg_sl ([.ref (L 5 i), .int n]) ++ List.replicate (2 - (lg_sl ([.ref (L 5 i), .int n])).length) Slot.unset).toArray = ls at hl9 ⊢
  have hl : lv_has ls 2 [(0, .ref (L 5 i)), (1, .int n)] := hl9
  refine lv_iload_n hx hb dX3_get_0 rfl (lv_at hl 1 rfl) ?_
  refine lv_if_lt (tgt := 21) hx hb dX3_get_1 (by decide) (fun c_1 => ?_) (fun c_1 => ?_)
  · refine lv_iconst (v := -1) hx hb dX3_get_21 (by decide) ?_
    refine W.widen (k := 0) (n := 0) (Nat.le_of_ble_eq_true rfl) (Nat.le_of_ble_eq_true rfl) ?_
    have g_1 : ((-1)) = R_get (a 5 i 0) (a 6 i) n := by
      first | rfl | assumption | (simp only [R_get, if_pos c_1])
    exact W.iret (v := (-1)) hx hb hr (fun t ht hW => ⟨⟨((-1)), ((-1)), rfl, rfl, ⟨g_1, by show mw _ _ _ _ t.heap; rw [ht]; exact hP⟩⟩, hS.F ht⟩) hS.2.2 dX3_get_22
  · refine lv_iload_n hx hb dX3_get_4 rfl (lv_at hl 1 rfl) ?_
    refine lv_aload_n hx hb dX3_get_5 rfl (lv_at hl 0 rfl) ?_
    refine va_get (D := (dC, dI)) (ws := [(L 5 i, .inr (3, [.ref (L 6 i), .int ((a 5 i) 0)]))]) (ci := 3) (v := .int ((a 5 i) 0)) (C := RX3) (T := TX3) (N := 2) hx hb hts tl_X3 hown hK (hP.one (tw_mem (f := 5) (i := i) hi rfl)) 0 rfl rfl 1 (by decide) (hts _ tw_615) (fun _ h9 => h9) rfl dX3_get_6 ?_
    refine lv_icmp_ge (tgt := 21) hx hb dX3_get_9 (by decide) (fun c_2 => ?_) (fun c_2 => ?_)
    · refine lv_iconst (v := -1) hx hb dX3_get_21 (by decide) ?_
      refine W.widen (k := 0) (n := 0) (Nat.le_of_ble_eq_true rfl) (Nat.le_of_ble_eq_true rfl) ?_
      have g_2 : ((-1)) = R_get (a 5 i 0) (a 6 i) n := by
        first | rfl | assumption | (simp only [R_get, if_neg c_1, if_pos c_2])
      exact W.iret (v := (-1)) hx hb hr (fun t ht hW => ⟨⟨((-1)), ((-1)), rfl, rfl, ⟨g_2, by show mw _ _ _ _ t.heap; rw [ht]; exact hP⟩⟩, hS.F ht⟩) hS.2.2 dX3_get_22
    · refine lv_aload_n hx hb dX3_get_12 rfl (lv_at hl 0 rfl) ?_
      refine va_get (D := (dC, dI)) (ws := [(L 5 i, .inr (3, [.ref (L 6 i), .int ((a 5 i) 0)]))]) (ci := 3) (v := .ref (L 6 i)) (C := RX3) (T := TX3) (N := 2) hx hb hts tl_X3 hown hK (hP.one (tw_mem (f := 5) (i := i) hi rfl)) 0 rfl rfl 0 (by decide) (hts _ tw_614) (fun _ h9 => h9) rfl dX3_get_13 ?_
      refine lv_iload_n hx hb dX3_get_16 rfl (lv_at hl 1 rfl) ?_
      have j_1 : (n : Int32).toNatClampNeg = n.toNatClampNeg := m_cl (m_nI c_1) (m_lt c_1 c_2 hs) (by decide)
      refine va_iald hx hb hK (ws := [(L 6 i, .inl (cy 0, 30, .inl (a 6 i)))]) (hP.one (tw_mem (f := 6) (i := i) hi rfl)) 0 0 rfl rfl (m_in (m_nI c_1) (m_lt c_1 c_2 hs) (by decide)) dX3_get_17 ?_
      refine W.eq (g2 := F0 m 18 ls [.int ((a 6 i) n.toNatClampNeg)]) (by first | (rw [j_1]; done) | (rw [j_1]; rfl)) ?_
      refine lv_goto (tgt := 22) hx hb dX3_get_18 (by decide) ?_
      refine W.widen (k := 0) (n := 0) (Nat.le_of_ble_eq_true rfl) (Nat.le_of_ble_eq_true rfl) ?_
      have g_3 : ((a 6 i) n.toNatClampNeg) = R_get (a 5 i 0) (a 6 i) n := by
        first | rfl | assumption | (simp only [R_get, if_neg c_1, if_neg c_2])
      exact W.iret (v := (a 6 i) n.toNatClampNeg) hx hb hr (fun t ht hW => ⟨⟨((a 6 i) n.toNatClampNeg), ((a 6 i) n.toNatClampNeg), rfl, rfl, ⟨g_3, by show mw _ _ _ _ t.heap; rw [ht]; exact hP⟩⟩, hS.F ht⟩) hS.2.2 dX3_get_22
set_option maxRecDepth 100000 in
set_option maxHeartbeats 4000000 in
/-- Row.append, ends -/
theorem c_Row_append_ends (l : Launch) (dC : Nat → ClassId) (dI : Nat → Nat → Nat) (cy : Nat → ClassId) (L : Lay) (tr : Option Nat) (a : St) (κ : Kap) (τ : Tau) (i : Nat) (v : Int32) (sz : Nat) (hT : TL L tr τ) (hi : i < 24) (hs : 0 ≤ (a 5 i 0).toInt) : Met l yX3_append (tp_w yX3_append cX3_append 2 none) ({ frames := 0, cells := 0, slots := 0, locals := 0 }) (va_Pc [.ref (L 5 i), .int v] (mPre dC dI cy (TW cy L tr a κ τ) sz)) (va_Qv (fun _ : Unit => True) (fun (_ : Unit) (t : State) => mw (dC, dI) vwCl (mA (TW cy L tr a κ τ) sz) (TW cy L tr (R_app 5 6 30 a i v) κ τ) t.heap) (mA (TW cy L tr a κ τ) sz)) (0) (0) (mA (TW cy L tr a κ τ) sz) := by
  refine Met.ofW (cc := cX3_append) (maxL := 2) (ret := none) (by decide) rfl ?_
  intro p e s m args below meth c s₁ B hml hv
  obtain ⟨rfl, hsz, hP, hK, hE⟩ := hv
  have hx := B.exec
  have hb := B.bytes
  have hr := B.returns
  have hts0 := atoms_spec (ws := tp_w yX3_append cX3_append 2 none) B.pre
  have hts : ∀ w ∈ tp_all, w.before _ s = true := fun w h => hts0 w (List.mem_cons_of_mem _ h)
  have hown : s.vm.findClass RX3 = some m.cls := findClass_of_methodNamed B.named
  have hlocks := B.notSynchronized
  subst hsz
  have hP := hP.self s.heap.size
  generalize hAe : mA (TW cy L tr a κ τ) s.heap.size = A at hP ⊢
  have hA : ∀ q : Nat, s.heap.size ≤ q → A q := fun q h => by rw [← hAe]; exact Or.inr h
  have hS : va_S A s.heap s.heap [] := va_S.rf
  have hl9 := lv_entry ([.ref (L 5 i), .int v]) (n := 2) (Nat.le_of_ble_eq_true rfl)
  rw [lg_entry_eq]
  generalize (lg_sl ([.ref (L 5 i), .int v]) ++ List.replicate (2 - (lg_sl ([.ref (L 5 i), .int v])).length) Slot.unset).toArray = ls at hl9 ⊢
  have hl : lv_has ls 2 [(0, .ref (L 5 i)), (1, .int v)] := hl9
  refine lv_aload_n hx hb dX3_append_0 rfl (lv_at hl 0 rfl) ?_
  refine va_get (D := (dC, dI)) (ws := [(L 5 i, .inr (3, [.ref (L 6 i), .int ((a 5 i) 0)]))]) (ci := 3) (v := .int ((a 5 i) 0)) (C := RX3) (T := TX3) (N := 2) hx hb hts tl_X3 hown hK (hP.one (tw_mem (f := 5) (i := i) hi rfl)) 0 rfl rfl 1 (by decide) (hts _ tw_615) (fun _ h9 => h9) rfl dX3_append_1 ?_
  refine lv_aload_n hx hb dX3_append_4 rfl (lv_at hl 0 rfl) ?_
  refine va_get (D := (dC, dI)) (ws := [(L 5 i, .inr (3, [.ref (L 6 i), .int ((a 5 i) 0)]))]) (ci := 3) (v := .ref (L 6 i)) (C := RX3) (T := TX3) (N := 2) hx hb hts tl_X3 hown hK (hP.one (tw_mem (f := 5) (i := i) hi rfl)) 0 rfl rfl 0 (by decide) (hts _ tw_614) (fun _ h9 => h9) rfl dX3_append_5 ?_
  refine va_alen hx hb hK (ws := [(L 6 i, .inl (cy 0, 30, .inl (a 6 i)))]) (hP.one (tw_mem (f := 6) (i := i) hi rfl)) 0 0 rfl rfl (v := 30) rfl dX3_append_8 ?_
  refine lv_icmp_ge (tgt := 32) hx hb dX3_append_9 (by decide) (fun c_1 => ?_) (fun c_1 => ?_)
  · refine W.widen (k := 0) (n := 0) (Nat.le_of_ble_eq_true rfl) (Nat.le_of_ble_eq_true rfl) ?_
    have s_1 : a = R_app 5 6 30 a i v := by
      first | rfl | (simp only [R_app, if_pos c_1])
    rw [s_1] at hP
    exact W.vret hx hb hr (fun t ht hW => ⟨⟨(), rfl, trivial, (by show mw _ _ _ _ t.heap; rw [ht]; exact hP)⟩, hS.F ht⟩) hS.2.2 dX3_append_32
  · refine lv_aload_n hx hb dX3_append_12 rfl (lv_at hl 0 rfl) ?_
    refine va_get (D := (dC, dI)) (ws := [(L 5 i, .inr (3, [.ref (L 6 i), .int ((a 5 i) 0)]))]) (ci := 3) (v := .ref (L 6 i)) (C := RX3) (T := TX3) (N := 2) hx hb hts tl_X3 hown hK (hP.one (tw_mem (f := 5) (i := i) hi rfl)) 0 rfl rfl 0 (by decide) (hts _ tw_614) (fun _ h9 => h9) rfl dX3_append_13 ?_
    refine lv_aload_n hx hb dX3_append_16 rfl (lv_at hl 0 rfl) ?_
    refine va_get (D := (dC, dI)) (ws := [(L 5 i, .inr (3, [.ref (L 6 i), .int ((a 5 i) 0)]))]) (ci := 3) (v := .int ((a 5 i) 0)) (C := RX3) (T := TX3) (N := 2) hx hb hts tl_X3 hown hK (hP.one (tw_mem (f := 5) (i := i) hi rfl)) 0 rfl rfl 1 (by decide) (hts _ tw_615) (fun _ h9 => h9) rfl dX3_append_17 ?_
    refine lv_iload_n hx hb dX3_append_20 rfl (lv_at hl 1 rfl) ?_
    have j_1 : ((a 5 i) 0 : Int32).toNatClampNeg = (a 5 i 0).toNatClampNeg := m_cl (m_n0 hs) (m_ltI hs (m_ge c_1)) (by decide)
    obtain ⟨ws9, k9, hPw, hDw, hk9, -, hbk⟩ := hP.cut (e := .inl (cy 0, 30, .inl (a 6 i))) (tw_mem (f := 6) (i := i) hi rfl)
    refine va_iast hx hb hK hPw hDw hS k9 0 hk9 rfl (m_in (m_n0 hs) (m_ltI hs (m_ge c_1)) (by decide)) dX3_append_21 (fun H locs hPw hDw hS => ?_)
    rw [j_1] at hPw hDw
    have hP : mw (dC, dI) vwCl A (TW cy L tr (S2 a 6 i (upd (a 6 i) ((a 5 i 0).toNatClampNeg) v)) κ τ) H := (hbk _ _ hPw hDw).sub (tw_set (b := S2 a 6 i (upd (a 6 i) ((a 5 i 0).toNatClampNeg) v)) (f := 6) (i := i) (x := upd (a 6 i) ((a 5 i 0).toNatClampNeg) v) hT hi (by decide) rfl)
    clear hbk hPw hDw hk9
    refine lv_aload_n hx hb dX3_append_22 rfl (lv_at hl 0 rfl) ?_
    refine lv_dup hx hb dX3_append_23 rfl ?_
    refine va_get (D := (dC, dI)) (ws := [(L 5 i, .inr (3, [.ref (L 6 i), .int ((a 5 i) 0)]))]) (ci := 3) (v := .int ((a 5 i) 0)) (C := RX3) (T := TX3) (N := 2) hx hb hts tl_X3 hown hK (hP.one (tw_mem (f := 5) (i := i) hi (S2_nf (by decide)))) 0 rfl rfl 1 (by decide) (hts _ tw_615) (fun _ h9 => h9) rfl dX3_append_24 ?_
    refine lv_iconst (v := 1) hx hb dX3_append_27 (by decide) ?_
    refine lv_iadd hx hb dX3_append_28 ?_
    obtain ⟨ws9, k9, hPw, hDw, hk9, -, hbk⟩ := hP.cut (e := .inr (3, [.ref (L 6 i), .int ((a 5 i) 0)])) (tw_mem (f := 5) (i := i) hi (S2_nf (by decide)))
    refine va_put (D := (dC, dI)) (ci := 3) (v := .int (((a 5 i) 0) + 1)) (ty := .int) (C := RX3) (T := TX3) (N := 2) hx hb hts tl_X3 tyX3 tyX3_ok nmX3 hown hK hPw hDw hS k9 hk9 rfl 1 (by decide) (hts _ tw_615) (fun _ h9 => h9) rfl (by decide +kernel) rfl rfl (Nat.le_of_ble_eq_true rfl) dX3_append_29 (fun H locs hPw hDw hS => ?_)
    have hP : mw (dC, dI) vwCl A (TW cy L tr (S2 (S2 a 6 i (upd (a 6 i) ((a 5 i 0).toNatClampNeg) v)) 5 i (upd (a 5 i) 0 (((a 5 i) 0) + 1))) κ τ) H := (hbk _ _ hPw hDw).sub (tw_set (b := S2 (S2 a 6 i (upd (a 6 i) ((a 5 i 0).toNatClampNeg) v)) 5 i (upd (a 5 i) 0 (((a 5 i) 0) + 1))) (f := 5) (i := i) (x := upd (a 5 i) 0 (((a 5 i) 0) + 1)) hT hi (by decide) rfl)
    clear hbk hPw hDw hk9
    refine W.widen (k := 0) (n := 0) (Nat.le_of_ble_eq_true rfl) (Nat.le_of_ble_eq_true rfl) ?_
    have s_2 : S2 (S2 a 6 i (upd (a 6 i) ((a 5 i 0).toNatClampNeg) v)) 5 i (upd (a 5 i) 0 (((a 5 i) 0) + 1)) = R_app 5 6 30 a i v := by
      first | rfl | (simp only [R_app, if_neg c_1])
    rw [s_2] at hP
    exact W.vret hx hb hr (fun t ht hW => ⟨⟨(), rfl, trivial, (by show mw _ _ _ _ t.heap; rw [ht]; exact hP)⟩, hS.F ht⟩) hS.2.2 dX3_append_32
set_option maxRecDepth 100000 in
set_option maxHeartbeats 4000000 in
/-- Row.dropFirst, ends -/
theorem c_Row_dropFirst_ends (l : Launch) (dC : Nat → ClassId) (dI : Nat → Nat → Nat) (cy : Nat → ClassId) (L : Lay) (tr : Option Nat) (a : St) (κ : Kap) (τ : Tau) (i : Nat) (sz : Nat) (hT : TL L tr τ) (hi : i < 24) (hs : (a 5 i 0).toInt ≤ 30) : Met l yX3_dropFirst (tp_w yX3_dropFirst cX3_dropFirst 1 none) ({ frames := 1, cells := 0, slots := 0, locals := 18 }) (va_Pc [.ref (L 5 i)] (mPre dC dI cy (TW cy L tr a κ τ) sz)) (va_Qv (fun _ : Unit => True) (fun (_ : Unit) (t : State) => mw (dC, dI) vwCl (mA (TW cy L tr a κ τ) sz) (TW cy L tr (R_drop 5 6 a i) κ τ) t.heap) (mA (TW cy L tr a κ τ) sz)) (0) (0) (mA (TW cy L tr a κ τ) sz) := by
  refine Met.ofW (cc := cX3_dropFirst) (maxL := 1) (ret := none) (by decide) rfl ?_
  intro p e s m args below meth c s₁ B hml hv
  obtain ⟨rfl, hsz, hP, hK, hE⟩ := hv
  have hx := B.exec
  have hb := B.bytes
  have hr := B.returns
  have hts0 := atoms_spec (ws := tp_w yX3_dropFirst cX3_dropFirst 1 none) B.pre
  have hts : ∀ w ∈ tp_all, w.before _ s = true := fun w h => hts0 w (List.mem_cons_of_mem _ h)
  have hown : s.vm.findClass RX3 = some m.cls := findClass_of_methodNamed B.named
  have hlocks := B.notSynchronized
  subst hsz
  have hP := hP.self s.heap.size
  generalize hAe : mA (TW cy L tr a κ τ) s.heap.size = A at hP ⊢
  have hA : ∀ q : Nat, s.heap.size ≤ q → A q := fun q h => by rw [← hAe]; exact Or.inr h
  have hS : va_S A s.heap s.heap [] := va_S.rf
  have hl9 := lv_entry ([.ref (L 5 i)]) (n := 1) (Nat.le_of_ble_eq_true rfl)
  rw [lg_entry_eq]
  generalize (lg_sl ([.ref (L 5 i)]) ++ List.replicate (1 - (lg_sl ([.ref (L 5 i)])).length) Slot.unset).toArray = ls at hl9 ⊢
  have hl : lv_has ls 1 [(0, .ref (L 5 i))] := hl9
  refine lv_aload_n hx hb dX3_dropFirst_0 rfl (lv_at hl 0 rfl) ?_
  refine va_get (D := (dC, dI)) (ws := [(L 5 i, .inr (3, [.ref (L 6 i), .int ((a 5 i) 0)]))]) (ci := 3) (v := .int ((a 5 i) 0)) (C := RX3) (T := TX3) (N := 2) hx hb hts tl_X3 hown hK (hP.one (tw_mem (f := 5) (i := i) hi rfl)) 0 rfl rfl 1 (by decide) (hts _ tw_615) (fun _ h9 => h9) rfl dX3_dropFirst_1 ?_
  refine lv_if_le (tgt := 34) hx hb dX3_dropFirst_4 (by decide) (fun c_1 => ?_) (fun c_1 => ?_)
  · refine W.widen (k := 0) (n := 0) (Nat.le_of_ble_eq_true rfl) (Nat.le_of_ble_eq_true rfl) ?_
    have s_1 : a = R_drop 5 6 a i := by
      first | rfl | (simp only [R_drop, if_pos c_1])
    rw [s_1] at hP
    exact W.vret hx hb hr (fun t ht hW => ⟨⟨(), rfl, trivial, (by show mw _ _ _ _ t.heap; rw [ht]; exact hP)⟩, hS.F ht⟩) hS.2.2 dX3_dropFirst_34
  · refine lv_aload_n hx hb dX3_dropFirst_7 rfl (lv_at hl 0 rfl) ?_
    refine lv_dup hx hb dX3_dropFirst_8 rfl ?_
    refine va_get (D := (dC, dI)) (ws := [(L 5 i, .inr (3, [.ref (L 6 i), .int ((a 5 i) 0)]))]) (ci := 3) (v := .int ((a 5 i) 0)) (C := RX3) (T := TX3) (N := 2) hx hb hts tl_X3 hown hK (hP.one (tw_mem (f := 5) (i := i) hi rfl)) 0 rfl rfl 1 (by decide) (hts _ tw_615) (fun _ h9 => h9) rfl dX3_dropFirst_9 ?_
    refine lv_iconst (v := 1) hx hb dX3_dropFirst_12 (by decide) ?_
    refine lv_isub hx hb dX3_dropFirst_13 ?_
    obtain ⟨ws9, k9, hPw, hDw, hk9, -, hbk⟩ := hP.cut (e := .inr (3, [.ref (L 6 i), .int ((a 5 i) 0)])) (tw_mem (f := 5) (i := i) hi rfl)
    refine va_put (D := (dC, dI)) (ci := 3) (v := .int (((a 5 i) 0) - 1)) (ty := .int) (C := RX3) (T := TX3) (N := 2) hx hb hts tl_X3 tyX3 tyX3_ok nmX3 hown hK hPw hDw hS k9 hk9 rfl 1 (by decide) (hts _ tw_615) (fun _ h9 => h9) rfl (by decide +kernel) rfl rfl (Nat.le_of_ble_eq_true rfl) dX3_dropFirst_14 (fun H locs hPw hDw hS => ?_)
    have hP : mw (dC, dI) vwCl A (TW cy L tr (S2 a 5 i (upd (a 5 i) 0 (((a 5 i) 0) - 1))) κ τ) H := (hbk _ _ hPw hDw).sub (tw_set (b := S2 a 5 i (upd (a 5 i) 0 (((a 5 i) 0) - 1))) (f := 5) (i := i) (x := upd (a 5 i) 0 (((a 5 i) 0) - 1)) hT hi (by decide) rfl)
    clear hbk hPw hDw hk9
    refine lv_aload_n hx hb dX3_dropFirst_17 rfl (lv_at hl 0 rfl) ?_
    refine va_get (D := (dC, dI)) (ws := [(L 5 i, .inr (3, [.ref (L 6 i), .int (((a 5 i) 0) - 1)]))]) (ci := 3) (v := .ref (L 6 i)) (C := RX3) (T := TX3) (N := 2) hx hb hts tl_X3 hown hK (hP.one (tw_mem (f := 5) (i := i) hi S2_eq)) 0 rfl rfl 0 (by decide) (hts _ tw_614) (fun _ h9 => h9) rfl dX3_dropFirst_18 ?_
    refine lv_iconst (v := 1) hx hb dX3_dropFirst_21 (by decide) ?_
    refine lv_aload_n hx hb dX3_dropFirst_22 rfl (lv_at hl 0 rfl) ?_
    refine va_get (D := (dC, dI)) (ws := [(L 5 i, .inr (3, [.ref (L 6 i), .int (((a 5 i) 0) - 1)]))]) (ci := 3) (v := .ref (L 6 i)) (C := RX3) (T := TX3) (N := 2) hx hb hts tl_X3 hown hK (hP.one (tw_mem (f := 5) (i := i) hi S2_eq)) 0 rfl rfl 0 (by decide) (hts _ tw_614) (fun _ h9 => h9) rfl dX3_dropFirst_23 ?_
    refine lv_iconst (v := 0) hx hb dX3_dropFirst_26 (by decide) ?_
    refine lv_aload_n hx hb dX3_dropFirst_27 rfl (lv_at hl 0 rfl) ?_
    refine va_get (D := (dC, dI)) (ws := [(L 5 i, .inr (3, [.ref (L 6 i), .int (((a 5 i) 0) - 1)]))]) (ci := 3) (v := .int (((a 5 i) 0) - 1)) (C := RX3) (T := TX3) (N := 2) hx hb hts tl_X3 hown hK (hP.one (tw_mem (f := 5) (i := i) hi S2_eq)) 0 rfl rfl 1 (by decide) (hts _ tw_615) (fun _ h9 => h9) rfl dX3_dropFirst_28 ?_
    obtain ⟨ws9, k9, hPw, hDw, hk9, hin9, hbk⟩ := hP.cut (e := .inl (cy 0, 30, .inl (a 6 i))) (tw_mem (f := 6) (i := i) hi (S2_nf (by decide)))
    obtain ⟨k8, hk8⟩ := hin9 _ (.inl (cy 0, 30, .inl (a 6 i))) (tw_mem (f := 6) (i := i) hi (S2_nf (by decide)))
    refine va_copyi hx hb (hml.trans hl.1.symm) hown (hts _ tw_355) (hts _ tw_342) (hts _ tw_341) (hts _ tw_36) hK hPw hDw hS k8 k9 0 0 hk8 hk9 rfl rfl rfl (by decide) (by decide) (m_pred0 c_1) (m_d1 c_1 hs) (m_d0 c_1 hs) (fun _ _ => rfl) (Nat.le_of_ble_eq_true rfl) (Nat.le_of_ble_eq_true rfl) dX3_dropFirst_31 (fun H locs hPw hDw hS => ?_)
    rw [show (1 : Int32).toNatClampNeg = 1 from rfl, show (0 : Int32).toNatClampNeg = 0 from rfl] at hPw hDw
    have hP : mw (dC, dI) vwCl A (TW cy L tr (S2 (S2 a 5 i (upd (a 5 i) 0 (((a 5 i) 0) - 1))) 6 i (va_cpy (a 6 i) (a 6 i) 1 0 ((a 5 i 0 - 1).toNatClampNeg))) κ τ) H := (hbk _ _ hPw hDw).sub (tw_set (b := S2 (S2 a 5 i (upd (a 5 i) 0 (((a 5 i) 0) - 1))) 6 i (va_cpy (a 6 i) (a 6 i) 1 0 ((a 5 i 0 - 1).toNatClampNeg))) (f := 6) (i := i) (x := va_cpy (a 6 i) (a 6 i) 1 0 ((a 5 i 0 - 1).toNatClampNeg)) hT hi (by decide) rfl)
    clear hbk hPw hDw hk9
    refine W.widen (k := 0) (n := 0) (Nat.le_of_ble_eq_true rfl) (Nat.le_of_ble_eq_true rfl) ?_
    have s_2 : S2 (S2 a 5 i (upd (a 5 i) 0 (((a 5 i) 0) - 1))) 6 i (va_cpy (a 6 i) (a 6 i) 1 0 ((a 5 i 0 - 1).toNatClampNeg)) = R_drop 5 6 a i := by
      first | rfl | (simp only [R_drop, if_neg c_1])
    rw [s_2] at hP
    exact W.vret hx hb hr (fun t ht hW => ⟨⟨(), rfl, trivial, (by show mw _ _ _ _ t.heap; rw [ht]; exact hP)⟩, hS.F ht⟩) hS.2.2 dX3_dropFirst_34
set_option maxRecDepth 100000 in
set_option maxHeartbeats 4000000 in
/-- Row.get, wait -/
theorem c_Row_get_wait (l : Launch) (dC : Nat → ClassId) (dI : Nat → Nat → Nat) (cy : Nat → ClassId) (L : Lay) (tr : Option Nat) (a : St) (κ : Kap) (τ : Tau) (i : Nat) (n : Int32) (sz : Nat) (hT : TL L tr τ) (hi : i < 12) (hs : (a 12 i 0).toInt ≤ 200) : Met l yX3_get (tp_w yX3_get cX3_get 2 (some .int)) ({ frames := 0, cells := 0, slots := 0, locals := 0 }) (va_Pc [.ref (L 12 i), .int n] (mPre dC dI cy (TW cy L tr a κ τ) sz)) (va_Qi (fun (r u : Int32) => r = u) (fun (u : Int32) (t : State) => (u = R_get (a 12 i 0) (a 13 i) n) ∧ mw (dC, dI) vwCl (mA (TW cy L tr a κ τ) sz) (TW cy L tr a κ τ) t.heap) (mA (TW cy L tr a κ τ) sz)) (0) (0) (mA (TW cy L tr a κ τ) sz) := by
  refine Met.ofW (cc := cX3_get) (maxL := 2) (ret := (some .int)) (by decide) rfl ?_
  intro p e s m args below meth c s₁ B hml hv
  obtain ⟨rfl, hsz, hP, hK, hE⟩ := hv
  have hx := B.exec
  have hb := B.bytes
  have hr := B.returns
  have hts0 := atoms_spec (ws := tp_w yX3_get cX3_get 2 (some .int)) B.pre
  have hts : ∀ w ∈ tp_all, w.before _ s = true := fun w h => hts0 w (List.mem_cons_of_mem _ h)
  have hown : s.vm.findClass RX3 = some m.cls := findClass_of_methodNamed B.named
  have hlocks := B.notSynchronized
  subst hsz
  have hP := hP.self s.heap.size
  generalize hAe : mA (TW cy L tr a κ τ) s.heap.size = A at hP ⊢
  have hA : ∀ q : Nat, s.heap.size ≤ q → A q := fun q h => by rw [← hAe]; exact Or.inr h
  have hS : va_S A s.heap s.heap [] := va_S.rf
  have hl9 := lv_entry ([.ref (L 12 i), .int n]) (n := 2) (Nat.le_of_ble_eq_true rfl)
  rw [lg_entry_eq]
  generalize (lg_sl ([.ref (L 12 i), .int n]) ++ List.replicate (2 - (lg_sl ([.ref (L 12 i), .int n])).length) Slot.unset).toArray = ls at hl9 ⊢
  have hl : lv_has ls 2 [(0, .ref (L 12 i)), (1, .int n)] := hl9
  refine lv_iload_n hx hb dX3_get_0 rfl (lv_at hl 1 rfl) ?_
  refine lv_if_lt (tgt := 21) hx hb dX3_get_1 (by decide) (fun c_1 => ?_) (fun c_1 => ?_)
  · refine lv_iconst (v := -1) hx hb dX3_get_21 (by decide) ?_
    refine W.widen (k := 0) (n := 0) (Nat.le_of_ble_eq_true rfl) (Nat.le_of_ble_eq_true rfl) ?_
    have g_1 : ((-1)) = R_get (a 12 i 0) (a 13 i) n := by
      first | rfl | assumption | (simp only [R_get, if_pos c_1])
    exact W.iret (v := (-1)) hx hb hr (fun t ht hW => ⟨⟨((-1)), ((-1)), rfl, rfl, ⟨g_1, by show mw _ _ _ _ t.heap; rw [ht]; exact hP⟩⟩, hS.F ht⟩) hS.2.2 dX3_get_22
  · refine lv_iload_n hx hb dX3_get_4 rfl (lv_at hl 1 rfl) ?_
    refine lv_aload_n hx hb dX3_get_5 rfl (lv_at hl 0 rfl) ?_
    refine va_get (D := (dC, dI)) (ws := [(L 12 i, .inr (3, [.ref (L 13 i), .int ((a 12 i) 0)]))]) (ci := 3) (v := .int ((a 12 i) 0)) (C := RX3) (T := TX3) (N := 2) hx hb hts tl_X3 hown hK (hP.one (tw_mem (f := 12) (i := i) hi rfl)) 0 rfl rfl 1 (by decide) (hts _ tw_615) (fun _ h9 => h9) rfl dX3_get_6 ?_
    refine lv_icmp_ge (tgt := 21) hx hb dX3_get_9 (by decide) (fun c_2 => ?_) (fun c_2 => ?_)
    · refine lv_iconst (v := -1) hx hb dX3_get_21 (by decide) ?_
      refine W.widen (k := 0) (n := 0) (Nat.le_of_ble_eq_true rfl) (Nat.le_of_ble_eq_true rfl) ?_
      have g_2 : ((-1)) = R_get (a 12 i 0) (a 13 i) n := by
        first | rfl | assumption | (simp only [R_get, if_neg c_1, if_pos c_2])
      exact W.iret (v := (-1)) hx hb hr (fun t ht hW => ⟨⟨((-1)), ((-1)), rfl, rfl, ⟨g_2, by show mw _ _ _ _ t.heap; rw [ht]; exact hP⟩⟩, hS.F ht⟩) hS.2.2 dX3_get_22
    · refine lv_aload_n hx hb dX3_get_12 rfl (lv_at hl 0 rfl) ?_
      refine va_get (D := (dC, dI)) (ws := [(L 12 i, .inr (3, [.ref (L 13 i), .int ((a 12 i) 0)]))]) (ci := 3) (v := .ref (L 13 i)) (C := RX3) (T := TX3) (N := 2) hx hb hts tl_X3 hown hK (hP.one (tw_mem (f := 12) (i := i) hi rfl)) 0 rfl rfl 0 (by decide) (hts _ tw_614) (fun _ h9 => h9) rfl dX3_get_13 ?_
      refine lv_iload_n hx hb dX3_get_16 rfl (lv_at hl 1 rfl) ?_
      have j_1 : (n : Int32).toNatClampNeg = n.toNatClampNeg := m_cl (m_nI c_1) (m_lt c_1 c_2 hs) (by decide)
      refine va_iald hx hb hK (ws := [(L 13 i, .inl (cy 0, 200, .inl (a 13 i)))]) (hP.one (tw_mem (f := 13) (i := i) hi rfl)) 0 0 rfl rfl (m_in (m_nI c_1) (m_lt c_1 c_2 hs) (by decide)) dX3_get_17 ?_
      refine W.eq (g2 := F0 m 18 ls [.int ((a 13 i) n.toNatClampNeg)]) (by first | (rw [j_1]; done) | (rw [j_1]; rfl)) ?_
      refine lv_goto (tgt := 22) hx hb dX3_get_18 (by decide) ?_
      refine W.widen (k := 0) (n := 0) (Nat.le_of_ble_eq_true rfl) (Nat.le_of_ble_eq_true rfl) ?_
      have g_3 : ((a 13 i) n.toNatClampNeg) = R_get (a 12 i 0) (a 13 i) n := by
        first | rfl | assumption | (simp only [R_get, if_neg c_1, if_neg c_2])
      exact W.iret (v := (a 13 i) n.toNatClampNeg) hx hb hr (fun t ht hW => ⟨⟨((a 13 i) n.toNatClampNeg), ((a 13 i) n.toNatClampNeg), rfl, rfl, ⟨g_3, by show mw _ _ _ _ t.heap; rw [ht]; exact hP⟩⟩, hS.F ht⟩) hS.2.2 dX3_get_22
set_option maxRecDepth 100000 in
set_option maxHeartbeats 4000000 in
/-- Row.append, wait -/
theorem c_Row_append_wait (l : Launch) (dC : Nat → ClassId) (dI : Nat → Nat → Nat) (cy : Nat → ClassId) (L : Lay) (tr : Option Nat) (a : St) (κ : Kap) (τ : Tau) (i : Nat) (v : Int32) (sz : Nat) (hT : TL L tr τ) (hi : i < 12) (hs : 0 ≤ (a 12 i 0).toInt) : Met l yX3_append (tp_w yX3_append cX3_append 2 none) ({ frames := 0, cells := 0, slots := 0, locals := 0 }) (va_Pc [.ref (L 12 i), .int v] (mPre dC dI cy (TW cy L tr a κ τ) sz)) (va_Qv (fun _ : Unit => True) (fun (_ : Unit) (t : State) => mw (dC, dI) vwCl (mA (TW cy L tr a κ τ) sz) (TW cy L tr (R_app 12 13 200 a i v) κ τ) t.heap) (mA (TW cy L tr a κ τ) sz)) (0) (0) (mA (TW cy L tr a κ τ) sz) := by
  refine Met.ofW (cc := cX3_append) (maxL := 2) (ret := none) (by decide) rfl ?_
  intro p e s m args below meth c s₁ B hml hv
  obtain ⟨rfl, hsz, hP, hK, hE⟩ := hv
  have hx := B.exec
  have hb := B.bytes
  have hr := B.returns
  have hts0 := atoms_spec (ws := tp_w yX3_append cX3_append 2 none) B.pre
  have hts : ∀ w ∈ tp_all, w.before _ s = true := fun w h => hts0 w (List.mem_cons_of_mem _ h)
  have hown : s.vm.findClass RX3 = some m.cls := findClass_of_methodNamed B.named
  have hlocks := B.notSynchronized
  subst hsz
  have hP := hP.self s.heap.size
  generalize hAe : mA (TW cy L tr a κ τ) s.heap.size = A at hP ⊢
  have hA : ∀ q : Nat, s.heap.size ≤ q → A q := fun q h => by rw [← hAe]; exact Or.inr h
  have hS : va_S A s.heap s.heap [] := va_S.rf
  have hl9 := lv_entry ([.ref (L 12 i), .int v]) (n := 2) (Nat.le_of_ble_eq_true rfl)
  rw [lg_entry_eq]
  generalize (lg_sl ([.ref (L 12 i), .int v]) ++ List.replicate (2 - (lg_sl ([.ref (L 12 i), .int v])).length) Slot.unset).toArray = ls at hl9 ⊢
  have hl : lv_has ls 2 [(0, .ref (L 12 i)), (1, .int v)] := hl9
  refine lv_aload_n hx hb dX3_append_0 rfl (lv_at hl 0 rfl) ?_
  refine va_get (D := (dC, dI)) (ws := [(L 12 i, .inr (3, [.ref (L 13 i), .int ((a 12 i) 0)]))]) (ci := 3) (v := .int ((a 12 i) 0)) (C := RX3) (T := TX3) (N := 2) hx hb hts tl_X3 hown hK (hP.one (tw_mem (f := 12) (i := i) hi rfl)) 0 rfl rfl 1 (by decide) (hts _ tw_615) (fun _ h9 => h9) rfl dX3_append_1 ?_
  refine lv_aload_n hx hb dX3_append_4 rfl (lv_at hl 0 rfl) ?_
  refine va_get (D := (dC, dI)) (ws := [(L 12 i, .inr (3, [.ref (L 13 i), .int ((a 12 i) 0)]))]) (ci := 3) (v := .ref (L 13 i)) (C := RX3) (T := TX3) (N := 2) hx hb hts tl_X3 hown hK (hP.one (tw_mem (f := 12) (i := i) hi rfl)) 0 rfl rfl 0 (by decide) (hts _ tw_614) (fun _ h9 => h9) rfl dX3_append_5 ?_
  refine va_alen hx hb hK (ws := [(L 13 i, .inl (cy 0, 200, .inl (a 13 i)))]) (hP.one (tw_mem (f := 13) (i := i) hi rfl)) 0 0 rfl rfl (v := 200) rfl dX3_append_8 ?_
  refine lv_icmp_ge (tgt := 32) hx hb dX3_append_9 (by decide) (fun c_1 => ?_) (fun c_1 => ?_)
  · refine W.widen (k := 0) (n := 0) (Nat.le_of_ble_eq_true rfl) (Nat.le_of_ble_eq_true rfl) ?_
    have s_1 : a = R_app 12 13 200 a i v := by
      first | rfl | (simp only [R_app, if_pos c_1])
    rw [s_1] at hP
    exact W.vret hx hb hr (fun t ht hW => ⟨⟨(), rfl, trivial, (by show mw _ _ _ _ t.heap; rw [ht]; exact hP)⟩, hS.F ht⟩) hS.2.2 dX3_append_32
  · refine lv_aload_n hx hb dX3_append_12 rfl (lv_at hl 0 rfl) ?_
    refine va_get (D := (dC, dI)) (ws := [(L 12 i, .inr (3, [.ref (L 13 i), .int ((a 12 i) 0)]))]) (ci := 3) (v := .ref (L 13 i)) (C := RX3) (T := TX3) (N := 2) hx hb hts tl_X3 hown hK (hP.one (tw_mem (f := 12) (i := i) hi rfl)) 0 rfl rfl 0 (by decide) (hts _ tw_614) (fun _ h9 => h9) rfl dX3_append_13 ?_
    refine lv_aload_n hx hb dX3_append_16 rfl (lv_at hl 0 rfl) ?_
    refine va_get (D := (dC, dI)) (ws := [(L 12 i, .inr (3, [.ref (L 13 i), .int ((a 12 i) 0)]))]) (ci := 3) (v := .int ((a 12 i) 0)) (C := RX3) (T := TX3) (N := 2) hx hb hts tl_X3 hown hK (hP.one (tw_mem (f := 12) (i := i) hi rfl)) 0 rfl rfl 1 (by decide) (hts _ tw_615) (fun _ h9 => h9) rfl dX3_append_17 ?_
    refine lv_iload_n hx hb dX3_append_20 rfl (lv_at hl 1 rfl) ?_
    have j_1 : ((a 12 i) 0 : Int32).toNatClampNeg = (a 12 i 0).toNatClampNeg := m_cl (m_n0 hs) (m_ltI hs (m_ge c_1)) (by decide)
    obtain ⟨ws9, k9, hPw, hDw, hk9, -, hbk⟩ := hP.cut (e := .inl (cy 0, 200, .inl (a 13 i))) (tw_mem (f := 13) (i := i) hi rfl)
    refine va_iast hx hb hK hPw hDw hS k9 0 hk9 rfl (m_in (m_n0 hs) (m_ltI hs (m_ge c_1)) (by decide)) dX3_append_21 (fun H locs hPw hDw hS => ?_)
    rw [j_1] at hPw hDw
    have hP : mw (dC, dI) vwCl A (TW cy L tr (S2 a 13 i (upd (a 13 i) ((a 12 i 0).toNatClampNeg) v)) κ τ) H := (hbk _ _ hPw hDw).sub (tw_set (b := S2 a 13 i (upd (a 13 i) ((a 12 i 0).toNatClampNeg) v)) (f := 13) (i := i) (x := upd (a 13 i) ((a 12 i 0).toNatClampNeg) v) hT hi (by decide) rfl)
    clear hbk hPw hDw hk9
    refine lv_aload_n hx hb dX3_append_22 rfl (lv_at hl 0 rfl) ?_
    refine lv_dup hx hb dX3_append_23 rfl ?_
    refine va_get (D := (dC, dI)) (ws := [(L 12 i, .inr (3, [.ref (L 13 i), .int ((a 12 i) 0)]))]) (ci := 3) (v := .int ((a 12 i) 0)) (C := RX3) (T := TX3) (N := 2) hx hb hts tl_X3 hown hK (hP.one (tw_mem (f := 12) (i := i) hi (S2_nf (by decide)))) 0 rfl rfl 1 (by decide) (hts _ tw_615) (fun _ h9 => h9) rfl dX3_append_24 ?_
    refine lv_iconst (v := 1) hx hb dX3_append_27 (by decide) ?_
    refine lv_iadd hx hb dX3_append_28 ?_
    obtain ⟨ws9, k9, hPw, hDw, hk9, -, hbk⟩ := hP.cut (e := .inr (3, [.ref (L 13 i), .int ((a 12 i) 0)])) (tw_mem (f := 12) (i := i) hi (S2_nf (by decide)))
    refine va_put (D := (dC, dI)) (ci := 3) (v := .int (((a 12 i) 0) + 1)) (ty := .int) (C := RX3) (T := TX3) (N := 2) hx hb hts tl_X3 tyX3 tyX3_ok nmX3 hown hK hPw hDw hS k9 hk9 rfl 1 (by decide) (hts _ tw_615) (fun _ h9 => h9) rfl (by decide +kernel) rfl rfl (Nat.le_of_ble_eq_true rfl) dX3_append_29 (fun H locs hPw hDw hS => ?_)
    have hP : mw (dC, dI) vwCl A (TW cy L tr (S2 (S2 a 13 i (upd (a 13 i) ((a 12 i 0).toNatClampNeg) v)) 12 i (upd (a 12 i) 0 (((a 12 i) 0) + 1))) κ τ) H := (hbk _ _ hPw hDw).sub (tw_set (b := S2 (S2 a 13 i (upd (a 13 i) ((a 12 i 0).toNatClampNeg) v)) 12 i (upd (a 12 i) 0 (((a 12 i) 0) + 1))) (f := 12) (i := i) (x := upd (a 12 i) 0 (((a 12 i) 0) + 1)) hT hi (by decide) rfl)
    clear hbk hPw hDw hk9
    refine W.widen (k := 0) (n := 0) (Nat.le_of_ble_eq_true rfl) (Nat.le_of_ble_eq_true rfl) ?_
    have s_2 : S2 (S2 a 13 i (upd (a 13 i) ((a 12 i 0).toNatClampNeg) v)) 12 i (upd (a 12 i) 0 (((a 12 i) 0) + 1)) = R_app 12 13 200 a i v := by
      first | rfl | (simp only [R_app, if_neg c_1])
    rw [s_2] at hP
    exact W.vret hx hb hr (fun t ht hW => ⟨⟨(), rfl, trivial, (by show mw _ _ _ _ t.heap; rw [ht]; exact hP)⟩, hS.F ht⟩) hS.2.2 dX3_append_32
set_option maxRecDepth 100000 in
set_option maxHeartbeats 4000000 in
/-- Row.dropFirst, wait -/
theorem c_Row_dropFirst_wait (l : Launch) (dC : Nat → ClassId) (dI : Nat → Nat → Nat) (cy : Nat → ClassId) (L : Lay) (tr : Option Nat) (a : St) (κ : Kap) (τ : Tau) (i : Nat) (sz : Nat) (hT : TL L tr τ) (hi : i < 12) (hs : (a 12 i 0).toInt ≤ 200) : Met l yX3_dropFirst (tp_w yX3_dropFirst cX3_dropFirst 1 none) ({ frames := 1, cells := 0, slots := 0, locals := 18 }) (va_Pc [.ref (L 12 i)] (mPre dC dI cy (TW cy L tr a κ τ) sz)) (va_Qv (fun _ : Unit => True) (fun (_ : Unit) (t : State) => mw (dC, dI) vwCl (mA (TW cy L tr a κ τ) sz) (TW cy L tr (R_drop 12 13 a i) κ τ) t.heap) (mA (TW cy L tr a κ τ) sz)) (0) (0) (mA (TW cy L tr a κ τ) sz) := by
  refine Met.ofW (cc := cX3_dropFirst) (maxL := 1) (ret := none) (by decide) rfl ?_
  intro p e s m args below meth c s₁ B hml hv
  obtain ⟨rfl, hsz, hP, hK, hE⟩ := hv
  have hx := B.exec
  have hb := B.bytes
  have hr := B.returns
  have hts0 := atoms_spec (ws := tp_w yX3_dropFirst cX3_dropFirst 1 none) B.pre
  have hts : ∀ w ∈ tp_all, w.before _ s = true := fun w h => hts0 w (List.mem_cons_of_mem _ h)
  have hown : s.vm.findClass RX3 = some m.cls := findClass_of_methodNamed B.named
  have hlocks := B.notSynchronized
  subst hsz
  have hP := hP.self s.heap.size
  generalize hAe : mA (TW cy L tr a κ τ) s.heap.size = A at hP ⊢
  have hA : ∀ q : Nat, s.heap.size ≤ q → A q := fun q h => by rw [← hAe]; exact Or.inr h
  have hS : va_S A s.heap s.heap [] := va_S.rf
  have hl9 := lv_entry ([.ref (L 12 i)]) (n := 1) (Nat.le_of_ble_eq_true rfl)
  rw [lg_entry_eq]
  generalize (lg_sl ([.ref (L 12 i)]) ++ List.replicate (1 - (lg_sl ([.ref (L 12 i)])).length) Slot.unset).toArray = ls at hl9 ⊢
  have hl : lv_has ls 1 [(0, .ref (L 12 i))] := hl9
  refine lv_aload_n hx hb dX3_dropFirst_0 rfl (lv_at hl 0 rfl) ?_
  refine va_get (D := (dC, dI)) (ws := [(L 12 i, .inr (3, [.ref (L 13 i), .int ((a 12 i) 0)]))]) (ci := 3) (v := .int ((a 12 i) 0)) (C := RX3) (T := TX3) (N := 2) hx hb hts tl_X3 hown hK (hP.one (tw_mem (f := 12) (i := i) hi rfl)) 0 rfl rfl 1 (by decide) (hts _ tw_615) (fun _ h9 => h9) rfl dX3_dropFirst_1 ?_
  refine lv_if_le (tgt := 34) hx hb dX3_dropFirst_4 (by decide) (fun c_1 => ?_) (fun c_1 => ?_)
  · refine W.widen (k := 0) (n := 0) (Nat.le_of_ble_eq_true rfl) (Nat.le_of_ble_eq_true rfl) ?_
    have s_1 : a = R_drop 12 13 a i := by
      first | rfl | (simp only [R_drop, if_pos c_1])
    rw [s_1] at hP
    exact W.vret hx hb hr (fun t ht hW => ⟨⟨(), rfl, trivial, (by show mw _ _ _ _ t.heap; rw [ht]; exact hP)⟩, hS.F ht⟩) hS.2.2 dX3_dropFirst_34
  · refine lv_aload_n hx hb dX3_dropFirst_7 rfl (lv_at hl 0 rfl) ?_
    refine lv_dup hx hb dX3_dropFirst_8 rfl ?_
    refine va_get (D := (dC, dI)) (ws := [(L 12 i, .inr (3, [.ref (L 13 i), .int ((a 12 i) 0)]))]) (ci := 3) (v := .int ((a 12 i) 0)) (C := RX3) (T := TX3) (N := 2) hx hb hts tl_X3 hown hK (hP.one (tw_mem (f := 12) (i := i) hi rfl)) 0 rfl rfl 1 (by decide) (hts _ tw_615) (fun _ h9 => h9) rfl dX3_dropFirst_9 ?_
    refine lv_iconst (v := 1) hx hb dX3_dropFirst_12 (by decide) ?_
    refine lv_isub hx hb dX3_dropFirst_13 ?_
    obtain ⟨ws9, k9, hPw, hDw, hk9, -, hbk⟩ := hP.cut (e := .inr (3, [.ref (L 13 i), .int ((a 12 i) 0)])) (tw_mem (f := 12) (i := i) hi rfl)
    refine va_put (D := (dC, dI)) (ci := 3) (v := .int (((a 12 i) 0) - 1)) (ty := .int) (C := RX3) (T := TX3) (N := 2) hx hb hts tl_X3 tyX3 tyX3_ok nmX3 hown hK hPw hDw hS k9 hk9 rfl 1 (by decide) (hts _ tw_615) (fun _ h9 => h9) rfl (by decide +kernel) rfl rfl (Nat.le_of_ble_eq_true rfl) dX3_dropFirst_14 (fun H locs hPw hDw hS => ?_)
    have hP : mw (dC, dI) vwCl A (TW cy L tr (S2 a 12 i (upd (a 12 i) 0 (((a 12 i) 0) - 1))) κ τ) H := (hbk _ _ hPw hDw).sub (tw_set (b := S2 a 12 i (upd (a 12 i) 0 (((a 12 i) 0) - 1))) (f := 12) (i := i) (x := upd (a 12 i) 0 (((a 12 i) 0) - 1)) hT hi (by decide) rfl)
    clear hbk hPw hDw hk9
    refine lv_aload_n hx hb dX3_dropFirst_17 rfl (lv_at hl 0 rfl) ?_
    refine va_get (D := (dC, dI)) (ws := [(L 12 i, .inr (3, [.ref (L 13 i), .int (((a 12 i) 0) - 1)]))]) (ci := 3) (v := .ref (L 13 i)) (C := RX3) (T := TX3) (N := 2) hx hb hts tl_X3 hown hK (hP.one (tw_mem (f := 12) (i := i) hi S2_eq)) 0 rfl rfl 0 (by decide) (hts _ tw_614) (fun _ h9 => h9) rfl dX3_dropFirst_18 ?_
    refine lv_iconst (v := 1) hx hb dX3_dropFirst_21 (by decide) ?_
    refine lv_aload_n hx hb dX3_dropFirst_22 rfl (lv_at hl 0 rfl) ?_
    refine va_get (D := (dC, dI)) (ws := [(L 12 i, .inr (3, [.ref (L 13 i), .int (((a 12 i) 0) - 1)]))]) (ci := 3) (v := .ref (L 13 i)) (C := RX3) (T := TX3) (N := 2) hx hb hts tl_X3 hown hK (hP.one (tw_mem (f := 12) (i := i) hi S2_eq)) 0 rfl rfl 0 (by decide) (hts _ tw_614) (fun _ h9 => h9) rfl dX3_dropFirst_23 ?_
    refine lv_iconst (v := 0) hx hb dX3_dropFirst_26 (by decide) ?_
    refine lv_aload_n hx hb dX3_dropFirst_27 rfl (lv_at hl 0 rfl) ?_
    refine va_get (D := (dC, dI)) (ws := [(L 12 i, .inr (3, [.ref (L 13 i), .int (((a 12 i) 0) - 1)]))]) (ci := 3) (v := .int (((a 12 i) 0) - 1)) (C := RX3) (T := TX3) (N := 2) hx hb hts tl_X3 hown hK (hP.one (tw_mem (f := 12) (i := i) hi S2_eq)) 0 rfl rfl 1 (by decide) (hts _ tw_615) (fun _ h9 => h9) rfl dX3_dropFirst_28 ?_
    obtain ⟨ws9, k9, hPw, hDw, hk9, hin9, hbk⟩ := hP.cut (e := .inl (cy 0, 200, .inl (a 13 i))) (tw_mem (f := 13) (i := i) hi (S2_nf (by decide)))
    obtain ⟨k8, hk8⟩ := hin9 _ (.inl (cy 0, 200, .inl (a 13 i))) (tw_mem (f := 13) (i := i) hi (S2_nf (by decide)))
    refine va_copyi hx hb (hml.trans hl.1.symm) hown (hts _ tw_355) (hts _ tw_342) (hts _ tw_341) (hts _ tw_36) hK hPw hDw hS k8 k9 0 0 hk8 hk9 rfl rfl rfl (by decide) (by decide) (m_pred0 c_1) (m_d1 c_1 hs) (m_d0 c_1 hs) (fun _ _ => rfl) (Nat.le_of_ble_eq_true rfl) (Nat.le_of_ble_eq_true rfl) dX3_dropFirst_31 (fun H locs hPw hDw hS => ?_)
    rw [show (1 : Int32).toNatClampNeg = 1 from rfl, show (0 : Int32).toNatClampNeg = 0 from rfl] at hPw hDw
    have hP : mw (dC, dI) vwCl A (TW cy L tr (S2 (S2 a 12 i (upd (a 12 i) 0 (((a 12 i) 0) - 1))) 13 i (va_cpy (a 13 i) (a 13 i) 1 0 ((a 12 i 0 - 1).toNatClampNeg))) κ τ) H := (hbk _ _ hPw hDw).sub (tw_set (b := S2 (S2 a 12 i (upd (a 12 i) 0 (((a 12 i) 0) - 1))) 13 i (va_cpy (a 13 i) (a 13 i) 1 0 ((a 12 i 0 - 1).toNatClampNeg))) (f := 13) (i := i) (x := va_cpy (a 13 i) (a 13 i) 1 0 ((a 12 i 0 - 1).toNatClampNeg)) hT hi (by decide) rfl)
    clear hbk hPw hDw hk9
    refine W.widen (k := 0) (n := 0) (Nat.le_of_ble_eq_true rfl) (Nat.le_of_ble_eq_true rfl) ?_
    have s_2 : S2 (S2 a 12 i (upd (a 12 i) 0 (((a 12 i) 0) - 1))) 13 i (va_cpy (a 13 i) (a 13 i) 1 0 ((a 12 i 0 - 1).toNatClampNeg)) = R_drop 12 13 a i := by
      first | rfl | (simp only [R_drop, if_neg c_1])
    rw [s_2] at hP
    exact W.vret hx hb hr (fun t ht hW => ⟨⟨(), rfl, trivial, (by show mw _ _ _ _ t.heap; rw [ht]; exact hP)⟩, hS.F ht⟩) hS.2.2 dX3_dropFirst_34
end
section
theorem tw_640 : Cond.fieldLink RX1 9 "Turnpike$Link" "slowTicks" "I" ∈ tp_all := tp_mem 640 (by decide +kernel) rfl
theorem tw_634 : Cond.fieldLink RX1 31 "Turnpike$Link" "firstRate" "I" ∈ tp_all := tp_mem 634 (by decide +kernel) rfl
theorem tw_636 : Cond.fieldLink RX1 34 "Turnpike$Link" "rate" "I" ∈ tp_all := tp_mem 636 (by decide +kernel) rfl
theorem tw_651 : Cond.fieldLink RX1 24 "Turnpike$Link" "ends" "LTurnpike$Row;" ∈ tp_all := tp_mem 651 (by decide +kernel) rfl
theorem tw_189 : Cond.code yX3_get cX3_get 2 (some .int) ∈ tp_all := tp_mem 189 (by decide +kernel) rfl
theorem tw_186 : Cond.methodLink RX1 40 yX3_get ∈ tp_all := tp_mem 186 (by decide +kernel) rfl
theorem tw_187 : Cond.instanceMethod yX3_get ∈ tp_all := tp_mem 187 (by decide +kernel) rfl
theorem tw_188 : Cond.selects RX3 yX3_get yX3_get ∈ tp_all := tp_mem 188 (by decide +kernel) rfl
theorem tw_24 : Cond.initialized RX3 ∈ tp_all := tp_mem 24 (by decide +kernel) rfl
theorem tw_185 : Cond.code yX1_queueIn cX1_queueIn 3 (some .int) ∈ tp_all := tp_mem 185 (by decide +kernel) rfl
theorem tw_182 : Cond.methodLink RX1 44 yX1_queueIn ∈ tp_all := tp_mem 182 (by decide +kernel) rfl
theorem tw_183 : Cond.instanceMethod yX1_queueIn ∈ tp_all := tp_mem 183 (by decide +kernel) rfl
theorem tw_184 : Cond.selects RX1 yX1_queueIn yX1_queueIn ∈ tp_all := tp_mem 184 (by decide +kernel) rfl
theorem tw_23 : Cond.initialized RX1 ∈ tp_all := tp_mem 23 (by decide +kernel) rfl
theorem tw_630 : Cond.fieldLink RX1 47 "Turnpike$Link" "time" "I" ∈ tp_all := tp_mem 630 (by decide +kernel) rfl
theorem tw_642 : Cond.fieldLink RX1 50 "Turnpike$Link" "shut" "Z" ∈ tp_all := tp_mem 642 (by decide +kernel) rfl
theorem tw_648 : Cond.fieldLink RX1 20 "Turnpike$Link" "row" "LTurnpike$Row;" ∈ tp_all := tp_mem 648 (by decide +kernel) rfl
theorem tw_633 : Cond.fieldLink RX1 54 "Turnpike$Link" "room" "I" ∈ tp_all := tp_mem 633 (by decide +kernel) rfl
theorem tw_231 : Cond.code yX3_append cX3_append 2 none ∈ tp_all := tp_mem 231 (by decide +kernel) rfl
theorem tw_320 : Cond.methodLink RX1 57 yX3_append ∈ tp_all := tp_mem 320 (by decide +kernel) rfl
theorem tw_229 : Cond.instanceMethod yX3_append ∈ tp_all := tp_mem 229 (by decide +kernel) rfl
theorem tw_230 : Cond.selects RX3 yX3_append yX3_append ∈ tp_all := tp_mem 230 (by decide +kernel) rfl
theorem tw_652 : Cond.fieldLink RX1 60 "Turnpike$Link" "came" "I" ∈ tp_all := tp_mem 652 (by decide +kernel) rfl
theorem tw_354 : Cond.code yX3_dropFirst cX3_dropFirst 1 none ∈ tp_all := tp_mem 354 (by decide +kernel) rfl
theorem tw_351 : Cond.methodLink RX1 63 yX3_dropFirst ∈ tp_all := tp_mem 351 (by decide +kernel) rfl
theorem tw_352 : Cond.instanceMethod yX3_dropFirst ∈ tp_all := tp_mem 352 (by decide +kernel) rfl
theorem tw_353 : Cond.selects RX3 yX3_dropFirst yX3_dropFirst ∈ tp_all := tp_mem 353 (by decide +kernel) rfl
theorem tw_654 : Cond.fieldLink RX1 66 "Turnpike$Link" "left" "I" ∈ tp_all := tp_mem 654 (by decide +kernel) rfl
theorem tw_660 : Cond.fieldLink RX1 27 "Turnpike$Link" "wentOnto" "[I" ∈ tp_all := tp_mem 660 (by decide +kernel) rfl
theorem tw_656 : Cond.fieldLink RX1 69 "Turnpike$Link" "greatestQueue" "I" ∈ tp_all := tp_mem 656 (by decide +kernel) rfl
theorem tw_369 : Cond.methodLink RX1 72 yJ9_max_7cf53 ∈ tp_all := tp_mem 369 (by decide +kernel) rfl
theorem tw_292 : Cond.static yJ9_max_7cf53 ∈ tp_all := tp_mem 292 (by decide +kernel) rfl
theorem tw_25 : Cond.initialized RJ9 ∈ tp_all := tp_mem 25 (by decide +kernel) rfl
theorem tw_293 : Cond.code yJ9_max_7cf53 cJ9_max_7cf53 2 (some .int) ∈ tp_all := tp_mem 293 (by decide +kernel) rfl
theorem tw_658 : Cond.fieldLink RX1 78 "Turnpike$Link" "sumOfQueues" "I" ∈ tp_all := tp_mem 658 (by decide +kernel) rfl
theorem te_f0 {U : State} (h : tp_E U) : va_Nw (.fieldLinkNest "Turnpike$Link" 37 "Turnpike$Row" "size" "I" "Turnpike") U := h.1 _ (List.mem_of_getElem? (i := 0) rfl)
theorem dX1_playSlowTick_0 : decode cX1_playSlowTick 0 = .ok (.aload_n 0, 1) := by decide +kernel
theorem dX1_playSlowTick_1 : decode cX1_playSlowTick 1 = .ok (.getfield 9, 3) := by decide +kernel
theorem dX1_playSlowTick_4 : decode cX1_playSlowTick 4 = .ok (.ifCond .le 16, 3) := by decide +kernel
theorem dX1_playSlowTick_20 : decode cX1_playSlowTick 20 = .ok (.aload_n 0, 1) := by decide +kernel
theorem dX1_playSlowTick_21 : decode cX1_playSlowTick 21 = .ok (.getfield 9, 3) := by decide +kernel
theorem dX1_playSlowTick_24 : decode cX1_playSlowTick 24 = .ok (.ifCond .ne 16, 3) := by decide +kernel
theorem dX1_playSlowTick_40 : decode cX1_playSlowTick 40 = .ok (.return_, 1) := by decide +kernel
theorem dX1_playSlowTick_27 : decode cX1_playSlowTick 27 = .ok (.aload_n 0, 1) := by decide +kernel
theorem dX1_playSlowTick_28 : decode cX1_playSlowTick 28 = .ok (.iconst (-1), 1) := by decide +kernel
theorem dX1_playSlowTick_29 : decode cX1_playSlowTick 29 = .ok (.putfield 9, 3) := by decide +kernel
theorem dX1_playSlowTick_32 : decode cX1_playSlowTick 32 = .ok (.aload_n 0, 1) := by decide +kernel
theorem dX1_playSlowTick_33 : decode cX1_playSlowTick 33 = .ok (.aload_n 0, 1) := by decide +kernel
theorem dX1_playSlowTick_34 : decode cX1_playSlowTick 34 = .ok (.getfield 31, 3) := by decide +kernel
theorem dX1_playSlowTick_37 : decode cX1_playSlowTick 37 = .ok (.putfield 34, 3) := by decide +kernel
theorem dX1_playSlowTick_7 : decode cX1_playSlowTick 7 = .ok (.aload_n 0, 1) := by decide +kernel
theorem dX1_playSlowTick_8 : decode cX1_playSlowTick 8 = .ok (.dup, 1) := by decide +kernel
theorem dX1_playSlowTick_9 : decode cX1_playSlowTick 9 = .ok (.getfield 9, 3) := by decide +kernel
theorem dX1_playSlowTick_12 : decode cX1_playSlowTick 12 = .ok (.iconst 1, 1) := by decide +kernel
theorem dX1_playSlowTick_13 : decode cX1_playSlowTick 13 = .ok (.isub, 1) := by decide +kernel
theorem dX1_playSlowTick_14 : decode cX1_playSlowTick 14 = .ok (.putfield 9, 3) := by decide +kernel
theorem dX1_playSlowTick_17 : decode cX1_playSlowTick 17 = .ok (.goto 23, 3) := by decide +kernel
theorem dX1_hasQueueIn_0 : decode cX1_hasQueueIn 0 = .ok (.aload_n 0, 1) := by decide +kernel
theorem dX1_hasQueueIn_1 : decode cX1_hasQueueIn 1 = .ok (.getfield 24, 3) := by decide +kernel
theorem dX1_hasQueueIn_4 : decode cX1_hasQueueIn 4 = .ok (.getfield 37, 3) := by decide +kernel
theorem dX1_hasQueueIn_7 : decode cX1_hasQueueIn 7 = .ok (.ifCond .le 19, 3) := by decide +kernel
theorem dX1_hasQueueIn_26 : decode cX1_hasQueueIn 26 = .ok (.iconst 0, 1) := by decide +kernel
theorem dX1_hasQueueIn_27 : decode cX1_hasQueueIn 27 = .ok (.ireturn, 1) := by decide +kernel
theorem dX1_hasQueueIn_10 : decode cX1_hasQueueIn 10 = .ok (.aload_n 0, 1) := by decide +kernel
theorem dX1_hasQueueIn_11 : decode cX1_hasQueueIn 11 = .ok (.getfield 24, 3) := by decide +kernel
theorem dX1_hasQueueIn_14 : decode cX1_hasQueueIn 14 = .ok (.iconst 0, 1) := by decide +kernel
theorem dX1_hasQueueIn_15 : decode cX1_hasQueueIn 15 = .ok (.invokevirtual 40, 3) := by decide +kernel
theorem dX1_hasQueueIn_18 : decode cX1_hasQueueIn 18 = .ok (.iload_n 1, 1) := by decide +kernel
theorem dX1_hasQueueIn_19 : decode cX1_hasQueueIn 19 = .ok (.if_icmp .gt 7, 3) := by decide +kernel
theorem dX1_hasQueueIn_22 : decode cX1_hasQueueIn 22 = .ok (.iconst 1, 1) := by decide +kernel
theorem dX1_hasQueueIn_23 : decode cX1_hasQueueIn 23 = .ok (.goto 4, 3) := by decide +kernel
theorem dX1_queueIn_0 : decode cX1_queueIn 0 = .ok (.iconst 0, 1) := by decide +kernel
theorem dX1_queueIn_1 : decode cX1_queueIn 1 = .ok (.istore_n 2, 1) := by decide +kernel
theorem dX1_queueIn_2 : decode cX1_queueIn 2 = .ok (.iload_n 2, 1) := by decide +kernel
theorem dX1_queueIn_3 : decode cX1_queueIn 3 = .ok (.aload_n 0, 1) := by decide +kernel
theorem dX1_queueIn_4 : decode cX1_queueIn 4 = .ok (.getfield 24, 3) := by decide +kernel
theorem dX1_queueIn_7 : decode cX1_queueIn 7 = .ok (.getfield 37, 3) := by decide +kernel
theorem dX1_queueIn_10 : decode cX1_queueIn 10 = .ok (.if_icmp .ge 21, 3) := by decide +kernel
theorem dX1_queueIn_31 : decode cX1_queueIn 31 = .ok (.iload_n 2, 1) := by decide +kernel
theorem dX1_queueIn_32 : decode cX1_queueIn 32 = .ok (.ireturn, 1) := by decide +kernel
theorem dX1_queueIn_13 : decode cX1_queueIn 13 = .ok (.aload_n 0, 1) := by decide +kernel
theorem dX1_queueIn_14 : decode cX1_queueIn 14 = .ok (.getfield 24, 3) := by decide +kernel
theorem dX1_queueIn_17 : decode cX1_queueIn 17 = .ok (.iload_n 2, 1) := by decide +kernel
theorem dX1_queueIn_18 : decode cX1_queueIn 18 = .ok (.invokevirtual 40, 3) := by decide +kernel
theorem dX1_queueIn_21 : decode cX1_queueIn 21 = .ok (.iload_n 1, 1) := by decide +kernel
theorem dX1_queueIn_22 : decode cX1_queueIn 22 = .ok (.if_icmp .gt 9, 3) := by decide +kernel
theorem dX1_queueIn_25 : decode cX1_queueIn 25 = .ok (.iinc 2 1, 3) := by decide +kernel
theorem dX1_queueIn_28 : decode cX1_queueIn 28 = .ok (.goto (-26), 3) := by decide +kernel
theorem dX1_costIn_0 : decode cX1_costIn 0 = .ok (.aload_n 0, 1) := by decide +kernel
theorem dX1_costIn_1 : decode cX1_costIn 1 = .ok (.iload_n 1, 1) := by decide +kernel
theorem dX1_costIn_2 : decode cX1_costIn 2 = .ok (.invokevirtual 44, 3) := by decide +kernel
theorem dX1_costIn_5 : decode cX1_costIn 5 = .ok (.istore_n 2, 1) := by decide +kernel
theorem dX1_costIn_6 : decode cX1_costIn 6 = .ok (.aload_n 0, 1) := by decide +kernel
theorem dX1_costIn_7 : decode cX1_costIn 7 = .ok (.getfield 47, 3) := by decide +kernel
theorem dX1_costIn_10 : decode cX1_costIn 10 = .ok (.aload_n 0, 1) := by decide +kernel
theorem dX1_costIn_11 : decode cX1_costIn 11 = .ok (.getfield 34, 3) := by decide +kernel
theorem dX1_costIn_14 : decode cX1_costIn 14 = .ok (.ifCond .le 19, 3) := by decide +kernel
theorem dX1_costIn_33 : decode cX1_costIn 33 = .ok (.bipush 10, 2) := by decide +kernel
theorem dX1_costIn_35 : decode cX1_costIn 35 = .ok (.iload_n 2, 1) := by decide +kernel
theorem dX1_costIn_36 : decode cX1_costIn 36 = .ok (.imul, 1) := by decide +kernel
theorem dX1_costIn_37 : decode cX1_costIn 37 = .ok (.iadd, 1) := by decide +kernel
theorem dX1_costIn_38 : decode cX1_costIn 38 = .ok (.ireturn, 1) := by decide +kernel
theorem dX1_costIn_17 : decode cX1_costIn 17 = .ok (.iload_n 2, 1) := by decide +kernel
theorem dX1_costIn_18 : decode cX1_costIn 18 = .ok (.aload_n 0, 1) := by decide +kernel
theorem dX1_costIn_19 : decode cX1_costIn 19 = .ok (.getfield 34, 3) := by decide +kernel
theorem dX1_costIn_22 : decode cX1_costIn 22 = .ok (.iadd, 1) := by decide +kernel
theorem dX1_costIn_23 : decode cX1_costIn 23 = .ok (.iconst 1, 1) := by decide +kernel
theorem dX1_costIn_24 : decode cX1_costIn 24 = .ok (.isub, 1) := by decide +kernel
theorem dX1_costIn_25 : decode cX1_costIn 25 = .ok (.aload_n 0, 1) := by decide +kernel
theorem dX1_costIn_26 : decode cX1_costIn 26 = .ok (.getfield 34, 3) := by decide +kernel
theorem dX1_costIn_29 : decode cX1_costIn 29 = .ok (.idiv, 1) := by decide +kernel
theorem dX1_costIn_30 : decode cX1_costIn 30 = .ok (.goto 7, 3) := by decide +kernel
theorem dX1_isOpen_0 : decode cX1_isOpen 0 = .ok (.aload_n 0, 1) := by decide +kernel
theorem dX1_isOpen_1 : decode cX1_isOpen 1 = .ok (.getfield 50, 3) := by decide +kernel
theorem dX1_isOpen_4 : decode cX1_isOpen 4 = .ok (.ifCond .ne 21, 3) := by decide +kernel
theorem dX1_isOpen_25 : decode cX1_isOpen 25 = .ok (.iconst 0, 1) := by decide +kernel
theorem dX1_isOpen_26 : decode cX1_isOpen 26 = .ok (.ireturn, 1) := by decide +kernel
theorem dX1_isOpen_7 : decode cX1_isOpen 7 = .ok (.aload_n 0, 1) := by decide +kernel
theorem dX1_isOpen_8 : decode cX1_isOpen 8 = .ok (.getfield 20, 3) := by decide +kernel
theorem dX1_isOpen_11 : decode cX1_isOpen 11 = .ok (.getfield 37, 3) := by decide +kernel
theorem dX1_isOpen_14 : decode cX1_isOpen 14 = .ok (.aload_n 0, 1) := by decide +kernel
theorem dX1_isOpen_15 : decode cX1_isOpen 15 = .ok (.getfield 54, 3) := by decide +kernel
theorem dX1_isOpen_18 : decode cX1_isOpen 18 = .ok (.if_icmp .ge 7, 3) := by decide +kernel
theorem dX1_isOpen_21 : decode cX1_isOpen 21 = .ok (.iconst 1, 1) := by decide +kernel
theorem dX1_isOpen_22 : decode cX1_isOpen 22 = .ok (.goto 4, 3) := by decide +kernel
theorem dX1_takeIn_0 : decode cX1_takeIn 0 = .ok (.aload_n 0, 1) := by decide +kernel
theorem dX1_takeIn_1 : decode cX1_takeIn 1 = .ok (.getfield 20, 3) := by decide +kernel
theorem dX1_takeIn_4 : decode cX1_takeIn 4 = .ok (.iload_n 1, 1) := by decide +kernel
theorem dX1_takeIn_5 : decode cX1_takeIn 5 = .ok (.invokevirtual 57, 3) := by decide +kernel
theorem dX1_takeIn_8 : decode cX1_takeIn 8 = .ok (.aload_n 0, 1) := by decide +kernel
theorem dX1_takeIn_9 : decode cX1_takeIn 9 = .ok (.getfield 24, 3) := by decide +kernel
theorem dX1_takeIn_12 : decode cX1_takeIn 12 = .ok (.iload_n 2, 1) := by decide +kernel
theorem dX1_takeIn_13 : decode cX1_takeIn 13 = .ok (.invokevirtual 57, 3) := by decide +kernel
theorem dX1_takeIn_16 : decode cX1_takeIn 16 = .ok (.aload_n 0, 1) := by decide +kernel
theorem dX1_takeIn_17 : decode cX1_takeIn 17 = .ok (.dup, 1) := by decide +kernel
theorem dX1_takeIn_18 : decode cX1_takeIn 18 = .ok (.getfield 60, 3) := by decide +kernel
theorem dX1_takeIn_21 : decode cX1_takeIn 21 = .ok (.iconst 1, 1) := by decide +kernel
theorem dX1_takeIn_22 : decode cX1_takeIn 22 = .ok (.iadd, 1) := by decide +kernel
theorem dX1_takeIn_23 : decode cX1_takeIn 23 = .ok (.putfield 60, 3) := by decide +kernel
theorem dX1_takeIn_26 : decode cX1_takeIn 26 = .ok (.return_, 1) := by decide +kernel
theorem dX1_letFirstGo_0 : decode cX1_letFirstGo 0 = .ok (.aload_n 0, 1) := by decide +kernel
theorem dX1_letFirstGo_1 : decode cX1_letFirstGo 1 = .ok (.getfield 20, 3) := by decide +kernel
theorem dX1_letFirstGo_4 : decode cX1_letFirstGo 4 = .ok (.invokevirtual 63, 3) := by decide +kernel
theorem dX1_letFirstGo_7 : decode cX1_letFirstGo 7 = .ok (.aload_n 0, 1) := by decide +kernel
theorem dX1_letFirstGo_8 : decode cX1_letFirstGo 8 = .ok (.getfield 24, 3) := by decide +kernel
theorem dX1_letFirstGo_11 : decode cX1_letFirstGo 11 = .ok (.invokevirtual 63, 3) := by decide +kernel
theorem dX1_letFirstGo_14 : decode cX1_letFirstGo 14 = .ok (.aload_n 0, 1) := by decide +kernel
theorem dX1_letFirstGo_15 : decode cX1_letFirstGo 15 = .ok (.dup, 1) := by decide +kernel
theorem dX1_letFirstGo_16 : decode cX1_letFirstGo 16 = .ok (.getfield 66, 3) := by decide +kernel
theorem dX1_letFirstGo_19 : decode cX1_letFirstGo 19 = .ok (.iconst 1, 1) := by decide +kernel
theorem dX1_letFirstGo_20 : decode cX1_letFirstGo 20 = .ok (.iadd, 1) := by decide +kernel
theorem dX1_letFirstGo_21 : decode cX1_letFirstGo 21 = .ok (.putfield 66, 3) := by decide +kernel
theorem dX1_letFirstGo_24 : decode cX1_letFirstGo 24 = .ok (.return_, 1) := by decide +kernel
theorem dX1_countTurn_0 : decode cX1_countTurn 0 = .ok (.iload_n 1, 1) := by decide +kernel
theorem dX1_countTurn_1 : decode cX1_countTurn 1 = .ok (.ifCond .lt 22, 3) := by decide +kernel
theorem dX1_countTurn_23 : decode cX1_countTurn 23 = .ok (.return_, 1) := by decide +kernel
theorem dX1_countTurn_4 : decode cX1_countTurn 4 = .ok (.iload_n 1, 1) := by decide +kernel
theorem dX1_countTurn_5 : decode cX1_countTurn 5 = .ok (.aload_n 0, 1) := by decide +kernel
theorem dX1_countTurn_6 : decode cX1_countTurn 6 = .ok (.getfield 27, 3) := by decide +kernel
theorem dX1_countTurn_9 : decode cX1_countTurn 9 = .ok (.arraylength, 1) := by decide +kernel
theorem dX1_countTurn_10 : decode cX1_countTurn 10 = .ok (.if_icmp .ge 13, 3) := by decide +kernel
theorem dX1_countTurn_13 : decode cX1_countTurn 13 = .ok (.aload_n 0, 1) := by decide +kernel
theorem dX1_countTurn_14 : decode cX1_countTurn 14 = .ok (.getfield 27, 3) := by decide +kernel
theorem dX1_countTurn_17 : decode cX1_countTurn 17 = .ok (.iload_n 1, 1) := by decide +kernel
theorem dX1_countTurn_18 : decode cX1_countTurn 18 = .ok (.dup2, 1) := by decide +kernel
theorem dX1_countTurn_19 : decode cX1_countTurn 19 = .ok (.iaload, 1) := by decide +kernel
theorem dX1_countTurn_20 : decode cX1_countTurn 20 = .ok (.iconst 1, 1) := by decide +kernel
theorem dX1_countTurn_21 : decode cX1_countTurn 21 = .ok (.iadd, 1) := by decide +kernel
theorem dX1_countTurn_22 : decode cX1_countTurn 22 = .ok (.iastore, 1) := by decide +kernel
theorem dX1_countQueueIn_0 : decode cX1_countQueueIn 0 = .ok (.aload_n 0, 1) := by decide +kernel
theorem dX1_countQueueIn_1 : decode cX1_countQueueIn 1 = .ok (.iload_n 1, 1) := by decide +kernel
theorem dX1_countQueueIn_2 : decode cX1_countQueueIn 2 = .ok (.invokevirtual 44, 3) := by decide +kernel
theorem dX1_countQueueIn_5 : decode cX1_countQueueIn 5 = .ok (.istore_n 2, 1) := by decide +kernel
theorem dX1_countQueueIn_6 : decode cX1_countQueueIn 6 = .ok (.aload_n 0, 1) := by decide +kernel
theorem dX1_countQueueIn_7 : decode cX1_countQueueIn 7 = .ok (.aload_n 0, 1) := by decide +kernel
theorem dX1_countQueueIn_8 : decode cX1_countQueueIn 8 = .ok (.getfield 69, 3) := by decide +kernel
theorem dX1_countQueueIn_11 : decode cX1_countQueueIn 11 = .ok (.iload_n 2, 1) := by decide +kernel
theorem dX1_countQueueIn_12 : decode cX1_countQueueIn 12 = .ok (.invokestatic 72, 3) := by decide +kernel
theorem dX1_countQueueIn_15 : decode cX1_countQueueIn 15 = .ok (.putfield 69, 3) := by decide +kernel
theorem dX1_countQueueIn_18 : decode cX1_countQueueIn 18 = .ok (.aload_n 0, 1) := by decide +kernel
theorem dX1_countQueueIn_19 : decode cX1_countQueueIn 19 = .ok (.dup, 1) := by decide +kernel
theorem dX1_countQueueIn_20 : decode cX1_countQueueIn 20 = .ok (.getfield 78, 3) := by decide +kernel
theorem dX1_countQueueIn_23 : decode cX1_countQueueIn 23 = .ok (.iload_n 2, 1) := by decide +kernel
theorem dX1_countQueueIn_24 : decode cX1_countQueueIn 24 = .ok (.iadd, 1) := by decide +kernel
theorem dX1_countQueueIn_25 : decode cX1_countQueueIn 25 = .ok (.putfield 78, 3) := by decide +kernel
theorem dX1_countQueueIn_28 : decode cX1_countQueueIn 28 = .ok (.return_, 1) := by decide +kernel
set_option maxRecDepth 100000 in
set_option maxHeartbeats 4000000 in
/-- Link.playSlowTick -/
theorem c_Link_playSlowTick (l : Launch) (dC : Nat → ClassId) (dI : Nat → Nat → Nat) (cy : Nat → ClassId) (L : Lay) (tr : Option Nat) (a : St) (κ : Kap) (τ : Tau) (i : Nat) (sz : Nat) (hT : TL L tr τ) (hi : i < 24) : Met l yX1_playSlowTick (tp_w yX1_playSlowTick cX1_playSlowTick 1 none) ({ frames := 0, cells := 0, slots := 0, locals := 0 }) (va_Pc [.ref (L 2 i)] (mPre dC dI cy (TW cy L tr a κ τ) sz)) (va_Qv (fun _ : Unit => True) (fun (_ : Unit) (t : State) => mw (dC, dI) vwCl (mA (TW cy L tr a κ τ) sz) (TW cy L tr (L_slow a i) κ τ) t.heap) (mA (TW cy L tr a κ τ) sz)) (0) (0) (mA (TW cy L tr a κ τ) sz) := by
  refine Met.ofW (cc := cX1_playSlowTick) (maxL := 1) (ret := none) (by decide) rfl ?_
  intro p e s m args below meth c s₁ B hml hv
  obtain ⟨rfl, hsz, hP, hK, hE⟩ := hv
  have hx := B.exec
  have hb := B.bytes
  have hr := B.returns
  have hts0 := atoms_spec (ws := tp_w yX1_playSlowTick cX1_playSlowTick 1 none) B.pre
  have hts : ∀ w ∈ tp_all, w.before _ s = true := fun w h => hts0 w (List.mem_cons_of_mem _ h)
  have hown : s.vm.findClass RX1 = some m.cls := findClass_of_methodNamed B.named
  have hlocks := B.notSynchronized
  subst hsz
  have hP := hP.self s.heap.size
  generalize hAe : mA (TW cy L tr a κ τ) s.heap.size = A at hP ⊢
  have hA : ∀ q : Nat, s.heap.size ≤ q → A q := fun q h => by rw [← hAe]; exact Or.inr h
  have hS : va_S A s.heap s.heap [] := va_S.rf
  have hl9 := lv_entry ([.ref (L 2 i)]) (n := 1) (Nat.le_of_ble_eq_true rfl)
  rw [lg_entry_eq]
  generalize (lg_sl ([.ref (L 2 i)]) ++ List.replicate (1 - (lg_sl ([.ref (L 2 i)])).length) Slot.unset).toArray = ls at hl9 ⊢
  have hl : lv_has ls 1 [(0, .ref (L 2 i))] := hl9
  refine lv_aload_n hx hb dX1_playSlowTick_0 rfl (lv_at hl 0 rfl) ?_
  refine va_get (D := (dC, dI)) (ws := [(L 2 i, .inr (1, [.int ((a 2 i) 0), .int ((a 2 i) 1), .int ((a 2 i) 2), .int ((a 2 i) 3), .int ((a 2 i) 4), .int ((a 2 i) 5), .int ((a 2 i) 6), .int ((a 2 i) 7), .int ((a 2 i) 8), .ref (L 3 i), .ref (L 5 i), .int ((a 2 i) 9), .int ((a 2 i) 10), .int ((a 2 i) 11), .int ((a 2 i) 12), .ref (L 7 i)]))]) (ci := 1) (v := .int ((a 2 i) 6)) (C := RX1) (T := TX1) (N := 16) hx hb hts tl_X1 hown hK (hP.one (tw_mem (f := 2) (i := i) hi rfl)) 0 rfl rfl 6 (by decide) (hts _ tw_640) (fun _ h9 => h9) rfl dX1_playSlowTick_1 ?_
  refine lv_if_le (tgt := 20) hx hb dX1_playSlowTick_4 (by decide) (fun c_1 => ?_) (fun c_1 => ?_)
  · refine lv_aload_n hx hb dX1_playSlowTick_20 rfl (lv_at hl 0 rfl) ?_
    refine va_get (D := (dC, dI)) (ws := [(L 2 i, .inr (1, [.int ((a 2 i) 0), .int ((a 2 i) 1), .int ((a 2 i) 2), .int ((a 2 i) 3), .int ((a 2 i) 4), .int ((a 2 i) 5), .int ((a 2 i) 6), .int ((a 2 i) 7), .int ((a 2 i) 8), .ref (L 3 i), .ref (L 5 i), .int ((a 2 i) 9), .int ((a 2 i) 10), .int ((a 2 i) 11), .int ((a 2 i) 12), .ref (L 7 i)]))]) (ci := 1) (v := .int ((a 2 i) 6)) (C := RX1) (T := TX1) (N := 16) hx hb hts tl_X1 hown hK (hP.one (tw_mem (f := 2) (i := i) hi rfl)) 0 rfl rfl 6 (by decide) (hts _ tw_640) (fun _ h9 => h9) rfl dX1_playSlowTick_21 ?_
    refine lv_if_ne (tgt := 40) hx hb dX1_playSlowTick_24 (by decide) (fun c_2 => ?_) (fun c_2 => ?_)
    · refine W.widen (k := 0) (n := 0) (Nat.le_of_ble_eq_true rfl) (Nat.le_of_ble_eq_true rfl) ?_
      have s_1 : a = L_slow a i := by
        first | rfl | (simp only [L_slow, X_slow, S2_id, if_pos c_1, if_neg c_2])
      rw [s_1] at hP
      exact W.vret hx hb hr (fun t ht hW => ⟨⟨(), rfl, trivial, (by show mw _ _ _ _ t.heap; rw [ht]; exact hP)⟩, hS.F ht⟩) hS.2.2 dX1_playSlowTick_40
    · refine lv_aload_n hx hb dX1_playSlowTick_27 rfl (lv_at hl 0 rfl) ?_
      refine lv_iconst (v := -1) hx hb dX1_playSlowTick_28 (by decide) ?_
      obtain ⟨ws9, k9, hPw, hDw, hk9, -, hbk⟩ := hP.cut (e := .inr (1, [.int ((a 2 i) 0), .int ((a 2 i) 1), .int ((a 2 i) 2), .int ((a 2 i) 3), .int ((a 2 i) 4), .int ((a 2 i) 5), .int ((a 2 i) 6), .int ((a 2 i) 7), .int ((a 2 i) 8), .ref (L 3 i), .ref (L 5 i), .int ((a 2 i) 9), .int ((a 2 i) 10), .int ((a 2 i) 11), .int ((a 2 i) 12), .ref (L 7 i)])) (tw_mem (f := 2) (i := i) hi rfl)
      refine va_put (D := (dC, dI)) (ci := 1) (v := .int ((-1))) (ty := .int) (C := RX1) (T := TX1) (N := 16) hx hb hts tl_X1 tyX1 tyX1_ok nmX1 hown hK hPw hDw hS k9 hk9 rfl 6 (by decide) (hts _ tw_640) (fun _ h9 => h9) rfl (by decide +kernel) rfl rfl (Nat.le_of_ble_eq_true rfl) dX1_playSlowTick_29 (fun H locs hPw hDw hS => ?_)
      have hP : mw (dC, dI) vwCl A (TW cy L tr (S2 a 2 i (upd (a 2 i) 6 ((-1)))) κ τ) H := (hbk _ _ hPw hDw).sub (tw_set (b := S2 a 2 i (upd (a 2 i) 6 ((-1)))) (f := 2) (i := i) (x := upd (a 2 i) 6 ((-1))) hT hi (by decide) rfl)
      clear hbk hPw hDw hk9
      refine lv_aload_n hx hb dX1_playSlowTick_32 rfl (lv_at hl 0 rfl) ?_
      refine lv_aload_n hx hb dX1_playSlowTick_33 rfl (lv_at hl 0 rfl) ?_
      refine va_get (D := (dC, dI)) (ws := [(L 2 i, .inr (1, [.int ((a 2 i) 0), .int ((a 2 i) 1), .int ((a 2 i) 2), .int ((a 2 i) 3), .int ((a 2 i) 4), .int ((a 2 i) 5), .int ((-1)), .int ((a 2 i) 7), .int ((a 2 i) 8), .ref (L 3 i), .ref (L 5 i), .int ((a 2 i) 9), .int ((a 2 i) 10), .int ((a 2 i) 11), .int ((a 2 i) 12), .ref (L 7 i)]))]) (ci := 1) (v := .int ((a 2 i) 4)) (C := RX1) (T := TX1) (N := 16) hx hb hts tl_X1 hown hK (hP.one (tw_mem (f := 2) (i := i) hi S2_eq)) 0 rfl rfl 4 (by decide) (hts _ tw_634) (fun _ h9 => h9) rfl dX1_playSlowTick_34 ?_
      obtain ⟨ws9, k9, hPw, hDw, hk9, -, hbk⟩ := hP.cut (e := .inr (1, [.int ((a 2 i) 0), .int ((a 2 i) 1), .int ((a 2 i) 2), .int ((a 2 i) 3), .int ((a 2 i) 4), .int ((a 2 i) 5), .int ((-1)), .int ((a 2 i) 7), .int ((a 2 i) 8), .ref (L 3 i), .ref (L 5 i), .int ((a 2 i) 9), .int ((a 2 i) 10), .int ((a 2 i) 11), .int ((a 2 i) 12), .ref (L 7 i)])) (tw_mem (f := 2) (i := i) hi S2_eq)
      refine va_put (D := (dC, dI)) (ci := 1) (v := .int ((a 2 i) 4)) (ty := .int) (C := RX1) (T := TX1) (N := 16) hx hb hts tl_X1 tyX1 tyX1_ok nmX1 hown hK hPw hDw hS k9 hk9 rfl 5 (by decide) (hts _ tw_636) (fun _ h9 => h9) rfl (by decide +kernel) rfl rfl (Nat.le_of_ble_eq_true rfl) dX1_playSlowTick_37 (fun H locs hPw hDw hS => ?_)
      have hP : mw (dC, dI) vwCl A (TW cy L tr (S2 a 2 i (upd (upd (a 2 i) 6 ((-1))) 5 ((a 2 i) 4))) κ τ) H := (hbk _ _ hPw hDw).sub (tw_set (b := S2 a 2 i (upd (upd (a 2 i) 6 ((-1))) 5 ((a 2 i) 4))) (f := 2) (i := i) (x := upd (upd (a 2 i) 6 ((-1))) 5 ((a 2 i) 4)) hT hi (by decide) S2_S2.symm)
      clear hbk hPw hDw hk9
      refine W.widen (k := 0) (n := 0) (Nat.le_of_ble_eq_true rfl) (Nat.le_of_ble_eq_true rfl) ?_
      have s_2 : S2 a 2 i (upd (upd (a 2 i) 6 ((-1))) 5 ((a 2 i) 4)) = L_slow a i := by
        first | rfl | (simp only [L_slow, X_slow, S2_id, if_pos c_1, if_pos c_2])
      rw [s_2] at hP
      exact W.vret hx hb hr (fun t ht hW => ⟨⟨(), rfl, trivial, (by show mw _ _ _ _ t.heap; rw [ht]; exact hP)⟩, hS.F ht⟩) hS.2.2 dX1_playSlowTick_40
  · refine lv_aload_n hx hb dX1_playSlowTick_7 rfl (lv_at hl 0 rfl) ?_
    refine lv_dup hx hb dX1_playSlowTick_8 rfl ?_
    refine va_get (D := (dC, dI)) (ws := [(L 2 i, .inr (1, [.int ((a 2 i) 0), .int ((a 2 i) 1), .int ((a 2 i) 2), .int ((a 2 i) 3), .int ((a 2 i) 4), .int ((a 2 i) 5), .int ((a 2 i) 6), .int ((a 2 i) 7), .int ((a 2 i) 8), .ref (L 3 i), .ref (L 5 i), .int ((a 2 i) 9), .int ((a 2 i) 10), .int ((a 2 i) 11), .int ((a 2 i) 12), .ref (L 7 i)]))]) (ci := 1) (v := .int ((a 2 i) 6)) (C := RX1) (T := TX1) (N := 16) hx hb hts tl_X1 hown hK (hP.one (tw_mem (f := 2) (i := i) hi rfl)) 0 rfl rfl 6 (by decide) (hts _ tw_640) (fun _ h9 => h9) rfl dX1_playSlowTick_9 ?_
    refine lv_iconst (v := 1) hx hb dX1_playSlowTick_12 (by decide) ?_
    refine lv_isub hx hb dX1_playSlowTick_13 ?_
    obtain ⟨ws9, k9, hPw, hDw, hk9, -, hbk⟩ := hP.cut (e := .inr (1, [.int ((a 2 i) 0), .int ((a 2 i) 1), .int ((a 2 i) 2), .int ((a 2 i) 3), .int ((a 2 i) 4), .int ((a 2 i) 5), .int ((a 2 i) 6), .int ((a 2 i) 7), .int ((a 2 i) 8), .ref (L 3 i), .ref (L 5 i), .int ((a 2 i) 9), .int ((a 2 i) 10), .int ((a 2 i) 11), .int ((a 2 i) 12), .ref (L 7 i)])) (tw_mem (f := 2) (i := i) hi rfl)
    refine va_put (D := (dC, dI)) (ci := 1) (v := .int (((a 2 i) 6) - 1)) (ty := .int) (C := RX1) (T := TX1) (N := 16) hx hb hts tl_X1 tyX1 tyX1_ok nmX1 hown hK hPw hDw hS k9 hk9 rfl 6 (by decide) (hts _ tw_640) (fun _ h9 => h9) rfl (by decide +kernel) rfl rfl (Nat.le_of_ble_eq_true rfl) dX1_playSlowTick_14 (fun H locs hPw hDw hS => ?_)
    have hP : mw (dC, dI) vwCl A (TW cy L tr (S2 a 2 i (upd (a 2 i) 6 (((a 2 i) 6) - 1))) κ τ) H := (hbk _ _ hPw hDw).sub (tw_set (b := S2 a 2 i (upd (a 2 i) 6 (((a 2 i) 6) - 1))) (f := 2) (i := i) (x := upd (a 2 i) 6 (((a 2 i) 6) - 1)) hT hi (by decide) rfl)
    clear hbk hPw hDw hk9
    refine lv_goto (tgt := 40) hx hb dX1_playSlowTick_17 (by decide) ?_
    refine W.widen (k := 0) (n := 0) (Nat.le_of_ble_eq_true rfl) (Nat.le_of_ble_eq_true rfl) ?_
    have s_3 : S2 a 2 i (upd (a 2 i) 6 (((a 2 i) 6) - 1)) = L_slow a i := by
      first | rfl | (simp only [L_slow, X_slow, S2_id, if_neg c_1])
    rw [s_3] at hP
    exact W.vret hx hb hr (fun t ht hW => ⟨⟨(), rfl, trivial, (by show mw _ _ _ _ t.heap; rw [ht]; exact hP)⟩, hS.F ht⟩) hS.2.2 dX1_playSlowTick_40
set_option maxRecDepth 100000 in
set_option maxHeartbeats 4000000 in
/-- Link.hasQueueIn -/
theorem c_Link_hasQueueIn (l : Launch) (dC : Nat → ClassId) (dI : Nat → Nat → Nat) (cy : Nat → ClassId) (L : Lay) (tr : Option Nat) (a : St) (κ : Kap) (τ : Tau) (i : Nat) (tk : Int32) (sz : Nat) (hT : TL L tr τ) (hi : i < 24) (h5 : (a 5 i 0).toInt ≤ 30) : Met l yX1_hasQueueIn (tp_w yX1_hasQueueIn cX1_hasQueueIn 2 (some .boolean)) ({ frames := 1, cells := 0, slots := 0, locals := 21 }) (va_Pc [.ref (L 2 i), .int tk] (mPre dC dI cy (TW cy L tr a κ τ) sz)) (va_Qi (fun (r u : Int32) => r = u) (fun (u : Int32) (t : State) => (u = L_has a i tk) ∧ mw (dC, dI) vwCl (mA (TW cy L tr a κ τ) sz) (TW cy L tr a κ τ) t.heap) (mA (TW cy L tr a κ τ) sz)) (0) (0) (mA (TW cy L tr a κ τ) sz) := by
  refine Met.ofW (cc := cX1_hasQueueIn) (maxL := 2) (ret := (some .boolean)) (by decide) rfl ?_
  intro p e s m args below meth c s₁ B hml hv
  obtain ⟨rfl, hsz, hP, hK, hE⟩ := hv
  have hx := B.exec
  have hb := B.bytes
  have hr := B.returns
  have hts0 := atoms_spec (ws := tp_w yX1_hasQueueIn cX1_hasQueueIn 2 (some .boolean)) B.pre
  have hts : ∀ w ∈ tp_all, w.before _ s = true := fun w h => hts0 w (List.mem_cons_of_mem _ h)
  have hown : s.vm.findClass RX1 = some m.cls := findClass_of_methodNamed B.named
  have hlocks := B.notSynchronized
  subst hsz
  have hP := hP.self s.heap.size
  generalize hAe : mA (TW cy L tr a κ τ) s.heap.size = A at hP ⊢
  have hA : ∀ q : Nat, s.heap.size ≤ q → A q := fun q h => by rw [← hAe]; exact Or.inr h
  have hS : va_S A s.heap s.heap [] := va_S.rf
  have hl9 := lv_entry ([.ref (L 2 i), .int tk]) (n := 2) (Nat.le_of_ble_eq_true rfl)
  rw [lg_entry_eq]
  generalize (lg_sl ([.ref (L 2 i), .int tk]) ++ List.replicate (2 - (lg_sl ([.ref (L 2 i), .int tk])).length) Slot.unset).toArray = ls at hl9 ⊢
  have hl : lv_has ls 2 [(0, .ref (L 2 i)), (1, .int tk)] := hl9
  refine lv_aload_n hx hb dX1_hasQueueIn_0 rfl (lv_at hl 0 rfl) ?_
  refine va_get (D := (dC, dI)) (ws := [(L 2 i, .inr (1, [.int ((a 2 i) 0), .int ((a 2 i) 1), .int ((a 2 i) 2), .int ((a 2 i) 3), .int ((a 2 i) 4), .int ((a 2 i) 5), .int ((a 2 i) 6), .int ((a 2 i) 7), .int ((a 2 i) 8), .ref (L 3 i), .ref (L 5 i), .int ((a 2 i) 9), .int ((a 2 i) 10), .int ((a 2 i) 11), .int ((a 2 i) 12), .ref (L 7 i)]))]) (ci := 1) (v := .ref (L 5 i)) (C := RX1) (T := TX1) (N := 16) hx hb hts tl_X1 hown hK (hP.one (tw_mem (f := 2) (i := i) hi rfl)) 0 rfl rfl 10 (by decide) (hts _ tw_651) (fun _ h9 => h9) rfl dX1_hasQueueIn_1 ?_
  refine va_getN (D := (dC, dI)) (ws := [(L 5 i, .inr (3, [.ref (L 6 i), .int ((a 5 i) 0)]))]) (ci := 3) (v := .int ((a 5 i) 0)) (C := RX3) (T := TX3) (N := 2) hx hb hts tl_X3 hown hK (hP.one (tw_mem (f := 5) (i := i) hi rfl)) 0 rfl rfl 1 (by decide) (va_Nw.use rfl (te_f0 hE)) (fun _ h9 => h9) rfl dX1_hasQueueIn_4 ?_
  refine lv_if_le (tgt := 26) hx hb dX1_hasQueueIn_7 (by decide) (fun c_1 => ?_) (fun c_1 => ?_)
  · refine lv_iconst (v := 0) hx hb dX1_hasQueueIn_26 (by decide) ?_
    refine W.widen (k := 0) (n := 0) (Nat.le_of_ble_eq_true rfl) (Nat.le_of_ble_eq_true rfl) ?_
    have g_1 : 0 = L_has a i tk := by
      first | rfl | assumption | (simp only [L_has, if_pos c_1])
    exact W.zret (v := 0) hx hb hr rfl (fun t ht hW => ⟨⟨0, 0, rfl, rfl, ⟨g_1, by show mw _ _ _ _ t.heap; rw [ht]; exact hP⟩⟩, hS.F ht⟩) hS.2.2 dX1_hasQueueIn_27
  · refine lv_aload_n hx hb dX1_hasQueueIn_10 rfl (lv_at hl 0 rfl) ?_
    refine va_get (D := (dC, dI)) (ws := [(L 2 i, .inr (1, [.int ((a 2 i) 0), .int ((a 2 i) 1), .int ((a 2 i) 2), .int ((a 2 i) 3), .int ((a 2 i) 4), .int ((a 2 i) 5), .int ((a 2 i) 6), .int ((a 2 i) 7), .int ((a 2 i) 8), .ref (L 3 i), .ref (L 5 i), .int ((a 2 i) 9), .int ((a 2 i) 10), .int ((a 2 i) 11), .int ((a 2 i) 12), .ref (L 7 i)]))]) (ci := 1) (v := .ref (L 5 i)) (C := RX1) (T := TX1) (N := 16) hx hb hts tl_X1 hown hK (hP.one (tw_mem (f := 2) (i := i) hi rfl)) 0 rfl rfl 10 (by decide) (hts _ tw_651) (fun _ h9 => h9) rfl dX1_hasQueueIn_11 ?_
    refine lv_iconst (v := 0) hx hb dX1_hasQueueIn_14 (by decide) ?_
    have hFc := m_free (C := (TW cy L tr a κ τ)) hP hS hA (fun _ _ h => h)
    refine va_calli (va_runV (As := [.int 0]) (rest := []) ⟨hx, hb, hml, hown, hts⟩ (c_Row_get_ends l dC dI cy L tr a κ τ i 0 s.heap.size hT hi h5) (tp_cwV 1 hts tw_186 tw_187 tw_188 tw_24 tw_189 rfl rfl (by decide +kernel) ⟨Nat.le_of_ble_eq_true rfl, Nat.le_of_ble_eq_true rfl⟩) ⟨m_blind, va_recv hK (hP.one (e := .inr (3, [.ref (L 6 i), .int ((a 5 i) 0)])) (tw_mem (f := 5) (i := i) hi rfl)) (ci := 3) (q0 := 0) rfl rfl, fun U hU hW => ⟨rfl, m_pay hK hP hE (fun _ _ h => h) U hU hW⟩⟩ rfl rfl hl.1 rfl (lv_room (Nat.le_of_ble_eq_true rfl)) dX1_hasQueueIn_15 ⟨(Nat.le_of_ble_eq_true rfl), (Nat.le_of_ble_eq_true rfl)⟩) hS (fun q _ h => hFc q h) hFc (fun r_1 u t H1 locs ht hvm hw hB hz1 hk1 hS => ?_)
    obtain rfl := hw
    obtain ⟨f_1, hP1⟩ := hB
    subst f_1
    rw [ht] at hP1
    have hP : mw (dC, dI) vwCl A (TW cy L tr a κ τ) H1 := hP.join (fun _ _ h => h) hk1 hFc hP1 (fun _ _ h => Or.inl h)
    generalize H1 = H at hP hS ⊢
    clear hP1 hk1 hFc
    refine lv_iload_n hx hb dX1_hasQueueIn_18 rfl (lv_at hl 1 rfl) ?_
    refine lv_icmp_gt (tgt := 26) hx hb dX1_hasQueueIn_19 (by decide) (fun c_2 => ?_) (fun c_2 => ?_)
    · refine lv_iconst (v := 0) hx hb dX1_hasQueueIn_26 (by decide) ?_
      refine W.widen (k := 0) (n := 0) (Nat.le_of_ble_eq_true rfl) (Nat.le_of_ble_eq_true rfl) ?_
      have g_2 : 0 = L_has a i tk := by
        first | rfl | assumption | (simp only [L_has, if_neg c_1, if_pos c_2])
      exact W.zret (v := 0) hx hb hr rfl (fun t ht hW => ⟨⟨0, 0, rfl, rfl, ⟨g_2, by show mw _ _ _ _ t.heap; rw [ht]; exact hP⟩⟩, hS.F ht⟩) hS.2.2 dX1_hasQueueIn_27
    · refine lv_iconst (v := 1) hx hb dX1_hasQueueIn_22 (by decide) ?_
      refine lv_goto (tgt := 27) hx hb dX1_hasQueueIn_23 (by decide) ?_
      refine W.widen (k := 0) (n := 0) (Nat.le_of_ble_eq_true rfl) (Nat.le_of_ble_eq_true rfl) ?_
      have g_3 : 1 = L_has a i tk := by
        first | rfl | assumption | (simp only [L_has, if_neg c_1, if_neg c_2])
      exact W.zret (v := 1) hx hb hr rfl (fun t ht hW => ⟨⟨1, 1, rfl, rfl, ⟨g_3, by show mw _ _ _ _ t.heap; rw [ht]; exact hP⟩⟩, hS.F ht⟩) hS.2.2 dX1_hasQueueIn_27
set_option maxRecDepth 100000 in
set_option maxHeartbeats 4000000 in
/-- Link.queueIn -/
theorem c_Link_queueIn (l : Launch) (dC : Nat → ClassId) (dI : Nat → Nat → Nat) (cy : Nat → ClassId) (L : Lay) (tr : Option Nat) (a : St) (κ : Kap) (τ : Tau) (i : Nat) (tk : Int32) (sz : Nat) (hT : TL L tr τ) (hi : i < 24) (h5l : 0 ≤ (a 5 i 0).toInt) (h5 : (a 5 i 0).toInt ≤ 30) : Met l yX1_queueIn (tp_w yX1_queueIn cX1_queueIn 3 (some .int)) ({ frames := 1, cells := 0, slots := 0, locals := 21 }) (va_Pc [.ref (L 2 i), .int tk] (mPre dC dI cy (TW cy L tr a κ τ) sz)) (va_Qi (fun (r u : Int32) => r = u) (fun (u : Int32) (t : State) => (u = L_q a i tk) ∧ mw (dC, dI) vwCl (mA (TW cy L tr a κ τ) sz) (TW cy L tr a κ τ) t.heap) (mA (TW cy L tr a κ τ) sz)) (0) (0) (mA (TW cy L tr a κ τ) sz) := by
  refine Met.ofW (cc := cX1_queueIn) (maxL := 3) (ret := (some .int)) (by decide) rfl ?_
  intro p e s m args below meth c s₁ B hml hv
  obtain ⟨rfl, hsz, hP, hK, hE⟩ := hv
  have hx := B.exec
  have hb := B.bytes
  have hr := B.returns
  have hts0 := atoms_spec (ws := tp_w yX1_queueIn cX1_queueIn 3 (some .int)) B.pre
  have hts : ∀ w ∈ tp_all, w.before _ s = true := fun w h => hts0 w (List.mem_cons_of_mem _ h)
  have hown : s.vm.findClass RX1 = some m.cls := findClass_of_methodNamed B.named
  have hlocks := B.notSynchronized
  subst hsz
  have hP := hP.self s.heap.size
  generalize hAe : mA (TW cy L tr a κ τ) s.heap.size = A at hP ⊢
  have hA : ∀ q : Nat, s.heap.size ≤ q → A q := fun q h => by rw [← hAe]; exact Or.inr h
  have hS : va_S A s.heap s.heap [] := va_S.rf
  have hl9 := lv_entry ([.ref (L 2 i), .int tk]) (n := 3) (Nat.le_of_ble_eq_true rfl)
  rw [lg_entry_eq]
  generalize (lg_sl ([.ref (L 2 i), .int tk]) ++ List.replicate (3 - (lg_sl ([.ref (L 2 i), .int tk])).length) Slot.unset).toArray = ls at hl9 ⊢
  have hl : lv_has ls 3 [(0, .ref (L 2 i)), (1, .int tk)] := hl9
  refine lv_iconst (v := 0) hx hb dX1_queueIn_0 (by decide) ?_
  refine lv_istore_n (lv' := [(2, .int 0), (0, .ref (L 2 i)), (1, .int tk)]) hx hb dX1_queueIn_1 rfl hl (by decide) rfl (fun ls hl => ?_)
  have hn : a 5 i 0 = nI (a 5 i 0).toNatClampNeg := m_n0 h5l
  generalize hN : (a 5 i 0).toNatClampNeg = N at hn
  have hN30 : N ≤ 30 := by have h9 := m_tn h5l; omega
  suffices hloop : ∀ (d k : Nat), k + d = N → Q_in (a 6 i) tk d k = Q_in (a 6 i) tk N 0 → ∀ ls : Array Slot, lv_has ls 3 [(2, .int (nI k)), (0, .ref (L 2 i)), (1, .int tk)] → ∀ (H : Heap) (locs : List Loc), mw (dC, dI) vwCl A (TW cy L tr a κ τ) H → va_S A s.heap H locs → W p l e _ s m _ below meth c H locs 0 0 _ (F0 m 2 ls []) from hloop N 0 (by omega) rfl ls (lv_sub hl [0, 1, 2] rfl) _ _ hP hS
  clear hP hS hl hl9 ls
  intro d
  induction d with
  | zero =>
    intro k hk hq ls hl H locs hP hS
    refine lv_iload_n hx hb dX1_queueIn_2 rfl (lv_at hl 0 rfl) ?_
    refine lv_aload_n hx hb dX1_queueIn_3 rfl (lv_at hl 1 rfl) ?_
    refine va_get (D := (dC, dI)) (ws := [(L 2 i, .inr (1, [.int ((a 2 i) 0), .int ((a 2 i) 1), .int ((a 2 i) 2), .int ((a 2 i) 3), .int ((a 2 i) 4), .int ((a 2 i) 5), .int ((a 2 i) 6), .int ((a 2 i) 7), .int ((a 2 i) 8), .ref (L 3 i), .ref (L 5 i), .int ((a 2 i) 9), .int ((a 2 i) 10), .int ((a 2 i) 11), .int ((a 2 i) 12), .ref (L 7 i)]))]) (ci := 1) (v := .ref (L 5 i)) (C := RX1) (T := TX1) (N := 16) hx hb hts tl_X1 hown hK (hP.one (tw_mem (f := 2) (i := i) hi rfl)) 0 rfl rfl 10 (by decide) (hts _ tw_651) (fun _ h9 => h9) rfl dX1_queueIn_4 ?_
    refine va_getN (D := (dC, dI)) (ws := [(L 5 i, .inr (3, [.ref (L 6 i), .int ((a 5 i) 0)]))]) (ci := 3) (v := .int ((a 5 i) 0)) (C := RX3) (T := TX3) (N := 2) hx hb hts tl_X3 hown hK (hP.one (tw_mem (f := 5) (i := i) hi rfl)) 0 rfl rfl 1 (by decide) (va_Nw.use rfl (te_f0 hE)) (fun _ h9 => h9) rfl dX1_queueIn_7 ?_
    refine W.eq (g2 := F0 m 10 ls [.int (nI N), .int (nI k)]) (by rw [hn]) ?_
    have e9 : k = N := by omega
    refine lv_icmp_ge (tgt := 31) hx hb dX1_queueIn_10 (by decide) (fun _ => ?_) (fun c_1 => absurd (by rw [e9]; exact Int32.le_refl _) c_1)
    refine lv_iload_n hx hb dX1_queueIn_31 rfl (lv_at hl 0 rfl) ?_
    refine W.widen (k := 0) (n := 0) (Nat.le_of_ble_eq_true rfl) (Nat.le_of_ble_eq_true rfl) ?_
    have g_1 : (nI k) = L_q a i tk := by
      show nI k = nI (Q_in (a 6 i) tk (a 5 i 0).toNatClampNeg 0)
      rw [hN, ← hq]
      rfl
    exact W.iret (v := nI k) hx hb hr (fun t ht hW => ⟨⟨(nI k), (nI k), rfl, rfl, ⟨g_1, by show mw _ _ _ _ t.heap; rw [ht]; exact hP⟩⟩, hS.F ht⟩) hS.2.2 dX1_queueIn_32
  | succ d ih =>
    intro k hk hq ls hl H locs hP hS
    refine lv_iload_n hx hb dX1_queueIn_2 rfl (lv_at hl 0 rfl) ?_
    refine lv_aload_n hx hb dX1_queueIn_3 rfl (lv_at hl 1 rfl) ?_
    refine va_get (D := (dC, dI)) (ws := [(L 2 i, .inr (1, [.int ((a 2 i) 0), .int ((a 2 i) 1), .int ((a 2 i) 2), .int ((a 2 i) 3), .int ((a 2 i) 4), .int ((a 2 i) 5), .int ((a 2 i) 6), .int ((a 2 i) 7), .int ((a 2 i) 8), .ref (L 3 i), .ref (L 5 i), .int ((a 2 i) 9), .int ((a 2 i) 10), .int ((a 2 i) 11), .int ((a 2 i) 12), .ref (L 7 i)]))]) (ci := 1) (v := .ref (L 5 i)) (C := RX1) (T := TX1) (N := 16) hx hb hts tl_X1 hown hK (hP.one (tw_mem (f := 2) (i := i) hi rfl)) 0 rfl rfl 10 (by decide) (hts _ tw_651) (fun _ h9 => h9) rfl dX1_queueIn_4 ?_
    refine va_getN (D := (dC, dI)) (ws := [(L 5 i, .inr (3, [.ref (L 6 i), .int ((a 5 i) 0)]))]) (ci := 3) (v := .int ((a 5 i) 0)) (C := RX3) (T := TX3) (N := 2) hx hb hts tl_X3 hown hK (hP.one (tw_mem (f := 5) (i := i) hi rfl)) 0 rfl rfl 1 (by decide) (va_Nw.use rfl (te_f0 hE)) (fun _ h9 => h9) rfl dX1_queueIn_7 ?_
    refine W.eq (g2 := F0 m 10 ls [.int (nI N), .int (nI k)]) (by rw [hn]) ?_
    refine lv_icmp_ge (tgt := 31) hx hb dX1_queueIn_10 (by decide) (fun c_2 => absurd c_2 (nI_ge (by omega : k < N) (by omega))) (fun _ => ?_)
    refine lv_aload_n hx hb dX1_queueIn_13 rfl (lv_at hl 1 rfl) ?_
    refine va_get (D := (dC, dI)) (ws := [(L 2 i, .inr (1, [.int ((a 2 i) 0), .int ((a 2 i) 1), .int ((a 2 i) 2), .int ((a 2 i) 3), .int ((a 2 i) 4), .int ((a 2 i) 5), .int ((a 2 i) 6), .int ((a 2 i) 7), .int ((a 2 i) 8), .ref (L 3 i), .ref (L 5 i), .int ((a 2 i) 9), .int ((a 2 i) 10), .int ((a 2 i) 11), .int ((a 2 i) 12), .ref (L 7 i)]))]) (ci := 1) (v := .ref (L 5 i)) (C := RX1) (T := TX1) (N := 16) hx hb hts tl_X1 hown hK (hP.one (tw_mem (f := 2) (i := i) hi rfl)) 0 rfl rfl 10 (by decide) (hts _ tw_651) (fun _ h9 => h9) rfl dX1_queueIn_14 ?_
    refine lv_iload_n hx hb dX1_queueIn_17 rfl (lv_at hl 0 rfl) ?_
    have hFc := m_free (C := (TW cy L tr a κ τ)) hP hS hA (fun _ _ h => h)
    refine va_calli (va_runV (As := [.int (nI k)]) (rest := []) ⟨hx, hb, hml, hown, hts⟩ (c_Row_get_ends l dC dI cy L tr a κ τ i (nI k) H.size hT hi h5) (tp_cwV 1 hts tw_186 tw_187 tw_188 tw_24 tw_189 rfl rfl (by decide +kernel) ⟨Nat.le_of_ble_eq_true rfl, Nat.le_of_ble_eq_true rfl⟩) ⟨m_blind, va_recv hK (hP.one (e := .inr (3, [.ref (L 6 i), .int ((a 5 i) 0)])) (tw_mem (f := 5) (i := i) hi rfl)) (ci := 3) (q0 := 0) rfl rfl, fun U hU hW => ⟨rfl, m_pay hK hP hE (fun _ _ h => h) U hU hW⟩⟩ rfl rfl hl.1 rfl (lv_room (Nat.le_of_ble_eq_true rfl)) dX1_queueIn_18 ⟨(Nat.le_of_ble_eq_true rfl), (Nat.le_of_ble_eq_true rfl)⟩) hS (fun q _ h => hFc q h) hFc (fun r_1 u t H1 locs ht hvm hw hB hz1 hk1 hS => ?_)
    obtain rfl := hw
    obtain ⟨f_1, hP1⟩ := hB
    subst f_1
    rw [ht] at hP1
    have hP : mw (dC, dI) vwCl A (TW cy L tr a κ τ) H1 := hP.join (fun _ _ h => h) hk1 hFc hP1 (fun _ _ h => Or.inl h)
    generalize H1 = H at hP hS ⊢
    clear hP1 hk1 hFc
    have hg : R_get (a 5 i 0) (a 6 i) (nI k) = a 6 i k := by
      unfold R_get
      rw [if_neg (nI_pos (by omega)), hn, if_neg (nI_ge (by omega : k < N) (by omega)), nI_clamp (by omega)]
    refine W.eq (g2 := F0 m 21 ls [.int (a 6 i k)]) (by rw [hg]) ?_
    refine lv_iload_n hx hb dX1_queueIn_21 rfl (lv_at hl 2 rfl) ?_
    refine lv_icmp_gt (tgt := 31) hx hb dX1_queueIn_22 (by decide) (fun c_3 => ?_) (fun c_3 => ?_)
    · refine lv_iload_n hx hb dX1_queueIn_31 rfl (lv_at hl 0 rfl) ?_
      refine W.widen (k := 0) (n := 0) (Nat.le_of_ble_eq_true rfl) (Nat.le_of_ble_eq_true rfl) ?_
      have g_2 : (nI k) = L_q a i tk := by
        show nI k = nI (Q_in (a 6 i) tk (a 5 i 0).toNatClampNeg 0)
        rw [hN, ← hq]
        show _ = nI (if tk < a 6 i k then k else _)
        rw [if_pos c_3]
      exact W.iret (v := nI k) hx hb hr (fun t ht hW => ⟨⟨(nI k), (nI k), rfl, rfl, ⟨g_2, by show mw _ _ _ _ t.heap; rw [ht]; exact hP⟩⟩, hS.F ht⟩) hS.2.2 dX1_queueIn_32
    · refine lv_iinc (v := nI (k + 1)) (lv' := [(2, .int (nI (k + 1))), (0, .ref (L 2 i)), (1, .int tk)]) hx hb dX1_queueIn_25 hl (k := 0) rfl (nI_1 k) (by decide) rfl (fun ls hl => ?_)
      refine lv_goto (tgt := 2) hx hb dX1_queueIn_28 (by decide) ?_
      exact ih (k + 1) (by omega) (by rw [← hq]; show _ = if tk < a 6 i k then k else _; rw [if_neg c_3]) ls hl H locs hP hS
set_option maxRecDepth 100000 in
set_option maxHeartbeats 4000000 in
/-- Link.costIn -/
theorem c_Link_costIn (l : Launch) (dC : Nat → ClassId) (dI : Nat → Nat → Nat) (cy : Nat → ClassId) (L : Lay) (tr : Option Nat) (a : St) (κ : Kap) (τ : Tau) (i : Nat) (tk : Int32) (sz : Nat) (hT : TL L tr τ) (hi : i < 24) (h5l : 0 ≤ (a 5 i 0).toInt) (h5 : (a 5 i 0).toInt ≤ 30) : Met l yX1_costIn (tp_w yX1_costIn cX1_costIn 3 (some .int)) ({ frames := 2, cells := 0, slots := 0, locals := 43 }) (va_Pc [.ref (L 2 i), .int tk] (mPre dC dI cy (TW cy L tr a κ τ) sz)) (va_Qi (fun (r u : Int32) => r = u) (fun (u : Int32) (t : State) => (u = L_cost a i tk) ∧ mw (dC, dI) vwCl (mA (TW cy L tr a κ τ) sz) (TW cy L tr a κ τ) t.heap) (mA (TW cy L tr a κ τ) sz)) (0) (0) (mA (TW cy L tr a κ τ) sz) := by
  refine Met.ofW (cc := cX1_costIn) (maxL := 3) (ret := (some .int)) (by decide) rfl ?_
  intro p e s m args below meth c s₁ B hml hv
  obtain ⟨rfl, hsz, hP, hK, hE⟩ := hv
  have hx := B.exec
  have hb := B.bytes
  have hr := B.returns
  have hts0 := atoms_spec (ws := tp_w yX1_costIn cX1_costIn 3 (some .int)) B.pre
  have hts : ∀ w ∈ tp_all, w.before _ s = true := fun w h => hts0 w (List.mem_cons_of_mem _ h)
  have hown : s.vm.findClass RX1 = some m.cls := findClass_of_methodNamed B.named
  have hlocks := B.notSynchronized
  subst hsz
  have hP := hP.self s.heap.size
  generalize hAe : mA (TW cy L tr a κ τ) s.heap.size = A at hP ⊢
  have hA : ∀ q : Nat, s.heap.size ≤ q → A q := fun q h => by rw [← hAe]; exact Or.inr h
  have hS : va_S A s.heap s.heap [] := va_S.rf
  have hl9 := lv_entry ([.ref (L 2 i), .int tk]) (n := 3) (Nat.le_of_ble_eq_true rfl)
  rw [lg_entry_eq]
  generalize (lg_sl ([.ref (L 2 i), .int tk]) ++ List.replicate (3 - (lg_sl ([.ref (L 2 i), .int tk])).length) Slot.unset).toArray = ls at hl9 ⊢
  have hl : lv_has ls 3 [(0, .ref (L 2 i)), (1, .int tk)] := hl9
  refine lv_aload_n hx hb dX1_costIn_0 rfl (lv_at hl 0 rfl) ?_
  refine lv_iload_n hx hb dX1_costIn_1 rfl (lv_at hl 1 rfl) ?_
  have hFc := m_free (C := (TW cy L tr a κ τ)) hP hS hA (fun _ _ h => h)
  refine va_calli (va_runV (As := [.int tk]) (rest := []) ⟨hx, hb, hml, hown, hts⟩ (c_Link_queueIn l dC dI cy L tr a κ τ i tk s.heap.size hT hi h5l h5) (tp_cwV 1 hts tw_182 tw_183 tw_184 tw_23 tw_185 rfl rfl (by decide +kernel) ⟨Nat.le_of_ble_eq_true rfl, Nat.le_of_ble_eq_true rfl⟩) ⟨m_blind, va_recv hK (hP.one (e := .inr (1, [.int ((a 2 i) 0), .int ((a 2 i) 1), .int ((a 2 i) 2), .int ((a 2 i) 3), .int ((a 2 i) 4), .int ((a 2 i) 5), .int ((a 2 i) 6), .int ((a 2 i) 7), .int ((a 2 i) 8), .ref (L 3 i), .ref (L 5 i), .int ((a 2 i) 9), .int ((a 2 i) 10), .int ((a 2 i) 11), .int ((a 2 i) 12), .ref (L 7 i)])) (tw_mem (f := 2) (i := i) hi rfl)) (ci := 1) (q0 := 0) rfl rfl, fun U hU hW => ⟨rfl, m_pay hK hP hE (fun _ _ h => h) U hU hW⟩⟩ rfl rfl hl.1 rfl (lv_room (Nat.le_of_ble_eq_true rfl)) dX1_costIn_2 ⟨(Nat.le_of_ble_eq_true rfl), (Nat.le_of_ble_eq_true rfl)⟩) hS (fun q _ h => hFc q h) hFc (fun r_1 u t H1 locs ht hvm hw hB hz1 hk1 hS => ?_)
  obtain rfl := hw
  obtain ⟨f_1, hP1⟩ := hB
  subst f_1
  rw [ht] at hP1
  have hP : mw (dC, dI) vwCl A (TW cy L tr a κ τ) H1 := hP.join (fun _ _ h => h) hk1 hFc hP1 (fun _ _ h => Or.inl h)
  generalize H1 = H at hP hS ⊢
  clear hP1 hk1 hFc
  refine lv_istore_n (lv' := [(2, .int (L_q a i tk)), (0, .ref (L 2 i)), (1, .int tk)]) hx hb dX1_costIn_5 rfl hl (by decide) rfl (fun ls hl => ?_)
  refine lv_aload_n hx hb dX1_costIn_6 rfl (lv_at hl 1 rfl) ?_
  refine va_get (D := (dC, dI)) (ws := [(L 2 i, .inr (1, [.int ((a 2 i) 0), .int ((a 2 i) 1), .int ((a 2 i) 2), .int ((a 2 i) 3), .int ((a 2 i) 4), .int ((a 2 i) 5), .int ((a 2 i) 6), .int ((a 2 i) 7), .int ((a 2 i) 8), .ref (L 3 i), .ref (L 5 i), .int ((a 2 i) 9), .int ((a 2 i) 10), .int ((a 2 i) 11), .int ((a 2 i) 12), .ref (L 7 i)]))]) (ci := 1) (v := .int ((a 2 i) 2)) (C := RX1) (T := TX1) (N := 16) hx hb hts tl_X1 hown hK (hP.one (tw_mem (f := 2) (i := i) hi rfl)) 0 rfl rfl 2 (by decide) (hts _ tw_630) (fun _ h9 => h9) rfl dX1_costIn_7 ?_
  refine lv_aload_n hx hb dX1_costIn_10 rfl (lv_at hl 1 rfl) ?_
  refine va_get (D := (dC, dI)) (ws := [(L 2 i, .inr (1, [.int ((a 2 i) 0), .int ((a 2 i) 1), .int ((a 2 i) 2), .int ((a 2 i) 3), .int ((a 2 i) 4), .int ((a 2 i) 5), .int ((a 2 i) 6), .int ((a 2 i) 7), .int ((a 2 i) 8), .ref (L 3 i), .ref (L 5 i), .int ((a 2 i) 9), .int ((a 2 i) 10), .int ((a 2 i) 11), .int ((a 2 i) 12), .ref (L 7 i)]))]) (ci := 1) (v := .int ((a 2 i) 5)) (C := RX1) (T := TX1) (N := 16) hx hb hts tl_X1 hown hK (hP.one (tw_mem (f := 2) (i := i) hi rfl)) 0 rfl rfl 5 (by decide) (hts _ tw_636) (fun _ h9 => h9) rfl dX1_costIn_11 ?_
  refine lv_if_le (tgt := 33) hx hb dX1_costIn_14 (by decide) (fun c_1 => ?_) (fun c_1 => ?_)
  · refine lv_bipush (v := 10) hx hb dX1_costIn_33 (by decide) ?_
    refine lv_iload_n hx hb dX1_costIn_35 rfl (lv_at hl 0 rfl) ?_
    refine lv_imul hx hb dX1_costIn_36 ?_
    refine lv_iadd hx hb dX1_costIn_37 ?_
    refine W.widen (k := 0) (n := 0) (Nat.le_of_ble_eq_true rfl) (Nat.le_of_ble_eq_true rfl) ?_
    have g_1 : (((a 2 i) 2) + (10 * (L_q a i tk))) = L_cost a i tk := by
      first | rfl | assumption | (simp only [L_cost, if_pos c_1])
    exact W.iret (v := ((a 2 i) 2) + (10 * (L_q a i tk))) hx hb hr (fun t ht hW => ⟨⟨(((a 2 i) 2) + (10 * (L_q a i tk))), (((a 2 i) 2) + (10 * (L_q a i tk))), rfl, rfl, ⟨g_1, by show mw _ _ _ _ t.heap; rw [ht]; exact hP⟩⟩, hS.F ht⟩) hS.2.2 dX1_costIn_38
  · refine lv_iload_n hx hb dX1_costIn_17 rfl (lv_at hl 0 rfl) ?_
    refine lv_aload_n hx hb dX1_costIn_18 rfl (lv_at hl 1 rfl) ?_
    refine va_get (D := (dC, dI)) (ws := [(L 2 i, .inr (1, [.int ((a 2 i) 0), .int ((a 2 i) 1), .int ((a 2 i) 2), .int ((a 2 i) 3), .int ((a 2 i) 4), .int ((a 2 i) 5), .int ((a 2 i) 6), .int ((a 2 i) 7), .int ((a 2 i) 8), .ref (L 3 i), .ref (L 5 i), .int ((a 2 i) 9), .int ((a 2 i) 10), .int ((a 2 i) 11), .int ((a 2 i) 12), .ref (L 7 i)]))]) (ci := 1) (v := .int ((a 2 i) 5)) (C := RX1) (T := TX1) (N := 16) hx hb hts tl_X1 hown hK (hP.one (tw_mem (f := 2) (i := i) hi rfl)) 0 rfl rfl 5 (by decide) (hts _ tw_636) (fun _ h9 => h9) rfl dX1_costIn_19 ?_
    refine lv_iadd hx hb dX1_costIn_22 ?_
    refine lv_iconst (v := 1) hx hb dX1_costIn_23 (by decide) ?_
    refine lv_isub hx hb dX1_costIn_24 ?_
    refine lv_aload_n hx hb dX1_costIn_25 rfl (lv_at hl 1 rfl) ?_
    refine va_get (D := (dC, dI)) (ws := [(L 2 i, .inr (1, [.int ((a 2 i) 0), .int ((a 2 i) 1), .int ((a 2 i) 2), .int ((a 2 i) 3), .int ((a 2 i) 4), .int ((a 2 i) 5), .int ((a 2 i) 6), .int ((a 2 i) 7), .int ((a 2 i) 8), .ref (L 3 i), .ref (L 5 i), .int ((a 2 i) 9), .int ((a 2 i) 10), .int ((a 2 i) 11), .int ((a 2 i) 12), .ref (L 7 i)]))]) (ci := 1) (v := .int ((a 2 i) 5)) (C := RX1) (T := TX1) (N := 16) hx hb hts tl_X1 hown hK (hP.one (tw_mem (f := 2) (i := i) hi rfl)) 0 rfl rfl 5 (by decide) (hts _ tw_636) (fun _ h9 => h9) rfl dX1_costIn_26 ?_
    refine lv_idiv hx hb dX1_costIn_29 (m_ne0 c_1) ?_
    refine lv_goto (tgt := 37) hx hb dX1_costIn_30 (by decide) ?_
    refine lv_iadd hx hb dX1_costIn_37 ?_
    refine W.widen (k := 0) (n := 0) (Nat.le_of_ble_eq_true rfl) (Nat.le_of_ble_eq_true rfl) ?_
    have g_2 : (((a 2 i) 2) + ((((L_q a i tk) + ((a 2 i) 5)) - 1) / ((a 2 i) 5))) = L_cost a i tk := by
      first | rfl | assumption | (simp only [L_cost, if_neg c_1])
    exact W.iret (v := ((a 2 i) 2) + ((((L_q a i tk) + ((a 2 i) 5)) - 1) / ((a 2 i) 5))) hx hb hr (fun t ht hW => ⟨⟨(((a 2 i) 2) + ((((L_q a i tk) + ((a 2 i) 5)) - 1) / ((a 2 i) 5))), (((a 2 i) 2) + ((((L_q a i tk) + ((a 2 i) 5)) - 1) / ((a 2 i) 5))), rfl, rfl, ⟨g_2, by show mw _ _ _ _ t.heap; rw [ht]; exact hP⟩⟩, hS.F ht⟩) hS.2.2 dX1_costIn_38
set_option maxRecDepth 100000 in
set_option maxHeartbeats 4000000 in
/-- Link.isOpen -/
theorem c_Link_isOpen (l : Launch) (dC : Nat → ClassId) (dI : Nat → Nat → Nat) (cy : Nat → ClassId) (L : Lay) (tr : Option Nat) (a : St) (κ : Kap) (τ : Tau) (i : Nat) (sz : Nat) (hT : TL L tr τ) (hi : i < 24) : Met l yX1_isOpen (tp_w yX1_isOpen cX1_isOpen 1 (some .boolean)) ({ frames := 0, cells := 0, slots := 0, locals := 0 }) (va_Pc [.ref (L 2 i)] (mPre dC dI cy (TW cy L tr a κ τ) sz)) (va_Qi (fun (r u : Int32) => r = u) (fun (u : Int32) (t : State) => (u = L_open a i) ∧ mw (dC, dI) vwCl (mA (TW cy L tr a κ τ) sz) (TW cy L tr a κ τ) t.heap) (mA (TW cy L tr a κ τ) sz)) (0) (0) (mA (TW cy L tr a κ τ) sz) := by
  refine Met.ofW (cc := cX1_isOpen) (maxL := 1) (ret := (some .boolean)) (by decide) rfl ?_
  intro p e s m args below meth c s₁ B hml hv
  obtain ⟨rfl, hsz, hP, hK, hE⟩ := hv
  have hx := B.exec
  have hb := B.bytes
  have hr := B.returns
  have hts0 := atoms_spec (ws := tp_w yX1_isOpen cX1_isOpen 1 (some .boolean)) B.pre
  have hts : ∀ w ∈ tp_all, w.before _ s = true := fun w h => hts0 w (List.mem_cons_of_mem _ h)
  have hown : s.vm.findClass RX1 = some m.cls := findClass_of_methodNamed B.named
  have hlocks := B.notSynchronized
  subst hsz
  have hP := hP.self s.heap.size
  generalize hAe : mA (TW cy L tr a κ τ) s.heap.size = A at hP ⊢
  have hA : ∀ q : Nat, s.heap.size ≤ q → A q := fun q h => by rw [← hAe]; exact Or.inr h
  have hS : va_S A s.heap s.heap [] := va_S.rf
  have hl9 := lv_entry ([.ref (L 2 i)]) (n := 1) (Nat.le_of_ble_eq_true rfl)
  rw [lg_entry_eq]
  generalize (lg_sl ([.ref (L 2 i)]) ++ List.replicate (1 - (lg_sl ([.ref (L 2 i)])).length) Slot.unset).toArray = ls at hl9 ⊢
  have hl : lv_has ls 1 [(0, .ref (L 2 i))] := hl9
  refine lv_aload_n hx hb dX1_isOpen_0 rfl (lv_at hl 0 rfl) ?_
  refine va_get (D := (dC, dI)) (ws := [(L 2 i, .inr (1, [.int ((a 2 i) 0), .int ((a 2 i) 1), .int ((a 2 i) 2), .int ((a 2 i) 3), .int ((a 2 i) 4), .int ((a 2 i) 5), .int ((a 2 i) 6), .int ((a 2 i) 7), .int ((a 2 i) 8), .ref (L 3 i), .ref (L 5 i), .int ((a 2 i) 9), .int ((a 2 i) 10), .int ((a 2 i) 11), .int ((a 2 i) 12), .ref (L 7 i)]))]) (ci := 1) (v := .int ((a 2 i) 7)) (C := RX1) (T := TX1) (N := 16) hx hb hts tl_X1 hown hK (hP.one (tw_mem (f := 2) (i := i) hi rfl)) 0 rfl rfl 7 (by decide) (hts _ tw_642) (fun _ h9 => h9) rfl dX1_isOpen_1 ?_
  refine lv_if_ne (tgt := 25) hx hb dX1_isOpen_4 (by decide) (fun c_1 => ?_) (fun c_1 => ?_)
  · refine lv_iconst (v := 0) hx hb dX1_isOpen_25 (by decide) ?_
    refine W.widen (k := 0) (n := 0) (Nat.le_of_ble_eq_true rfl) (Nat.le_of_ble_eq_true rfl) ?_
    have g_1 : 0 = L_open a i := by
      first | rfl | assumption | (simp only [L_open, if_neg c_1])
    exact W.zret (v := 0) hx hb hr rfl (fun t ht hW => ⟨⟨0, 0, rfl, rfl, ⟨g_1, by show mw _ _ _ _ t.heap; rw [ht]; exact hP⟩⟩, hS.F ht⟩) hS.2.2 dX1_isOpen_26
  · refine lv_aload_n hx hb dX1_isOpen_7 rfl (lv_at hl 0 rfl) ?_
    refine va_get (D := (dC, dI)) (ws := [(L 2 i, .inr (1, [.int ((a 2 i) 0), .int ((a 2 i) 1), .int ((a 2 i) 2), .int ((a 2 i) 3), .int ((a 2 i) 4), .int ((a 2 i) 5), .int ((a 2 i) 6), .int ((a 2 i) 7), .int ((a 2 i) 8), .ref (L 3 i), .ref (L 5 i), .int ((a 2 i) 9), .int ((a 2 i) 10), .int ((a 2 i) 11), .int ((a 2 i) 12), .ref (L 7 i)]))]) (ci := 1) (v := .ref (L 3 i)) (C := RX1) (T := TX1) (N := 16) hx hb hts tl_X1 hown hK (hP.one (tw_mem (f := 2) (i := i) hi rfl)) 0 rfl rfl 9 (by decide) (hts _ tw_648) (fun _ h9 => h9) rfl dX1_isOpen_8 ?_
    refine va_getN (D := (dC, dI)) (ws := [(L 3 i, .inr (3, [.ref (L 4 i), .int ((a 3 i) 0)]))]) (ci := 3) (v := .int ((a 3 i) 0)) (C := RX3) (T := TX3) (N := 2) hx hb hts tl_X3 hown hK (hP.one (tw_mem (f := 3) (i := i) hi rfl)) 0 rfl rfl 1 (by decide) (va_Nw.use rfl (te_f0 hE)) (fun _ h9 => h9) rfl dX1_isOpen_11 ?_
    refine lv_aload_n hx hb dX1_isOpen_14 rfl (lv_at hl 0 rfl) ?_
    refine va_get (D := (dC, dI)) (ws := [(L 2 i, .inr (1, [.int ((a 2 i) 0), .int ((a 2 i) 1), .int ((a 2 i) 2), .int ((a 2 i) 3), .int ((a 2 i) 4), .int ((a 2 i) 5), .int ((a 2 i) 6), .int ((a 2 i) 7), .int ((a 2 i) 8), .ref (L 3 i), .ref (L 5 i), .int ((a 2 i) 9), .int ((a 2 i) 10), .int ((a 2 i) 11), .int ((a 2 i) 12), .ref (L 7 i)]))]) (ci := 1) (v := .int ((a 2 i) 3)) (C := RX1) (T := TX1) (N := 16) hx hb hts tl_X1 hown hK (hP.one (tw_mem (f := 2) (i := i) hi rfl)) 0 rfl rfl 3 (by decide) (hts _ tw_633) (fun _ h9 => h9) rfl dX1_isOpen_15 ?_
    refine lv_icmp_ge (tgt := 25) hx hb dX1_isOpen_18 (by decide) (fun c_2 => ?_) (fun c_2 => ?_)
    · refine lv_iconst (v := 0) hx hb dX1_isOpen_25 (by decide) ?_
      refine W.widen (k := 0) (n := 0) (Nat.le_of_ble_eq_true rfl) (Nat.le_of_ble_eq_true rfl) ?_
      have g_2 : 0 = L_open a i := by
        first | rfl | assumption | (simp only [L_open, if_pos c_1, if_pos c_2])
      exact W.zret (v := 0) hx hb hr rfl (fun t ht hW => ⟨⟨0, 0, rfl, rfl, ⟨g_2, by show mw _ _ _ _ t.heap; rw [ht]; exact hP⟩⟩, hS.F ht⟩) hS.2.2 dX1_isOpen_26
    · refine lv_iconst (v := 1) hx hb dX1_isOpen_21 (by decide) ?_
      refine lv_goto (tgt := 26) hx hb dX1_isOpen_22 (by decide) ?_
      refine W.widen (k := 0) (n := 0) (Nat.le_of_ble_eq_true rfl) (Nat.le_of_ble_eq_true rfl) ?_
      have g_3 : 1 = L_open a i := by
        first | rfl | assumption | (simp only [L_open, if_pos c_1, if_neg c_2])
      exact W.zret (v := 1) hx hb hr rfl (fun t ht hW => ⟨⟨1, 1, rfl, rfl, ⟨g_3, by show mw _ _ _ _ t.heap; rw [ht]; exact hP⟩⟩, hS.F ht⟩) hS.2.2 dX1_isOpen_26
set_option maxRecDepth 100000 in
set_option maxHeartbeats 4000000 in
/-- Link.takeIn -/
theorem c_Link_takeIn (l : Launch) (dC : Nat → ClassId) (dI : Nat → Nat → Nat) (cy : Nat → ClassId) (L : Lay) (tr : Option Nat) (a : St) (κ : Kap) (τ : Tau) (i : Nat) (v : Int32) (en : Int32) (sz : Nat) (hT : TL L tr τ) (hi : i < 24) (h3l : 0 ≤ (a 3 i 0).toInt) (h5l : 0 ≤ (a 5 i 0).toInt) : Met l yX1_takeIn (tp_w yX1_takeIn cX1_takeIn 3 none) ({ frames := 1, cells := 0, slots := 0, locals := 21 }) (va_Pc [.ref (L 2 i), .int v, .int en] (mPre dC dI cy (TW cy L tr a κ τ) sz)) (va_Qv (fun _ : Unit => True) (fun (_ : Unit) (t : State) => mw (dC, dI) vwCl (mA (TW cy L tr a κ τ) sz) (TW cy L tr (L_take a i v en) κ τ) t.heap) (mA (TW cy L tr a κ τ) sz)) (0) (0) (mA (TW cy L tr a κ τ) sz) := by
  refine Met.ofW (cc := cX1_takeIn) (maxL := 3) (ret := none) (by decide) rfl ?_
  intro p e s m args below meth c s₁ B hml hv
  obtain ⟨rfl, hsz, hP, hK, hE⟩ := hv
  have hx := B.exec
  have hb := B.bytes
  have hr := B.returns
  have hts0 := atoms_spec (ws := tp_w yX1_takeIn cX1_takeIn 3 none) B.pre
  have hts : ∀ w ∈ tp_all, w.before _ s = true := fun w h => hts0 w (List.mem_cons_of_mem _ h)
  have hown : s.vm.findClass RX1 = some m.cls := findClass_of_methodNamed B.named
  have hlocks := B.notSynchronized
  subst hsz
  have hP := hP.self s.heap.size
  generalize hAe : mA (TW cy L tr a κ τ) s.heap.size = A at hP ⊢
  have hA : ∀ q : Nat, s.heap.size ≤ q → A q := fun q h => by rw [← hAe]; exact Or.inr h
  have hS : va_S A s.heap s.heap [] := va_S.rf
  have hl9 := lv_entry ([.ref (L 2 i), .int v, .int en]) (n := 3) (Nat.le_of_ble_eq_true rfl)
  rw [lg_entry_eq]
  generalize (lg_sl ([.ref (L 2 i), .int v, .int en]) ++ List.replicate (3 - (lg_sl ([.ref (L 2 i), .int v, .int en])).length) Slot.unset).toArray = ls at hl9 ⊢
  have hl : lv_has ls 3 [(0, .ref (L 2 i)), (1, .int v), (2, .int en)] := hl9
  refine lv_aload_n hx hb dX1_takeIn_0 rfl (lv_at hl 0 rfl) ?_
  refine va_get (D := (dC, dI)) (ws := [(L 2 i, .inr (1, [.int ((a 2 i) 0), .int ((a 2 i) 1), .int ((a 2 i) 2), .int ((a 2 i) 3), .int ((a 2 i) 4), .int ((a 2 i) 5), .int ((a 2 i) 6), .int ((a 2 i) 7), .int ((a 2 i) 8), .ref (L 3 i), .ref (L 5 i), .int ((a 2 i) 9), .int ((a 2 i) 10), .int ((a 2 i) 11), .int ((a 2 i) 12), .ref (L 7 i)]))]) (ci := 1) (v := .ref (L 3 i)) (C := RX1) (T := TX1) (N := 16) hx hb hts tl_X1 hown hK (hP.one (tw_mem (f := 2) (i := i) hi rfl)) 0 rfl rfl 9 (by decide) (hts _ tw_648) (fun _ h9 => h9) rfl dX1_takeIn_1 ?_
  refine lv_iload_n hx hb dX1_takeIn_4 rfl (lv_at hl 1 rfl) ?_
  have hFc := m_free (C := (TW cy L tr a κ τ)) hP hS hA (fun _ _ h => h)
  refine va_callv (va_runV (As := [.int v]) (rest := []) ⟨hx, hb, hml, hown, hts⟩ (c_Row_append_row l dC dI cy L tr a κ τ i v s.heap.size hT hi h3l) (tp_cwV 1 hts tw_320 tw_229 tw_230 tw_24 tw_231 rfl rfl (by decide +kernel) ⟨Nat.le_of_ble_eq_true rfl, Nat.le_of_ble_eq_true rfl⟩) ⟨m_blind, va_recv hK (hP.one (e := .inr (3, [.ref (L 4 i), .int ((a 3 i) 0)])) (tw_mem (f := 3) (i := i) hi rfl)) (ci := 3) (q0 := 0) rfl rfl, fun U hU hW => ⟨rfl, m_pay hK hP hE (fun _ _ h => h) U hU hW⟩⟩ rfl rfl hl.1 rfl (lv_room (Nat.le_of_ble_eq_true rfl)) dX1_takeIn_5 ⟨(Nat.le_of_ble_eq_true rfl), (Nat.le_of_ble_eq_true rfl)⟩) hS (fun q _ h => hFc q h) hFc (fun u t H1 locs ht hvm hw hB hz1 hk1 hS => ?_)
  have hP1 := hB
  rw [ht] at hP1
  have hP : mw (dC, dI) vwCl A (TW cy L tr (R_app 3 4 30 a i v) κ τ) H1 := hP.join (fun _ _ h => h) hk1 hFc hP1 (fun _ _ h => Or.inl h)
  generalize H1 = H at hP hS ⊢
  clear hP1 hk1 hFc
  obtain ⟨b1, eb1⟩ : ∃ z : St, z = R_app 3 4 30 a i v := ⟨_, rfl⟩
  rw [← eb1] at hP
  refine lv_aload_n hx hb dX1_takeIn_8 rfl (lv_at hl 0 rfl) ?_
  refine va_get (D := (dC, dI)) (ws := [(L 2 i, .inr (1, [.int ((b1 2 i) 0), .int ((b1 2 i) 1), .int ((b1 2 i) 2), .int ((b1 2 i) 3), .int ((b1 2 i) 4), .int ((b1 2 i) 5), .int ((b1 2 i) 6), .int ((b1 2 i) 7), .int ((b1 2 i) 8), .ref (L 3 i), .ref (L 5 i), .int ((b1 2 i) 9), .int ((b1 2 i) 10), .int ((b1 2 i) 11), .int ((b1 2 i) 12), .ref (L 7 i)]))]) (ci := 1) (v := .ref (L 5 i)) (C := RX1) (T := TX1) (N := 16) hx hb hts tl_X1 hown hK (hP.one (tw_mem (f := 2) (i := i) hi rfl)) 0 rfl rfl 10 (by decide) (hts _ tw_651) (fun _ h9 => h9) rfl dX1_takeIn_9 ?_
  refine lv_iload_n hx hb dX1_takeIn_12 rfl (lv_at hl 2 rfl) ?_
  have hFc := m_free (C := (TW cy L tr b1 κ τ)) hP hS hA (fun _ _ h => h)
  refine va_callv (va_runV (As := [.int en]) (rest := []) ⟨hx, hb, hml, hown, hts⟩ (c_Row_append_ends l dC dI cy L tr b1 κ τ i en H.size hT hi (by rw [eb1, R_app_off (by decide) (by decide)]; exact h5l)) (tp_cwV 1 hts tw_320 tw_229 tw_230 tw_24 tw_231 rfl rfl (by decide +kernel) ⟨Nat.le_of_ble_eq_true rfl, Nat.le_of_ble_eq_true rfl⟩) ⟨m_blind, va_recv hK (hP.one (e := .inr (3, [.ref (L 6 i), .int ((b1 5 i) 0)])) (tw_mem (f := 5) (i := i) hi rfl)) (ci := 3) (q0 := 0) rfl rfl, fun U hU hW => ⟨rfl, m_pay hK hP hE (fun _ _ h => h) U hU hW⟩⟩ rfl rfl hl.1 rfl (lv_room (Nat.le_of_ble_eq_true rfl)) dX1_takeIn_13 ⟨(Nat.le_of_ble_eq_true rfl), (Nat.le_of_ble_eq_true rfl)⟩) hS (fun q _ h => hFc q h) hFc (fun u t H1 locs ht hvm hw hB hz1 hk1 hS => ?_)
  have hP1 := hB
  rw [ht] at hP1
  have hP : mw (dC, dI) vwCl A (TW cy L tr (R_app 5 6 30 b1 i en) κ τ) H1 := hP.join (fun _ _ h => h) hk1 hFc hP1 (fun _ _ h => Or.inl h)
  generalize H1 = H at hP hS ⊢
  clear hP1 hk1 hFc
  obtain ⟨b2, eb2⟩ : ∃ z : St, z = R_app 5 6 30 b1 i en := ⟨_, rfl⟩
  rw [← eb2] at hP
  refine lv_aload_n hx hb dX1_takeIn_16 rfl (lv_at hl 0 rfl) ?_
  refine lv_dup hx hb dX1_takeIn_17 rfl ?_
  refine va_get (D := (dC, dI)) (ws := [(L 2 i, .inr (1, [.int ((b2 2 i) 0), .int ((b2 2 i) 1), .int ((b2 2 i) 2), .int ((b2 2 i) 3), .int ((b2 2 i) 4), .int ((b2 2 i) 5), .int ((b2 2 i) 6), .int ((b2 2 i) 7), .int ((b2 2 i) 8), .ref (L 3 i), .ref (L 5 i), .int ((b2 2 i) 9), .int ((b2 2 i) 10), .int ((b2 2 i) 11), .int ((b2 2 i) 12), .ref (L 7 i)]))]) (ci := 1) (v := .int ((b2 2 i) 9)) (C := RX1) (T := TX1) (N := 16) hx hb hts tl_X1 hown hK (hP.one (tw_mem (f := 2) (i := i) hi rfl)) 0 rfl rfl 11 (by decide) (hts _ tw_652) (fun _ h9 => h9) rfl dX1_takeIn_18 ?_
  refine lv_iconst (v := 1) hx hb dX1_takeIn_21 (by decide) ?_
  refine lv_iadd hx hb dX1_takeIn_22 ?_
  obtain ⟨ws9, k9, hPw, hDw, hk9, -, hbk⟩ := hP.cut (e := .inr (1, [.int ((b2 2 i) 0), .int ((b2 2 i) 1), .int ((b2 2 i) 2), .int ((b2 2 i) 3), .int ((b2 2 i) 4), .int ((b2 2 i) 5), .int ((b2 2 i) 6), .int ((b2 2 i) 7), .int ((b2 2 i) 8), .ref (L 3 i), .ref (L 5 i), .int ((b2 2 i) 9), .int ((b2 2 i) 10), .int ((b2 2 i) 11), .int ((b2 2 i) 12), .ref (L 7 i)])) (tw_mem (f := 2) (i := i) hi rfl)
  refine va_put (D := (dC, dI)) (ci := 1) (v := .int (((b2 2 i) 9) + 1)) (ty := .int) (C := RX1) (T := TX1) (N := 16) hx hb hts tl_X1 tyX1 tyX1_ok nmX1 hown hK hPw hDw hS k9 hk9 rfl 11 (by decide) (hts _ tw_652) (fun _ h9 => h9) rfl (by decide +kernel) rfl rfl (Nat.le_of_ble_eq_true rfl) dX1_takeIn_23 (fun H locs hPw hDw hS => ?_)
  have hP : mw (dC, dI) vwCl A (TW cy L tr (S2 b2 2 i (upd (b2 2 i) 9 (((b2 2 i) 9) + 1))) κ τ) H := (hbk _ _ hPw hDw).sub (tw_set (b := S2 b2 2 i (upd (b2 2 i) 9 (((b2 2 i) 9) + 1))) (f := 2) (i := i) (x := upd (b2 2 i) 9 (((b2 2 i) 9) + 1)) hT hi (by decide) rfl)
  clear hbk hPw hDw hk9
  refine W.widen (k := 0) (n := 0) (Nat.le_of_ble_eq_true rfl) (Nat.le_of_ble_eq_true rfl) ?_
  have s_1 : S2 b2 2 i (upd (b2 2 i) 9 (((b2 2 i) 9) + 1)) = L_take a i v en := by
    first | rfl | (simp only [L_take, L_came, ← eb1, ← eb2])
  rw [s_1] at hP
  exact W.vret hx hb hr (fun t ht hW => ⟨⟨(), rfl, trivial, (by show mw _ _ _ _ t.heap; rw [ht]; exact hP)⟩, hS.F ht⟩) hS.2.2 dX1_takeIn_26
set_option maxRecDepth 100000 in
set_option maxHeartbeats 4000000 in
/-- Link.letFirstGo -/
theorem c_Link_letFirstGo (l : Launch) (dC : Nat → ClassId) (dI : Nat → Nat → Nat) (cy : Nat → ClassId) (L : Lay) (tr : Option Nat) (a : St) (κ : Kap) (τ : Tau) (i : Nat) (sz : Nat) (hT : TL L tr τ) (hi : i < 24) (h3 : (a 3 i 0).toInt ≤ 30) (h5 : (a 5 i 0).toInt ≤ 30) : Met l yX1_letFirstGo (tp_w yX1_letFirstGo cX1_letFirstGo 1 none) ({ frames := 2, cells := 0, slots := 0, locals := 38 }) (va_Pc [.ref (L 2 i)] (mPre dC dI cy (TW cy L tr a κ τ) sz)) (va_Qv (fun _ : Unit => True) (fun (_ : Unit) (t : State) => mw (dC, dI) vwCl (mA (TW cy L tr a κ τ) sz) (TW cy L tr (L_go a i) κ τ) t.heap) (mA (TW cy L tr a κ τ) sz)) (0) (0) (mA (TW cy L tr a κ τ) sz) := by
  refine Met.ofW (cc := cX1_letFirstGo) (maxL := 1) (ret := none) (by decide) rfl ?_
  intro p e s m args below meth c s₁ B hml hv
  obtain ⟨rfl, hsz, hP, hK, hE⟩ := hv
  have hx := B.exec
  have hb := B.bytes
  have hr := B.returns
  have hts0 := atoms_spec (ws := tp_w yX1_letFirstGo cX1_letFirstGo 1 none) B.pre
  have hts : ∀ w ∈ tp_all, w.before _ s = true := fun w h => hts0 w (List.mem_cons_of_mem _ h)
  have hown : s.vm.findClass RX1 = some m.cls := findClass_of_methodNamed B.named
  have hlocks := B.notSynchronized
  subst hsz
  have hP := hP.self s.heap.size
  generalize hAe : mA (TW cy L tr a κ τ) s.heap.size = A at hP ⊢
  have hA : ∀ q : Nat, s.heap.size ≤ q → A q := fun q h => by rw [← hAe]; exact Or.inr h
  have hS : va_S A s.heap s.heap [] := va_S.rf
  have hl9 := lv_entry ([.ref (L 2 i)]) (n := 1) (Nat.le_of_ble_eq_true rfl)
  rw [lg_entry_eq]
  generalize (lg_sl ([.ref (L 2 i)]) ++ List.replicate (1 - (lg_sl ([.ref (L 2 i)])).length) Slot.unset).toArray = ls at hl9 ⊢
  have hl : lv_has ls 1 [(0, .ref (L 2 i))] := hl9
  refine lv_aload_n hx hb dX1_letFirstGo_0 rfl (lv_at hl 0 rfl) ?_
  refine va_get (D := (dC, dI)) (ws := [(L 2 i, .inr (1, [.int ((a 2 i) 0), .int ((a 2 i) 1), .int ((a 2 i) 2), .int ((a 2 i) 3), .int ((a 2 i) 4), .int ((a 2 i) 5), .int ((a 2 i) 6), .int ((a 2 i) 7), .int ((a 2 i) 8), .ref (L 3 i), .ref (L 5 i), .int ((a 2 i) 9), .int ((a 2 i) 10), .int ((a 2 i) 11), .int ((a 2 i) 12), .ref (L 7 i)]))]) (ci := 1) (v := .ref (L 3 i)) (C := RX1) (T := TX1) (N := 16) hx hb hts tl_X1 hown hK (hP.one (tw_mem (f := 2) (i := i) hi rfl)) 0 rfl rfl 9 (by decide) (hts _ tw_648) (fun _ h9 => h9) rfl dX1_letFirstGo_1 ?_
  have hFc := m_free (C := (TW cy L tr a κ τ)) hP hS hA (fun _ _ h => h)
  refine va_callv (va_runV (As := []) (rest := []) ⟨hx, hb, hml, hown, hts⟩ (c_Row_dropFirst_row l dC dI cy L tr a κ τ i s.heap.size hT hi h3) (tp_cwV 0 hts tw_351 tw_352 tw_353 tw_24 tw_354 rfl rfl (by decide +kernel) ⟨Nat.le_of_ble_eq_true rfl, Nat.le_of_ble_eq_true rfl⟩) ⟨m_blind, va_recv hK (hP.one (e := .inr (3, [.ref (L 4 i), .int ((a 3 i) 0)])) (tw_mem (f := 3) (i := i) hi rfl)) (ci := 3) (q0 := 0) rfl rfl, fun U hU hW => ⟨rfl, m_pay hK hP hE (fun _ _ h => h) U hU hW⟩⟩ rfl rfl hl.1 rfl (lv_room (Nat.le_of_ble_eq_true rfl)) dX1_letFirstGo_4 ⟨(Nat.le_of_ble_eq_true rfl), (Nat.le_of_ble_eq_true rfl)⟩) hS (fun q _ h => hFc q h) hFc (fun u t H1 locs ht hvm hw hB hz1 hk1 hS => ?_)
  have hP1 := hB
  rw [ht] at hP1
  have hP : mw (dC, dI) vwCl A (TW cy L tr (R_drop 3 4 a i) κ τ) H1 := hP.join (fun _ _ h => h) hk1 hFc hP1 (fun _ _ h => Or.inl h)
  generalize H1 = H at hP hS ⊢
  clear hP1 hk1 hFc
  obtain ⟨b1, eb1⟩ : ∃ z : St, z = R_drop 3 4 a i := ⟨_, rfl⟩
  rw [← eb1] at hP
  refine lv_aload_n hx hb dX1_letFirstGo_7 rfl (lv_at hl 0 rfl) ?_
  refine va_get (D := (dC, dI)) (ws := [(L 2 i, .inr (1, [.int ((b1 2 i) 0), .int ((b1 2 i) 1), .int ((b1 2 i) 2), .int ((b1 2 i) 3), .int ((b1 2 i) 4), .int ((b1 2 i) 5), .int ((b1 2 i) 6), .int ((b1 2 i) 7), .int ((b1 2 i) 8), .ref (L 3 i), .ref (L 5 i), .int ((b1 2 i) 9), .int ((b1 2 i) 10), .int ((b1 2 i) 11), .int ((b1 2 i) 12), .ref (L 7 i)]))]) (ci := 1) (v := .ref (L 5 i)) (C := RX1) (T := TX1) (N := 16) hx hb hts tl_X1 hown hK (hP.one (tw_mem (f := 2) (i := i) hi rfl)) 0 rfl rfl 10 (by decide) (hts _ tw_651) (fun _ h9 => h9) rfl dX1_letFirstGo_8 ?_
  have hFc := m_free (C := (TW cy L tr b1 κ τ)) hP hS hA (fun _ _ h => h)
  refine va_callv (va_runV (As := []) (rest := []) ⟨hx, hb, hml, hown, hts⟩ (c_Row_dropFirst_ends l dC dI cy L tr b1 κ τ i H.size hT hi (by rw [eb1, R_drop_off (by decide) (by decide)]; exact h5)) (tp_cwV 0 hts tw_351 tw_352 tw_353 tw_24 tw_354 rfl rfl (by decide +kernel) ⟨Nat.le_of_ble_eq_true rfl, Nat.le_of_ble_eq_true rfl⟩) ⟨m_blind, va_recv hK (hP.one (e := .inr (3, [.ref (L 6 i), .int ((b1 5 i) 0)])) (tw_mem (f := 5) (i := i) hi rfl)) (ci := 3) (q0 := 0) rfl rfl, fun U hU hW => ⟨rfl, m_pay hK hP hE (fun _ _ h => h) U hU hW⟩⟩ rfl rfl hl.1 rfl (lv_room (Nat.le_of_ble_eq_true rfl)) dX1_letFirstGo_11 ⟨(Nat.le_of_ble_eq_true rfl), (Nat.le_of_ble_eq_true rfl)⟩) hS (fun q _ h => hFc q h) hFc (fun u t H1 locs ht hvm hw hB hz1 hk1 hS => ?_)
  have hP1 := hB
  rw [ht] at hP1
  have hP : mw (dC, dI) vwCl A (TW cy L tr (R_drop 5 6 b1 i) κ τ) H1 := hP.join (fun _ _ h => h) hk1 hFc hP1 (fun _ _ h => Or.inl h)
  generalize H1 = H at hP hS ⊢
  clear hP1 hk1 hFc
  obtain ⟨b2, eb2⟩ : ∃ z : St, z = R_drop 5 6 b1 i := ⟨_, rfl⟩
  rw [← eb2] at hP
  refine lv_aload_n hx hb dX1_letFirstGo_14 rfl (lv_at hl 0 rfl) ?_
  refine lv_dup hx hb dX1_letFirstGo_15 rfl ?_
  refine va_get (D := (dC, dI)) (ws := [(L 2 i, .inr (1, [.int ((b2 2 i) 0), .int ((b2 2 i) 1), .int ((b2 2 i) 2), .int ((b2 2 i) 3), .int ((b2 2 i) 4), .int ((b2 2 i) 5), .int ((b2 2 i) 6), .int ((b2 2 i) 7), .int ((b2 2 i) 8), .ref (L 3 i), .ref (L 5 i), .int ((b2 2 i) 9), .int ((b2 2 i) 10), .int ((b2 2 i) 11), .int ((b2 2 i) 12), .ref (L 7 i)]))]) (ci := 1) (v := .int ((b2 2 i) 10)) (C := RX1) (T := TX1) (N := 16) hx hb hts tl_X1 hown hK (hP.one (tw_mem (f := 2) (i := i) hi rfl)) 0 rfl rfl 12 (by decide) (hts _ tw_654) (fun _ h9 => h9) rfl dX1_letFirstGo_16 ?_
  refine lv_iconst (v := 1) hx hb dX1_letFirstGo_19 (by decide) ?_
  refine lv_iadd hx hb dX1_letFirstGo_20 ?_
  obtain ⟨ws9, k9, hPw, hDw, hk9, -, hbk⟩ := hP.cut (e := .inr (1, [.int ((b2 2 i) 0), .int ((b2 2 i) 1), .int ((b2 2 i) 2), .int ((b2 2 i) 3), .int ((b2 2 i) 4), .int ((b2 2 i) 5), .int ((b2 2 i) 6), .int ((b2 2 i) 7), .int ((b2 2 i) 8), .ref (L 3 i), .ref (L 5 i), .int ((b2 2 i) 9), .int ((b2 2 i) 10), .int ((b2 2 i) 11), .int ((b2 2 i) 12), .ref (L 7 i)])) (tw_mem (f := 2) (i := i) hi rfl)
  refine va_put (D := (dC, dI)) (ci := 1) (v := .int (((b2 2 i) 10) + 1)) (ty := .int) (C := RX1) (T := TX1) (N := 16) hx hb hts tl_X1 tyX1 tyX1_ok nmX1 hown hK hPw hDw hS k9 hk9 rfl 12 (by decide) (hts _ tw_654) (fun _ h9 => h9) rfl (by decide +kernel) rfl rfl (Nat.le_of_ble_eq_true rfl) dX1_letFirstGo_21 (fun H locs hPw hDw hS => ?_)
  have hP : mw (dC, dI) vwCl A (TW cy L tr (S2 b2 2 i (upd (b2 2 i) 10 (((b2 2 i) 10) + 1))) κ τ) H := (hbk _ _ hPw hDw).sub (tw_set (b := S2 b2 2 i (upd (b2 2 i) 10 (((b2 2 i) 10) + 1))) (f := 2) (i := i) (x := upd (b2 2 i) 10 (((b2 2 i) 10) + 1)) hT hi (by decide) rfl)
  clear hbk hPw hDw hk9
  refine W.widen (k := 0) (n := 0) (Nat.le_of_ble_eq_true rfl) (Nat.le_of_ble_eq_true rfl) ?_
  have s_1 : S2 b2 2 i (upd (b2 2 i) 10 (((b2 2 i) 10) + 1)) = L_go a i := by
    first | rfl | (simp only [L_go, L_left, ← eb1, ← eb2])
  rw [s_1] at hP
  exact W.vret hx hb hr (fun t ht hW => ⟨⟨(), rfl, trivial, (by show mw _ _ _ _ t.heap; rw [ht]; exact hP)⟩, hS.F ht⟩) hS.2.2 dX1_letFirstGo_24
set_option maxRecDepth 100000 in
set_option maxHeartbeats 4000000 in
/-- Link.countTurn -/
theorem c_Link_countTurn (l : Launch) (dC : Nat → ClassId) (dI : Nat → Nat → Nat) (cy : Nat → ClassId) (L : Lay) (tr : Option Nat) (a : St) (κ : Kap) (τ : Tau) (i : Nat) (n : Int32) (sz : Nat) (hT : TL L tr τ) (hi : i < 24) : Met l yX1_countTurn (tp_w yX1_countTurn cX1_countTurn 2 none) ({ frames := 0, cells := 0, slots := 0, locals := 0 }) (va_Pc [.ref (L 2 i), .int n] (mPre dC dI cy (TW cy L tr a κ τ) sz)) (va_Qv (fun _ : Unit => True) (fun (_ : Unit) (t : State) => mw (dC, dI) vwCl (mA (TW cy L tr a κ τ) sz) (TW cy L tr (L_turn a i n) κ τ) t.heap) (mA (TW cy L tr a κ τ) sz)) (0) (0) (mA (TW cy L tr a κ τ) sz) := by
  refine Met.ofW (cc := cX1_countTurn) (maxL := 2) (ret := none) (by decide) rfl ?_
  intro p e s m args below meth c s₁ B hml hv
  obtain ⟨rfl, hsz, hP, hK, hE⟩ := hv
  have hx := B.exec
  have hb := B.bytes
  have hr := B.returns
  have hts0 := atoms_spec (ws := tp_w yX1_countTurn cX1_countTurn 2 none) B.pre
  have hts : ∀ w ∈ tp_all, w.before _ s = true := fun w h => hts0 w (List.mem_cons_of_mem _ h)
  have hown : s.vm.findClass RX1 = some m.cls := findClass_of_methodNamed B.named
  have hlocks := B.notSynchronized
  subst hsz
  have hP := hP.self s.heap.size
  generalize hAe : mA (TW cy L tr a κ τ) s.heap.size = A at hP ⊢
  have hA : ∀ q : Nat, s.heap.size ≤ q → A q := fun q h => by rw [← hAe]; exact Or.inr h
  have hS : va_S A s.heap s.heap [] := va_S.rf
  have hl9 := lv_entry ([.ref (L 2 i), .int n]) (n := 2) (Nat.le_of_ble_eq_true rfl)
  rw [lg_entry_eq]
  generalize (lg_sl ([.ref (L 2 i), .int n]) ++ List.replicate (2 - (lg_sl ([.ref (L 2 i), .int n])).length) Slot.unset).toArray = ls at hl9 ⊢
  have hl : lv_has ls 2 [(0, .ref (L 2 i)), (1, .int n)] := hl9
  refine lv_iload_n hx hb dX1_countTurn_0 rfl (lv_at hl 1 rfl) ?_
  refine lv_if_lt (tgt := 23) hx hb dX1_countTurn_1 (by decide) (fun c_1 => ?_) (fun c_1 => ?_)
  · refine W.widen (k := 0) (n := 0) (Nat.le_of_ble_eq_true rfl) (Nat.le_of_ble_eq_true rfl) ?_
    have s_1 : a = L_turn a i n := by
      first | rfl | (simp only [L_turn, if_pos c_1])
    rw [s_1] at hP
    exact W.vret hx hb hr (fun t ht hW => ⟨⟨(), rfl, trivial, (by show mw _ _ _ _ t.heap; rw [ht]; exact hP)⟩, hS.F ht⟩) hS.2.2 dX1_countTurn_23
  · refine lv_iload_n hx hb dX1_countTurn_4 rfl (lv_at hl 1 rfl) ?_
    refine lv_aload_n hx hb dX1_countTurn_5 rfl (lv_at hl 0 rfl) ?_
    refine va_get (D := (dC, dI)) (ws := [(L 2 i, .inr (1, [.int ((a 2 i) 0), .int ((a 2 i) 1), .int ((a 2 i) 2), .int ((a 2 i) 3), .int ((a 2 i) 4), .int ((a 2 i) 5), .int ((a 2 i) 6), .int ((a 2 i) 7), .int ((a 2 i) 8), .ref (L 3 i), .ref (L 5 i), .int ((a 2 i) 9), .int ((a 2 i) 10), .int ((a 2 i) 11), .int ((a 2 i) 12), .ref (L 7 i)]))]) (ci := 1) (v := .ref (L 7 i)) (C := RX1) (T := TX1) (N := 16) hx hb hts tl_X1 hown hK (hP.one (tw_mem (f := 2) (i := i) hi rfl)) 0 rfl rfl 15 (by decide) (hts _ tw_660) (fun _ h9 => h9) rfl dX1_countTurn_6 ?_
    refine va_alen hx hb hK (ws := [(L 7 i, .inl (cy 0, 24, .inl (a 7 i)))]) (hP.one (tw_mem (f := 7) (i := i) hi rfl)) 0 0 rfl rfl (v := 24) rfl dX1_countTurn_9 ?_
    refine lv_icmp_ge (tgt := 23) hx hb dX1_countTurn_10 (by decide) (fun c_2 => ?_) (fun c_2 => ?_)
    · refine W.widen (k := 0) (n := 0) (Nat.le_of_ble_eq_true rfl) (Nat.le_of_ble_eq_true rfl) ?_
      have s_2 : a = L_turn a i n := by
        first | rfl | (simp only [L_turn, if_neg c_1, if_pos c_2])
      rw [s_2] at hP
      exact W.vret hx hb hr (fun t ht hW => ⟨⟨(), rfl, trivial, (by show mw _ _ _ _ t.heap; rw [ht]; exact hP)⟩, hS.F ht⟩) hS.2.2 dX1_countTurn_23
    · refine lv_aload_n hx hb dX1_countTurn_13 rfl (lv_at hl 0 rfl) ?_
      refine va_get (D := (dC, dI)) (ws := [(L 2 i, .inr (1, [.int ((a 2 i) 0), .int ((a 2 i) 1), .int ((a 2 i) 2), .int ((a 2 i) 3), .int ((a 2 i) 4), .int ((a 2 i) 5), .int ((a 2 i) 6), .int ((a 2 i) 7), .int ((a 2 i) 8), .ref (L 3 i), .ref (L 5 i), .int ((a 2 i) 9), .int ((a 2 i) 10), .int ((a 2 i) 11), .int ((a 2 i) 12), .ref (L 7 i)]))]) (ci := 1) (v := .ref (L 7 i)) (C := RX1) (T := TX1) (N := 16) hx hb hts tl_X1 hown hK (hP.one (tw_mem (f := 2) (i := i) hi rfl)) 0 rfl rfl 15 (by decide) (hts _ tw_660) (fun _ h9 => h9) rfl dX1_countTurn_14 ?_
      refine lv_iload_n hx hb dX1_countTurn_17 rfl (lv_at hl 1 rfl) ?_
      refine lv_dup2_11 hx hb dX1_countTurn_18 rfl rfl ?_
      have j_1 : (n : Int32).toNatClampNeg = n.toNatClampNeg := m_cl (m_nI c_1) (m_lt (n := 24) c_1 c_2 (by decide)) (by decide)
      refine va_iald hx hb hK (ws := [(L 7 i, .inl (cy 0, 24, .inl (a 7 i)))]) (hP.one (tw_mem (f := 7) (i := i) hi rfl)) 0 0 rfl rfl (m_in (m_nI c_1) (m_lt (n := 24) c_1 c_2 (by decide)) (by decide)) dX1_countTurn_19 ?_
      refine W.eq (g2 := F0 m 20 ls [.int ((a 7 i) n.toNatClampNeg), .int n, .ref (L 7 i)]) (by first | (rw [j_1]; done) | (rw [j_1]; rfl)) ?_
      refine lv_iconst (v := 1) hx hb dX1_countTurn_20 (by decide) ?_
      refine lv_iadd hx hb dX1_countTurn_21 ?_
      have j_2 : (n : Int32).toNatClampNeg = n.toNatClampNeg := m_cl (m_nI c_1) (m_lt (n := 24) c_1 c_2 (by decide)) (by decide)
      obtain ⟨ws9, k9, hPw, hDw, hk9, -, hbk⟩ := hP.cut (e := .inl (cy 0, 24, .inl (a 7 i))) (tw_mem (f := 7) (i := i) hi rfl)
      refine va_iast hx hb hK hPw hDw hS k9 0 hk9 rfl (m_in (m_nI c_1) (m_lt (n := 24) c_1 c_2 (by decide)) (by decide)) dX1_countTurn_22 (fun H locs hPw hDw hS => ?_)
      rw [j_2] at hPw hDw
      have hP : mw (dC, dI) vwCl A (TW cy L tr (S2 a 7 i (upd (a 7 i) n.toNatClampNeg (((a 7 i) n.toNatClampNeg) + 1))) κ τ) H := (hbk _ _ hPw hDw).sub (tw_set (b := S2 a 7 i (upd (a 7 i) n.toNatClampNeg (((a 7 i) n.toNatClampNeg) + 1))) (f := 7) (i := i) (x := upd (a 7 i) n.toNatClampNeg (((a 7 i) n.toNatClampNeg) + 1)) hT hi (by decide) rfl)
      clear hbk hPw hDw hk9
      refine W.widen (k := 0) (n := 0) (Nat.le_of_ble_eq_true rfl) (Nat.le_of_ble_eq_true rfl) ?_
      have s_3 : S2 a 7 i (upd (a 7 i) n.toNatClampNeg (((a 7 i) n.toNatClampNeg) + 1)) = L_turn a i n := by
        first | rfl | (simp only [L_turn, if_neg c_1, if_neg c_2])
      rw [s_3] at hP
      exact W.vret hx hb hr (fun t ht hW => ⟨⟨(), rfl, trivial, (by show mw _ _ _ _ t.heap; rw [ht]; exact hP)⟩, hS.F ht⟩) hS.2.2 dX1_countTurn_23
set_option maxRecDepth 100000 in
set_option maxHeartbeats 4000000 in
/-- Link.countQueueIn -/
theorem c_Link_countQueueIn (l : Launch) (dC : Nat → ClassId) (dI : Nat → Nat → Nat) (cy : Nat → ClassId) (L : Lay) (tr : Option Nat) (a : St) (κ : Kap) (τ : Tau) (i : Nat) (tk : Int32) (sz : Nat) (hT : TL L tr τ) (hi : i < 24) (h5l : 0 ≤ (a 5 i 0).toInt) (h5 : (a 5 i 0).toInt ≤ 30) : Met l yX1_countQueueIn (tp_w yX1_countQueueIn cX1_countQueueIn 3 none) ({ frames := 2, cells := 0, slots := 0, locals := 43 }) (va_Pc [.ref (L 2 i), .int tk] (mPre dC dI cy (TW cy L tr a κ τ) sz)) (va_Qv (fun _ : Unit => True) (fun (_ : Unit) (t : State) => mw (dC, dI) vwCl (mA (TW cy L tr a κ τ) sz) (TW cy L tr (L_cq a i tk) κ τ) t.heap) (mA (TW cy L tr a κ τ) sz)) (0) (0) (mA (TW cy L tr a κ τ) sz) := by
  refine Met.ofW (cc := cX1_countQueueIn) (maxL := 3) (ret := none) (by decide) rfl ?_
  intro p e s m args below meth c s₁ B hml hv
  obtain ⟨rfl, hsz, hP, hK, hE⟩ := hv
  have hx := B.exec
  have hb := B.bytes
  have hr := B.returns
  have hts0 := atoms_spec (ws := tp_w yX1_countQueueIn cX1_countQueueIn 3 none) B.pre
  have hts : ∀ w ∈ tp_all, w.before _ s = true := fun w h => hts0 w (List.mem_cons_of_mem _ h)
  have hown : s.vm.findClass RX1 = some m.cls := findClass_of_methodNamed B.named
  have hlocks := B.notSynchronized
  subst hsz
  have hP := hP.self s.heap.size
  generalize hAe : mA (TW cy L tr a κ τ) s.heap.size = A at hP ⊢
  have hA : ∀ q : Nat, s.heap.size ≤ q → A q := fun q h => by rw [← hAe]; exact Or.inr h
  have hS : va_S A s.heap s.heap [] := va_S.rf
  have hl9 := lv_entry ([.ref (L 2 i), .int tk]) (n := 3) (Nat.le_of_ble_eq_true rfl)
  rw [lg_entry_eq]
  generalize (lg_sl ([.ref (L 2 i), .int tk]) ++ List.replicate (3 - (lg_sl ([.ref (L 2 i), .int tk])).length) Slot.unset).toArray = ls at hl9 ⊢
  have hl : lv_has ls 3 [(0, .ref (L 2 i)), (1, .int tk)] := hl9
  refine lv_aload_n hx hb dX1_countQueueIn_0 rfl (lv_at hl 0 rfl) ?_
  refine lv_iload_n hx hb dX1_countQueueIn_1 rfl (lv_at hl 1 rfl) ?_
  have hFc := m_free (C := (TW cy L tr a κ τ)) hP hS hA (fun _ _ h => h)
  refine va_calli (va_runV (As := [.int tk]) (rest := []) ⟨hx, hb, hml, hown, hts⟩ (c_Link_queueIn l dC dI cy L tr a κ τ i tk s.heap.size hT hi h5l h5) (tp_cwV 1 hts tw_182 tw_183 tw_184 tw_23 tw_185 rfl rfl (by decide +kernel) ⟨Nat.le_of_ble_eq_true rfl, Nat.le_of_ble_eq_true rfl⟩) ⟨m_blind, va_recv hK (hP.one (e := .inr (1, [.int ((a 2 i) 0), .int ((a 2 i) 1), .int ((a 2 i) 2), .int ((a 2 i) 3), .int ((a 2 i) 4), .int ((a 2 i) 5), .int ((a 2 i) 6), .int ((a 2 i) 7), .int ((a 2 i) 8), .ref (L 3 i), .ref (L 5 i), .int ((a 2 i) 9), .int ((a 2 i) 10), .int ((a 2 i) 11), .int ((a 2 i) 12), .ref (L 7 i)])) (tw_mem (f := 2) (i := i) hi rfl)) (ci := 1) (q0 := 0) rfl rfl, fun U hU hW => ⟨rfl, m_pay hK hP hE (fun _ _ h => h) U hU hW⟩⟩ rfl rfl hl.1 rfl (lv_room (Nat.le_of_ble_eq_true rfl)) dX1_countQueueIn_2 ⟨(Nat.le_of_ble_eq_true rfl), (Nat.le_of_ble_eq_true rfl)⟩) hS (fun q _ h => hFc q h) hFc (fun r_1 u t H1 locs ht hvm hw hB hz1 hk1 hS => ?_)
  obtain rfl := hw
  obtain ⟨f_1, hP1⟩ := hB
  subst f_1
  rw [ht] at hP1
  have hP : mw (dC, dI) vwCl A (TW cy L tr a κ τ) H1 := hP.join (fun _ _ h => h) hk1 hFc hP1 (fun _ _ h => Or.inl h)
  generalize H1 = H at hP hS ⊢
  clear hP1 hk1 hFc
  refine lv_istore_n (lv' := [(2, .int (L_q a i tk)), (0, .ref (L 2 i)), (1, .int tk)]) hx hb dX1_countQueueIn_5 rfl hl (by decide) rfl (fun ls hl => ?_)
  refine lv_aload_n hx hb dX1_countQueueIn_6 rfl (lv_at hl 1 rfl) ?_
  refine lv_aload_n hx hb dX1_countQueueIn_7 rfl (lv_at hl 1 rfl) ?_
  refine va_get (D := (dC, dI)) (ws := [(L 2 i, .inr (1, [.int ((a 2 i) 0), .int ((a 2 i) 1), .int ((a 2 i) 2), .int ((a 2 i) 3), .int ((a 2 i) 4), .int ((a 2 i) 5), .int ((a 2 i) 6), .int ((a 2 i) 7), .int ((a 2 i) 8), .ref (L 3 i), .ref (L 5 i), .int ((a 2 i) 9), .int ((a 2 i) 10), .int ((a 2 i) 11), .int ((a 2 i) 12), .ref (L 7 i)]))]) (ci := 1) (v := .int ((a 2 i) 11)) (C := RX1) (T := TX1) (N := 16) hx hb hts tl_X1 hown hK (hP.one (tw_mem (f := 2) (i := i) hi rfl)) 0 rfl rfl 13 (by decide) (hts _ tw_656) (fun _ h9 => h9) rfl dX1_countQueueIn_8 ?_
  refine lv_iload_n hx hb dX1_countQueueIn_11 rfl (lv_at hl 0 rfl) ?_
  refine va_mmax hx hb (hml.trans hl.1.symm) hown (hts _ tw_369) (hts _ tw_292) (hts _ tw_25) (hts _ tw_293) (Nat.le_of_ble_eq_true rfl) (Nat.le_of_ble_eq_true rfl) (Nat.le_of_ble_eq_true rfl) (Nat.le_of_ble_eq_true rfl) dX1_countQueueIn_12 ?_
  obtain ⟨ws9, k9, hPw, hDw, hk9, -, hbk⟩ := hP.cut (e := .inr (1, [.int ((a 2 i) 0), .int ((a 2 i) 1), .int ((a 2 i) 2), .int ((a 2 i) 3), .int ((a 2 i) 4), .int ((a 2 i) 5), .int ((a 2 i) 6), .int ((a 2 i) 7), .int ((a 2 i) 8), .ref (L 3 i), .ref (L 5 i), .int ((a 2 i) 9), .int ((a 2 i) 10), .int ((a 2 i) 11), .int ((a 2 i) 12), .ref (L 7 i)])) (tw_mem (f := 2) (i := i) hi rfl)
  refine va_put (D := (dC, dI)) (ci := 1) (v := .int (if ((a 2 i) 11) < (L_q a i tk) then (L_q a i tk) else ((a 2 i) 11))) (ty := .int) (C := RX1) (T := TX1) (N := 16) hx hb hts tl_X1 tyX1 tyX1_ok nmX1 hown hK hPw hDw hS k9 hk9 rfl 13 (by decide) (hts _ tw_656) (fun _ h9 => h9) rfl (by decide +kernel) rfl rfl (Nat.le_of_ble_eq_true rfl) dX1_countQueueIn_15 (fun H locs hPw hDw hS => ?_)
  have hP : mw (dC, dI) vwCl A (TW cy L tr (S2 a 2 i (upd (a 2 i) 11 (if ((a 2 i) 11) < (L_q a i tk) then (L_q a i tk) else ((a 2 i) 11)))) κ τ) H := (hbk _ _ hPw hDw).sub (tw_set (b := S2 a 2 i (upd (a 2 i) 11 (if ((a 2 i) 11) < (L_q a i tk) then (L_q a i tk) else ((a 2 i) 11)))) (f := 2) (i := i) (x := upd (a 2 i) 11 (if ((a 2 i) 11) < (L_q a i tk) then (L_q a i tk) else ((a 2 i) 11))) hT hi (by decide) rfl)
  clear hbk hPw hDw hk9
  refine lv_aload_n hx hb dX1_countQueueIn_18 rfl (lv_at hl 1 rfl) ?_
  refine lv_dup hx hb dX1_countQueueIn_19 rfl ?_
  refine va_get (D := (dC, dI)) (ws := [(L 2 i, .inr (1, [.int ((a 2 i) 0), .int ((a 2 i) 1), .int ((a 2 i) 2), .int ((a 2 i) 3), .int ((a 2 i) 4), .int ((a 2 i) 5), .int ((a 2 i) 6), .int ((a 2 i) 7), .int ((a 2 i) 8), .ref (L 3 i), .ref (L 5 i), .int ((a 2 i) 9), .int ((a 2 i) 10), .int (if ((a 2 i) 11) < (L_q a i tk) then (L_q a i tk) else ((a 2 i) 11)), .int ((a 2 i) 12), .ref (L 7 i)]))]) (ci := 1) (v := .int ((a 2 i) 12)) (C := RX1) (T := TX1) (N := 16) hx hb hts tl_X1 hown hK (hP.one (tw_mem (f := 2) (i := i) hi S2_eq)) 0 rfl rfl 14 (by decide) (hts _ tw_658) (fun _ h9 => h9) rfl dX1_countQueueIn_20 ?_
  refine lv_iload_n hx hb dX1_countQueueIn_23 rfl (lv_at hl 0 rfl) ?_
  refine lv_iadd hx hb dX1_countQueueIn_24 ?_
  obtain ⟨ws9, k9, hPw, hDw, hk9, -, hbk⟩ := hP.cut (e := .inr (1, [.int ((a 2 i) 0), .int ((a 2 i) 1), .int ((a 2 i) 2), .int ((a 2 i) 3), .int ((a 2 i) 4), .int ((a 2 i) 5), .int ((a 2 i) 6), .int ((a 2 i) 7), .int ((a 2 i) 8), .ref (L 3 i), .ref (L 5 i), .int ((a 2 i) 9), .int ((a 2 i) 10), .int (if ((a 2 i) 11) < (L_q a i tk) then (L_q a i tk) else ((a 2 i) 11)), .int ((a 2 i) 12), .ref (L 7 i)])) (tw_mem (f := 2) (i := i) hi S2_eq)
  refine va_put (D := (dC, dI)) (ci := 1) (v := .int (((a 2 i) 12) + (L_q a i tk))) (ty := .int) (C := RX1) (T := TX1) (N := 16) hx hb hts tl_X1 tyX1 tyX1_ok nmX1 hown hK hPw hDw hS k9 hk9 rfl 14 (by decide) (hts _ tw_658) (fun _ h9 => h9) rfl (by decide +kernel) rfl rfl (Nat.le_of_ble_eq_true rfl) dX1_countQueueIn_25 (fun H locs hPw hDw hS => ?_)
  have hP : mw (dC, dI) vwCl A (TW cy L tr (S2 a 2 i (upd (upd (a 2 i) 11 (if ((a 2 i) 11) < (L_q a i tk) then (L_q a i tk) else ((a 2 i) 11))) 12 (((a 2 i) 12) + (L_q a i tk)))) κ τ) H := (hbk _ _ hPw hDw).sub (tw_set (b := S2 a 2 i (upd (upd (a 2 i) 11 (if ((a 2 i) 11) < (L_q a i tk) then (L_q a i tk) else ((a 2 i) 11))) 12 (((a 2 i) 12) + (L_q a i tk)))) (f := 2) (i := i) (x := upd (upd (a 2 i) 11 (if ((a 2 i) 11) < (L_q a i tk) then (L_q a i tk) else ((a 2 i) 11))) 12 (((a 2 i) 12) + (L_q a i tk))) hT hi (by decide) S2_S2.symm)
  clear hbk hPw hDw hk9
  refine W.widen (k := 0) (n := 0) (Nat.le_of_ble_eq_true rfl) (Nat.le_of_ble_eq_true rfl) ?_
  have s_1 : S2 a 2 i (upd (upd (a 2 i) 11 (if ((a 2 i) 11) < (L_q a i tk) then (L_q a i tk) else ((a 2 i) 11))) 12 (((a 2 i) 12) + (L_q a i tk))) = L_cq a i tk := by
    first | rfl | (simp only [L_cq, X_cq])
  rw [s_1] at hP
  exact W.vret hx hb hr (fun t ht hW => ⟨⟨(), rfl, trivial, (by show mw _ _ _ _ t.heap; rw [ht]; exact hP)⟩, hS.F ht⟩) hS.2.2 dX1_countQueueIn_28
end
section
theorem tw_741 : Cond.fieldLink RX4 21 "Turnpike$Signal" "phase" "I" ∈ tp_all := tp_mem 741 (by decide +kernel) rfl
theorem tw_738 : Cond.fieldLink RX4 25 "Turnpike$Signal" "phases" "I" ∈ tp_all := tp_mem 738 (by decide +kernel) rfl
theorem tw_244 : Cond.code yX4_isOn cX4_isOn 1 (some .boolean) ∈ tp_all := tp_mem 244 (by decide +kernel) rfl
theorem tw_240 : Cond.methodLink RX4 31 yX4_isOn ∈ tp_all := tp_mem 240 (by decide +kernel) rfl
theorem tw_242 : Cond.instanceMethod yX4_isOn ∈ tp_all := tp_mem 242 (by decide +kernel) rfl
theorem tw_5 : Cond.selects RX4 yX4_isOn yX4_isOn ∈ tp_all := tp_mem 5 (by decide +kernel) rfl
theorem tw_27 : Cond.initialized RX4 ∈ tp_all := tp_mem 27 (by decide +kernel) rfl
theorem tw_735 : Cond.fieldLink RX4 9 "Turnpike$Signal" "links" "[I" ∈ tp_all := tp_mem 735 (by decide +kernel) rfl
theorem tw_239 : Cond.code yX4_linksOn cX4_linksOn 1 (some .int) ∈ tp_all := tp_mem 239 (by decide +kernel) rfl
theorem tw_268 : Cond.methodLink RX4 35 yX4_linksOn ∈ tp_all := tp_mem 268 (by decide +kernel) rfl
theorem tw_237 : Cond.instanceMethod yX4_linksOn ∈ tp_all := tp_mem 237 (by decide +kernel) rfl
theorem tw_238 : Cond.selects RX4 yX4_linksOn yX4_linksOn ∈ tp_all := tp_mem 238 (by decide +kernel) rfl
theorem tw_743 : Cond.fieldLink RX4 28 "Turnpike$Signal" "ticks" "I" ∈ tp_all := tp_mem 743 (by decide +kernel) rfl
theorem tw_737 : Cond.fieldLink RX4 18 "Turnpike$Signal" "greatest" "[I" ∈ tp_all := tp_mem 737 (by decide +kernel) rfl
theorem tw_736 : Cond.fieldLink RX4 15 "Turnpike$Signal" "least" "[I" ∈ tp_all := tp_mem 736 (by decide +kernel) rfl
theorem tw_764 : Cond.fieldLink RX0 13 "Turnpike$Flow" "from" "I" ∈ tp_all := tp_mem 764 (by decide +kernel) rfl
theorem tw_766 : Cond.fieldLink RX0 16 "Turnpike$Flow" "to" "I" ∈ tp_all := tp_mem 766 (by decide +kernel) rfl
theorem tw_768 : Cond.fieldLink RX0 19 "Turnpike$Flow" "kind" "I" ∈ tp_all := tp_mem 768 (by decide +kernel) rfl
theorem tw_770 : Cond.fieldLink RX0 22 "Turnpike$Flow" "start" "I" ∈ tp_all := tp_mem 770 (by decide +kernel) rfl
theorem tw_772 : Cond.fieldLink RX0 7 "Turnpike$Flow" "period" "I" ∈ tp_all := tp_mem 772 (by decide +kernel) rfl
theorem tw_774 : Cond.fieldLink RX0 25 "Turnpike$Flow" "most" "I" ∈ tp_all := tp_mem 774 (by decide +kernel) rfl
theorem tw_778 : Cond.fieldLink RX0 28 "Turnpike$Flow" "arrived" "I" ∈ tp_all := tp_mem 778 (by decide +kernel) rfl
theorem tw_782 : Cond.fieldLink RX0 31 "Turnpike$Flow" "sumOfTrips" "I" ∈ tp_all := tp_mem 782 (by decide +kernel) rfl
theorem tw_784 : Cond.fieldLink RX0 34 "Turnpike$Flow" "sumOfDelays" "I" ∈ tp_all := tp_mem 784 (by decide +kernel) rfl
theorem tw_786 : Cond.fieldLink RX0 37 "Turnpike$Flow" "longestTrip" "I" ∈ tp_all := tp_mem 786 (by decide +kernel) rfl
theorem tw_291 : Cond.methodLink RX0 40 yJ9_max_7cf53 ∈ tp_all := tp_mem 291 (by decide +kernel) rfl
theorem tw_818 : Cond.fieldLink RX7 15 "Turnpike$Vehicle" "flow" "I" ∈ tp_all := tp_mem 818 (by decide +kernel) rfl
theorem tw_820 : Cond.fieldLink RX7 19 "Turnpike$Vehicle" "to" "I" ∈ tp_all := tp_mem 820 (by decide +kernel) rfl
theorem tw_823 : Cond.fieldLink RX7 22 "Turnpike$Vehicle" "kind" "I" ∈ tp_all := tp_mem 823 (by decide +kernel) rfl
theorem tw_825 : Cond.fieldLink RX7 25 "Turnpike$Vehicle" "state" "I" ∈ tp_all := tp_mem 825 (by decide +kernel) rfl
theorem tw_828 : Cond.fieldLink RX7 28 "Turnpike$Vehicle" "start" "I" ∈ tp_all := tp_mem 828 (by decide +kernel) rfl
theorem tw_829 : Cond.fieldLink RX7 31 "Turnpike$Vehicle" "link" "I" ∈ tp_all := tp_mem 829 (by decide +kernel) rfl
theorem tw_831 : Cond.fieldLink RX7 34 "Turnpike$Vehicle" "end" "I" ∈ tp_all := tp_mem 831 (by decide +kernel) rfl
theorem tw_834 : Cond.fieldLink RX7 37 "Turnpike$Vehicle" "gone" "I" ∈ tp_all := tp_mem 834 (by decide +kernel) rfl
theorem tw_837 : Cond.fieldLink RX7 40 "Turnpike$Vehicle" "driven" "I" ∈ tp_all := tp_mem 837 (by decide +kernel) rfl
theorem tw_838 : Cond.fieldLink RX7 43 "Turnpike$Vehicle" "trip" "I" ∈ tp_all := tp_mem 838 (by decide +kernel) rfl
theorem tw_841 : Cond.fieldLink RX7 46 "Turnpike$Vehicle" "delay" "I" ∈ tp_all := tp_mem 841 (by decide +kernel) rfl
theorem tw_844 : Cond.fieldLink RX7 49 "Turnpike$Vehicle" "wayLinks" "I" ∈ tp_all := tp_mem 844 (by decide +kernel) rfl
theorem tw_845 : Cond.fieldLink RX7 9 "Turnpike$Vehicle" "way" "[I" ∈ tp_all := tp_mem 845 (by decide +kernel) rfl
theorem dX4_isOn_0 : decode cX4_isOn 0 = .ok (.aload_n 0, 1) := by decide +kernel
theorem dX4_isOn_1 : decode cX4_isOn 1 = .ok (.getfield 21, 3) := by decide +kernel
theorem dX4_isOn_4 : decode cX4_isOn 4 = .ok (.ifCond .lt 18, 3) := by decide +kernel
theorem dX4_isOn_22 : decode cX4_isOn 22 = .ok (.iconst 0, 1) := by decide +kernel
theorem dX4_isOn_23 : decode cX4_isOn 23 = .ok (.ireturn, 1) := by decide +kernel
theorem dX4_isOn_7 : decode cX4_isOn 7 = .ok (.aload_n 0, 1) := by decide +kernel
theorem dX4_isOn_8 : decode cX4_isOn 8 = .ok (.getfield 21, 3) := by decide +kernel
theorem dX4_isOn_11 : decode cX4_isOn 11 = .ok (.aload_n 0, 1) := by decide +kernel
theorem dX4_isOn_12 : decode cX4_isOn 12 = .ok (.getfield 25, 3) := by decide +kernel
theorem dX4_isOn_15 : decode cX4_isOn 15 = .ok (.if_icmp .ge 7, 3) := by decide +kernel
theorem dX4_isOn_18 : decode cX4_isOn 18 = .ok (.iconst 1, 1) := by decide +kernel
theorem dX4_isOn_19 : decode cX4_isOn 19 = .ok (.goto 4, 3) := by decide +kernel
theorem dX4_linksOn_0 : decode cX4_linksOn 0 = .ok (.aload_n 0, 1) := by decide +kernel
theorem dX4_linksOn_1 : decode cX4_linksOn 1 = .ok (.invokevirtual 31, 3) := by decide +kernel
theorem dX4_linksOn_4 : decode cX4_linksOn 4 = .ok (.ifCond .eq 15, 3) := by decide +kernel
theorem dX4_linksOn_19 : decode cX4_linksOn 19 = .ok (.iconst 0, 1) := by decide +kernel
theorem dX4_linksOn_20 : decode cX4_linksOn 20 = .ok (.ireturn, 1) := by decide +kernel
theorem dX4_linksOn_7 : decode cX4_linksOn 7 = .ok (.aload_n 0, 1) := by decide +kernel
theorem dX4_linksOn_8 : decode cX4_linksOn 8 = .ok (.getfield 9, 3) := by decide +kernel
theorem dX4_linksOn_11 : decode cX4_linksOn 11 = .ok (.aload_n 0, 1) := by decide +kernel
theorem dX4_linksOn_12 : decode cX4_linksOn 12 = .ok (.getfield 21, 3) := by decide +kernel
theorem dX4_linksOn_15 : decode cX4_linksOn 15 = .ok (.iaload, 1) := by decide +kernel
theorem dX4_linksOn_16 : decode cX4_linksOn 16 = .ok (.goto 4, 3) := by decide +kernel
theorem dX4_isGreen_0 : decode cX4_isGreen 0 = .ok (.aload_n 0, 1) := by decide +kernel
theorem dX4_isGreen_1 : decode cX4_isGreen 1 = .ok (.getfield 25, 3) := by decide +kernel
theorem dX4_isGreen_4 : decode cX4_isGreen 4 = .ok (.ifCond .eq 15, 3) := by decide +kernel
theorem dX4_isGreen_19 : decode cX4_isGreen 19 = .ok (.iconst 1, 1) := by decide +kernel
theorem dX4_isGreen_20 : decode cX4_isGreen 20 = .ok (.goto 4, 3) := by decide +kernel
theorem dX4_isGreen_24 : decode cX4_isGreen 24 = .ok (.ireturn, 1) := by decide +kernel
theorem dX4_isGreen_7 : decode cX4_isGreen 7 = .ok (.aload_n 0, 1) := by decide +kernel
theorem dX4_isGreen_8 : decode cX4_isGreen 8 = .ok (.invokevirtual 35, 3) := by decide +kernel
theorem dX4_isGreen_11 : decode cX4_isGreen 11 = .ok (.iload_n 1, 1) := by decide +kernel
theorem dX4_isGreen_12 : decode cX4_isGreen 12 = .ok (.ishr, 1) := by decide +kernel
theorem dX4_isGreen_13 : decode cX4_isGreen 13 = .ok (.iconst 1, 1) := by decide +kernel
theorem dX4_isGreen_14 : decode cX4_isGreen 14 = .ok (.iand, 1) := by decide +kernel
theorem dX4_isGreen_15 : decode cX4_isGreen 15 = .ok (.iconst 1, 1) := by decide +kernel
theorem dX4_isGreen_16 : decode cX4_isGreen 16 = .ok (.if_icmp .ne 7, 3) := by decide +kernel
theorem dX4_isGreen_23 : decode cX4_isGreen 23 = .ok (.iconst 0, 1) := by decide +kernel
theorem dX4_playTick_0 : decode cX4_playTick 0 = .ok (.aload_n 0, 1) := by decide +kernel
theorem dX4_playTick_1 : decode cX4_playTick 1 = .ok (.dup, 1) := by decide +kernel
theorem dX4_playTick_2 : decode cX4_playTick 2 = .ok (.getfield 28, 3) := by decide +kernel
theorem dX4_playTick_5 : decode cX4_playTick 5 = .ok (.iconst 1, 1) := by decide +kernel
theorem dX4_playTick_6 : decode cX4_playTick 6 = .ok (.iadd, 1) := by decide +kernel
theorem dX4_playTick_7 : decode cX4_playTick 7 = .ok (.putfield 28, 3) := by decide +kernel
theorem dX4_playTick_10 : decode cX4_playTick 10 = .ok (.aload_n 0, 1) := by decide +kernel
theorem dX4_playTick_11 : decode cX4_playTick 11 = .ok (.invokevirtual 31, 3) := by decide +kernel
theorem dX4_playTick_14 : decode cX4_playTick 14 = .ok (.ifCond .eq 39, 3) := by decide +kernel
theorem dX4_playTick_53 : decode cX4_playTick 53 = .ok (.aload_n 0, 1) := by decide +kernel
theorem dX4_playTick_54 : decode cX4_playTick 54 = .ok (.aload_n 0, 1) := by decide +kernel
theorem dX4_playTick_55 : decode cX4_playTick 55 = .ok (.getfield 21, 3) := by decide +kernel
theorem dX4_playTick_58 : decode cX4_playTick 58 = .ok (.iconst 1, 1) := by decide +kernel
theorem dX4_playTick_59 : decode cX4_playTick 59 = .ok (.iadd, 1) := by decide +kernel
theorem dX4_playTick_60 : decode cX4_playTick 60 = .ok (.aload_n 0, 1) := by decide +kernel
theorem dX4_playTick_61 : decode cX4_playTick 61 = .ok (.getfield 25, 3) := by decide +kernel
theorem dX4_playTick_64 : decode cX4_playTick 64 = .ok (.if_icmp .ge 12, 3) := by decide +kernel
theorem dX4_playTick_76 : decode cX4_playTick 76 = .ok (.iconst 0, 1) := by decide +kernel
theorem dX4_playTick_77 : decode cX4_playTick 77 = .ok (.putfield 21, 3) := by decide +kernel
theorem dX4_playTick_80 : decode cX4_playTick 80 = .ok (.aload_n 0, 1) := by decide +kernel
theorem dX4_playTick_81 : decode cX4_playTick 81 = .ok (.iconst 1, 1) := by decide +kernel
theorem dX4_playTick_82 : decode cX4_playTick 82 = .ok (.putfield 28, 3) := by decide +kernel
theorem dX4_playTick_85 : decode cX4_playTick 85 = .ok (.return_, 1) := by decide +kernel
theorem dX4_playTick_67 : decode cX4_playTick 67 = .ok (.aload_n 0, 1) := by decide +kernel
theorem dX4_playTick_68 : decode cX4_playTick 68 = .ok (.getfield 21, 3) := by decide +kernel
theorem dX4_playTick_71 : decode cX4_playTick 71 = .ok (.iconst 1, 1) := by decide +kernel
theorem dX4_playTick_72 : decode cX4_playTick 72 = .ok (.iadd, 1) := by decide +kernel
theorem dX4_playTick_73 : decode cX4_playTick 73 = .ok (.goto 4, 3) := by decide +kernel
theorem dX4_playTick_17 : decode cX4_playTick 17 = .ok (.aload_n 0, 1) := by decide +kernel
theorem dX4_playTick_18 : decode cX4_playTick 18 = .ok (.getfield 28, 3) := by decide +kernel
theorem dX4_playTick_21 : decode cX4_playTick 21 = .ok (.aload_n 0, 1) := by decide +kernel
theorem dX4_playTick_22 : decode cX4_playTick 22 = .ok (.getfield 18, 3) := by decide +kernel
theorem dX4_playTick_25 : decode cX4_playTick 25 = .ok (.aload_n 0, 1) := by decide +kernel
theorem dX4_playTick_26 : decode cX4_playTick 26 = .ok (.getfield 21, 3) := by decide +kernel
theorem dX4_playTick_29 : decode cX4_playTick 29 = .ok (.iaload, 1) := by decide +kernel
theorem dX4_playTick_30 : decode cX4_playTick 30 = .ok (.if_icmp .gt 23, 3) := by decide +kernel
theorem dX4_playTick_33 : decode cX4_playTick 33 = .ok (.aload_n 0, 1) := by decide +kernel
theorem dX4_playTick_34 : decode cX4_playTick 34 = .ok (.getfield 28, 3) := by decide +kernel
theorem dX4_playTick_37 : decode cX4_playTick 37 = .ok (.aload_n 0, 1) := by decide +kernel
theorem dX4_playTick_38 : decode cX4_playTick 38 = .ok (.getfield 15, 3) := by decide +kernel
theorem dX4_playTick_41 : decode cX4_playTick 41 = .ok (.aload_n 0, 1) := by decide +kernel
theorem dX4_playTick_42 : decode cX4_playTick 42 = .ok (.getfield 21, 3) := by decide +kernel
theorem dX4_playTick_45 : decode cX4_playTick 45 = .ok (.iaload, 1) := by decide +kernel
theorem dX4_playTick_46 : decode cX4_playTick 46 = .ok (.if_icmp .le 39, 3) := by decide +kernel
theorem dX4_playTick_49 : decode cX4_playTick 49 = .ok (.iload_n 1, 1) := by decide +kernel
theorem dX4_playTick_50 : decode cX4_playTick 50 = .ok (.ifCond .ne 35, 3) := by decide +kernel
theorem dX4_append_0 : decode cX4_append 0 = .ok (.aload_n 0, 1) := by decide +kernel
theorem dX4_append_1 : decode cX4_append 1 = .ok (.getfield 25, 3) := by decide +kernel
theorem dX4_append_4 : decode cX4_append 4 = .ok (.iconst 4, 1) := by decide +kernel
theorem dX4_append_5 : decode cX4_append 5 = .ok (.if_icmp .lt 5, 3) := by decide +kernel
theorem dX4_append_10 : decode cX4_append 10 = .ok (.aload_n 0, 1) := by decide +kernel
theorem dX4_append_11 : decode cX4_append 11 = .ok (.getfield 9, 3) := by decide +kernel
theorem dX4_append_14 : decode cX4_append 14 = .ok (.aload_n 0, 1) := by decide +kernel
theorem dX4_append_15 : decode cX4_append 15 = .ok (.getfield 25, 3) := by decide +kernel
theorem dX4_append_18 : decode cX4_append 18 = .ok (.iload_n 1, 1) := by decide +kernel
theorem dX4_append_19 : decode cX4_append 19 = .ok (.iastore, 1) := by decide +kernel
theorem dX4_append_20 : decode cX4_append 20 = .ok (.aload_n 0, 1) := by decide +kernel
theorem dX4_append_21 : decode cX4_append 21 = .ok (.getfield 15, 3) := by decide +kernel
theorem dX4_append_24 : decode cX4_append 24 = .ok (.aload_n 0, 1) := by decide +kernel
theorem dX4_append_25 : decode cX4_append 25 = .ok (.getfield 25, 3) := by decide +kernel
theorem dX4_append_28 : decode cX4_append 28 = .ok (.iload_n 2, 1) := by decide +kernel
theorem dX4_append_29 : decode cX4_append 29 = .ok (.iastore, 1) := by decide +kernel
theorem dX4_append_30 : decode cX4_append 30 = .ok (.aload_n 0, 1) := by decide +kernel
theorem dX4_append_31 : decode cX4_append 31 = .ok (.getfield 18, 3) := by decide +kernel
theorem dX4_append_34 : decode cX4_append 34 = .ok (.aload_n 0, 1) := by decide +kernel
theorem dX4_append_35 : decode cX4_append 35 = .ok (.getfield 25, 3) := by decide +kernel
theorem dX4_append_38 : decode cX4_append 38 = .ok (.iload_n 3, 1) := by decide +kernel
theorem dX4_append_39 : decode cX4_append 39 = .ok (.iastore, 1) := by decide +kernel
theorem dX4_append_40 : decode cX4_append 40 = .ok (.aload_n 0, 1) := by decide +kernel
theorem dX4_append_41 : decode cX4_append 41 = .ok (.dup, 1) := by decide +kernel
theorem dX4_append_42 : decode cX4_append 42 = .ok (.getfield 25, 3) := by decide +kernel
theorem dX4_append_45 : decode cX4_append 45 = .ok (.dup_x1, 1) := by decide +kernel
theorem dX4_append_46 : decode cX4_append 46 = .ok (.iconst 1, 1) := by decide +kernel
theorem dX4_append_47 : decode cX4_append 47 = .ok (.iadd, 1) := by decide +kernel
theorem dX4_append_48 : decode cX4_append 48 = .ok (.putfield 25, 3) := by decide +kernel
theorem dX4_append_51 : decode cX4_append 51 = .ok (.ireturn, 1) := by decide +kernel
theorem dX0_tell_0 : decode cX0_tell 0 = .ok (.aload_n 0, 1) := by decide +kernel
theorem dX0_tell_1 : decode cX0_tell 1 = .ok (.iload_n 1, 1) := by decide +kernel
theorem dX0_tell_2 : decode cX0_tell 2 = .ok (.putfield 13, 3) := by decide +kernel
theorem dX0_tell_5 : decode cX0_tell 5 = .ok (.aload_n 0, 1) := by decide +kernel
theorem dX0_tell_6 : decode cX0_tell 6 = .ok (.iload_n 2, 1) := by decide +kernel
theorem dX0_tell_7 : decode cX0_tell 7 = .ok (.putfield 16, 3) := by decide +kernel
theorem dX0_tell_10 : decode cX0_tell 10 = .ok (.aload_n 0, 1) := by decide +kernel
theorem dX0_tell_11 : decode cX0_tell 11 = .ok (.iload_n 3, 1) := by decide +kernel
theorem dX0_tell_12 : decode cX0_tell 12 = .ok (.putfield 19, 3) := by decide +kernel
theorem dX0_tell_15 : decode cX0_tell 15 = .ok (.aload_n 0, 1) := by decide +kernel
theorem dX0_tell_16 : decode cX0_tell 16 = .ok (.iload 4, 2) := by decide +kernel
theorem dX0_tell_18 : decode cX0_tell 18 = .ok (.putfield 22, 3) := by decide +kernel
theorem dX0_tell_21 : decode cX0_tell 21 = .ok (.aload_n 0, 1) := by decide +kernel
theorem dX0_tell_22 : decode cX0_tell 22 = .ok (.iload 5, 2) := by decide +kernel
theorem dX0_tell_24 : decode cX0_tell 24 = .ok (.putfield 7, 3) := by decide +kernel
theorem dX0_tell_27 : decode cX0_tell 27 = .ok (.aload_n 0, 1) := by decide +kernel
theorem dX0_tell_28 : decode cX0_tell 28 = .ok (.iload 6, 2) := by decide +kernel
theorem dX0_tell_30 : decode cX0_tell 30 = .ok (.putfield 25, 3) := by decide +kernel
theorem dX0_tell_33 : decode cX0_tell 33 = .ok (.return_, 1) := by decide +kernel
theorem dX0_bringsIn_0 : decode cX0_bringsIn 0 = .ok (.iload_n 1, 1) := by decide +kernel
theorem dX0_bringsIn_1 : decode cX0_bringsIn 1 = .ok (.aload_n 0, 1) := by decide +kernel
theorem dX0_bringsIn_2 : decode cX0_bringsIn 2 = .ok (.getfield 22, 3) := by decide +kernel
theorem dX0_bringsIn_5 : decode cX0_bringsIn 5 = .ok (.if_icmp .lt 11, 3) := by decide +kernel
theorem dX0_bringsIn_16 : decode cX0_bringsIn 16 = .ok (.iconst 0, 1) := by decide +kernel
theorem dX0_bringsIn_17 : decode cX0_bringsIn 17 = .ok (.ireturn, 1) := by decide +kernel
theorem dX0_bringsIn_8 : decode cX0_bringsIn 8 = .ok (.aload_n 0, 1) := by decide +kernel
theorem dX0_bringsIn_9 : decode cX0_bringsIn 9 = .ok (.getfield 7, 3) := by decide +kernel
theorem dX0_bringsIn_12 : decode cX0_bringsIn 12 = .ok (.iconst 1, 1) := by decide +kernel
theorem dX0_bringsIn_13 : decode cX0_bringsIn 13 = .ok (.if_icmp .ge 5, 3) := by decide +kernel
theorem dX0_bringsIn_18 : decode cX0_bringsIn 18 = .ok (.iload_n 1, 1) := by decide +kernel
theorem dX0_bringsIn_19 : decode cX0_bringsIn 19 = .ok (.aload_n 0, 1) := by decide +kernel
theorem dX0_bringsIn_20 : decode cX0_bringsIn 20 = .ok (.getfield 22, 3) := by decide +kernel
theorem dX0_bringsIn_23 : decode cX0_bringsIn 23 = .ok (.isub, 1) := by decide +kernel
theorem dX0_bringsIn_24 : decode cX0_bringsIn 24 = .ok (.istore_n 2, 1) := by decide +kernel
theorem dX0_bringsIn_25 : decode cX0_bringsIn 25 = .ok (.iload_n 2, 1) := by decide +kernel
theorem dX0_bringsIn_26 : decode cX0_bringsIn 26 = .ok (.aload_n 0, 1) := by decide +kernel
theorem dX0_bringsIn_27 : decode cX0_bringsIn 27 = .ok (.getfield 7, 3) := by decide +kernel
theorem dX0_bringsIn_30 : decode cX0_bringsIn 30 = .ok (.irem, 1) := by decide +kernel
theorem dX0_bringsIn_31 : decode cX0_bringsIn 31 = .ok (.ifCond .ne 20, 3) := by decide +kernel
theorem dX0_bringsIn_51 : decode cX0_bringsIn 51 = .ok (.iconst 0, 1) := by decide +kernel
theorem dX0_bringsIn_52 : decode cX0_bringsIn 52 = .ok (.ireturn, 1) := by decide +kernel
theorem dX0_bringsIn_34 : decode cX0_bringsIn 34 = .ok (.iload_n 2, 1) := by decide +kernel
theorem dX0_bringsIn_35 : decode cX0_bringsIn 35 = .ok (.aload_n 0, 1) := by decide +kernel
theorem dX0_bringsIn_36 : decode cX0_bringsIn 36 = .ok (.getfield 7, 3) := by decide +kernel
theorem dX0_bringsIn_39 : decode cX0_bringsIn 39 = .ok (.idiv, 1) := by decide +kernel
theorem dX0_bringsIn_40 : decode cX0_bringsIn 40 = .ok (.aload_n 0, 1) := by decide +kernel
theorem dX0_bringsIn_41 : decode cX0_bringsIn 41 = .ok (.getfield 25, 3) := by decide +kernel
theorem dX0_bringsIn_44 : decode cX0_bringsIn 44 = .ok (.if_icmp .ge 7, 3) := by decide +kernel
theorem dX0_bringsIn_47 : decode cX0_bringsIn 47 = .ok (.iconst 1, 1) := by decide +kernel
theorem dX0_bringsIn_48 : decode cX0_bringsIn 48 = .ok (.goto 4, 3) := by decide +kernel
theorem dX0_countTrip_0 : decode cX0_countTrip 0 = .ok (.aload_n 0, 1) := by decide +kernel
theorem dX0_countTrip_1 : decode cX0_countTrip 1 = .ok (.dup, 1) := by decide +kernel
theorem dX0_countTrip_2 : decode cX0_countTrip 2 = .ok (.getfield 28, 3) := by decide +kernel
theorem dX0_countTrip_5 : decode cX0_countTrip 5 = .ok (.iconst 1, 1) := by decide +kernel
theorem dX0_countTrip_6 : decode cX0_countTrip 6 = .ok (.iadd, 1) := by decide +kernel
theorem dX0_countTrip_7 : decode cX0_countTrip 7 = .ok (.putfield 28, 3) := by decide +kernel
theorem dX0_countTrip_10 : decode cX0_countTrip 10 = .ok (.aload_n 0, 1) := by decide +kernel
theorem dX0_countTrip_11 : decode cX0_countTrip 11 = .ok (.dup, 1) := by decide +kernel
theorem dX0_countTrip_12 : decode cX0_countTrip 12 = .ok (.getfield 31, 3) := by decide +kernel
theorem dX0_countTrip_15 : decode cX0_countTrip 15 = .ok (.iload_n 1, 1) := by decide +kernel
theorem dX0_countTrip_16 : decode cX0_countTrip 16 = .ok (.iadd, 1) := by decide +kernel
theorem dX0_countTrip_17 : decode cX0_countTrip 17 = .ok (.putfield 31, 3) := by decide +kernel
theorem dX0_countTrip_20 : decode cX0_countTrip 20 = .ok (.aload_n 0, 1) := by decide +kernel
theorem dX0_countTrip_21 : decode cX0_countTrip 21 = .ok (.dup, 1) := by decide +kernel
theorem dX0_countTrip_22 : decode cX0_countTrip 22 = .ok (.getfield 34, 3) := by decide +kernel
theorem dX0_countTrip_25 : decode cX0_countTrip 25 = .ok (.iload_n 2, 1) := by decide +kernel
theorem dX0_countTrip_26 : decode cX0_countTrip 26 = .ok (.iadd, 1) := by decide +kernel
theorem dX0_countTrip_27 : decode cX0_countTrip 27 = .ok (.putfield 34, 3) := by decide +kernel
theorem dX0_countTrip_30 : decode cX0_countTrip 30 = .ok (.aload_n 0, 1) := by decide +kernel
theorem dX0_countTrip_31 : decode cX0_countTrip 31 = .ok (.aload_n 0, 1) := by decide +kernel
theorem dX0_countTrip_32 : decode cX0_countTrip 32 = .ok (.getfield 37, 3) := by decide +kernel
theorem dX0_countTrip_35 : decode cX0_countTrip 35 = .ok (.iload_n 1, 1) := by decide +kernel
theorem dX0_countTrip_36 : decode cX0_countTrip 36 = .ok (.invokestatic 40, 3) := by decide +kernel
theorem dX0_countTrip_39 : decode cX0_countTrip 39 = .ok (.putfield 37, 3) := by decide +kernel
theorem dX0_countTrip_42 : decode cX0_countTrip 42 = .ok (.return_, 1) := by decide +kernel
theorem dX7_come_0 : decode cX7_come 0 = .ok (.aload_n 0, 1) := by decide +kernel
theorem dX7_come_1 : decode cX7_come 1 = .ok (.iload_n 1, 1) := by decide +kernel
theorem dX7_come_2 : decode cX7_come 2 = .ok (.putfield 15, 3) := by decide +kernel
theorem dX7_come_5 : decode cX7_come 5 = .ok (.aload_n 0, 1) := by decide +kernel
theorem dX7_come_6 : decode cX7_come 6 = .ok (.iload_n 2, 1) := by decide +kernel
theorem dX7_come_7 : decode cX7_come 7 = .ok (.putfield 19, 3) := by decide +kernel
theorem dX7_come_10 : decode cX7_come 10 = .ok (.aload_n 0, 1) := by decide +kernel
theorem dX7_come_11 : decode cX7_come 11 = .ok (.iload_n 3, 1) := by decide +kernel
theorem dX7_come_12 : decode cX7_come 12 = .ok (.putfield 22, 3) := by decide +kernel
theorem dX7_come_15 : decode cX7_come 15 = .ok (.aload_n 0, 1) := by decide +kernel
theorem dX7_come_16 : decode cX7_come 16 = .ok (.iconst 0, 1) := by decide +kernel
theorem dX7_come_17 : decode cX7_come 17 = .ok (.putfield 25, 3) := by decide +kernel
theorem dX7_come_20 : decode cX7_come 20 = .ok (.aload_n 0, 1) := by decide +kernel
theorem dX7_come_21 : decode cX7_come 21 = .ok (.iload 4, 2) := by decide +kernel
theorem dX7_come_23 : decode cX7_come 23 = .ok (.putfield 28, 3) := by decide +kernel
theorem dX7_come_26 : decode cX7_come 26 = .ok (.aload_n 0, 1) := by decide +kernel
theorem dX7_come_27 : decode cX7_come 27 = .ok (.iconst (-1), 1) := by decide +kernel
theorem dX7_come_28 : decode cX7_come 28 = .ok (.putfield 31, 3) := by decide +kernel
theorem dX7_come_31 : decode cX7_come 31 = .ok (.aload_n 0, 1) := by decide +kernel
theorem dX7_come_32 : decode cX7_come 32 = .ok (.iconst (-1), 1) := by decide +kernel
theorem dX7_come_33 : decode cX7_come 33 = .ok (.putfield 34, 3) := by decide +kernel
theorem dX7_come_36 : decode cX7_come 36 = .ok (.aload_n 0, 1) := by decide +kernel
theorem dX7_come_37 : decode cX7_come 37 = .ok (.iconst 0, 1) := by decide +kernel
theorem dX7_come_38 : decode cX7_come 38 = .ok (.putfield 37, 3) := by decide +kernel
theorem dX7_come_41 : decode cX7_come 41 = .ok (.aload_n 0, 1) := by decide +kernel
theorem dX7_come_42 : decode cX7_come 42 = .ok (.iconst 0, 1) := by decide +kernel
theorem dX7_come_43 : decode cX7_come 43 = .ok (.putfield 40, 3) := by decide +kernel
theorem dX7_come_46 : decode cX7_come 46 = .ok (.aload_n 0, 1) := by decide +kernel
theorem dX7_come_47 : decode cX7_come 47 = .ok (.iconst (-1), 1) := by decide +kernel
theorem dX7_come_48 : decode cX7_come 48 = .ok (.putfield 43, 3) := by decide +kernel
theorem dX7_come_51 : decode cX7_come 51 = .ok (.aload_n 0, 1) := by decide +kernel
theorem dX7_come_52 : decode cX7_come 52 = .ok (.iconst (-1), 1) := by decide +kernel
theorem dX7_come_53 : decode cX7_come 53 = .ok (.putfield 46, 3) := by decide +kernel
theorem dX7_come_56 : decode cX7_come 56 = .ok (.aload_n 0, 1) := by decide +kernel
theorem dX7_come_57 : decode cX7_come 57 = .ok (.iconst 0, 1) := by decide +kernel
theorem dX7_come_58 : decode cX7_come 58 = .ok (.putfield 49, 3) := by decide +kernel
theorem dX7_come_61 : decode cX7_come 61 = .ok (.return_, 1) := by decide +kernel
theorem dX7_planOver_0 : decode cX7_planOver 0 = .ok (.aload_n 0, 1) := by decide +kernel
theorem dX7_planOver_1 : decode cX7_planOver 1 = .ok (.getfield 49, 3) := by decide +kernel
theorem dX7_planOver_4 : decode cX7_planOver 4 = .ok (.aload_n 0, 1) := by decide +kernel
theorem dX7_planOver_5 : decode cX7_planOver 5 = .ok (.getfield 9, 3) := by decide +kernel
theorem dX7_planOver_8 : decode cX7_planOver 8 = .ok (.arraylength, 1) := by decide +kernel
theorem dX7_planOver_9 : decode cX7_planOver 9 = .ok (.if_icmp .ge 23, 3) := by decide +kernel
theorem dX7_planOver_32 : decode cX7_planOver 32 = .ok (.return_, 1) := by decide +kernel
theorem dX7_planOver_12 : decode cX7_planOver 12 = .ok (.aload_n 0, 1) := by decide +kernel
theorem dX7_planOver_13 : decode cX7_planOver 13 = .ok (.getfield 9, 3) := by decide +kernel
theorem dX7_planOver_16 : decode cX7_planOver 16 = .ok (.aload_n 0, 1) := by decide +kernel
theorem dX7_planOver_17 : decode cX7_planOver 17 = .ok (.getfield 49, 3) := by decide +kernel
theorem dX7_planOver_20 : decode cX7_planOver 20 = .ok (.iload_n 1, 1) := by decide +kernel
theorem dX7_planOver_21 : decode cX7_planOver 21 = .ok (.iastore, 1) := by decide +kernel
theorem dX7_planOver_22 : decode cX7_planOver 22 = .ok (.aload_n 0, 1) := by decide +kernel
theorem dX7_planOver_23 : decode cX7_planOver 23 = .ok (.dup, 1) := by decide +kernel
theorem dX7_planOver_24 : decode cX7_planOver 24 = .ok (.getfield 49, 3) := by decide +kernel
theorem dX7_planOver_27 : decode cX7_planOver 27 = .ok (.iconst 1, 1) := by decide +kernel
theorem dX7_planOver_28 : decode cX7_planOver 28 = .ok (.iadd, 1) := by decide +kernel
theorem dX7_planOver_29 : decode cX7_planOver 29 = .ok (.putfield 49, 3) := by decide +kernel
theorem dX7_nextOfWay_0 : decode cX7_nextOfWay 0 = .ok (.aload_n 0, 1) := by decide +kernel
theorem dX7_nextOfWay_1 : decode cX7_nextOfWay 1 = .ok (.getfield 37, 3) := by decide +kernel
theorem dX7_nextOfWay_4 : decode cX7_nextOfWay 4 = .ok (.ifCond .lt 26, 3) := by decide +kernel
theorem dX7_nextOfWay_30 : decode cX7_nextOfWay 30 = .ok (.iconst (-1), 1) := by decide +kernel
theorem dX7_nextOfWay_31 : decode cX7_nextOfWay 31 = .ok (.ireturn, 1) := by decide +kernel
theorem dX7_nextOfWay_7 : decode cX7_nextOfWay 7 = .ok (.aload_n 0, 1) := by decide +kernel
theorem dX7_nextOfWay_8 : decode cX7_nextOfWay 8 = .ok (.getfield 37, 3) := by decide +kernel
theorem dX7_nextOfWay_11 : decode cX7_nextOfWay 11 = .ok (.aload_n 0, 1) := by decide +kernel
theorem dX7_nextOfWay_12 : decode cX7_nextOfWay 12 = .ok (.getfield 49, 3) := by decide +kernel
theorem dX7_nextOfWay_15 : decode cX7_nextOfWay 15 = .ok (.if_icmp .ge 15, 3) := by decide +kernel
theorem dX7_nextOfWay_18 : decode cX7_nextOfWay 18 = .ok (.aload_n 0, 1) := by decide +kernel
theorem dX7_nextOfWay_19 : decode cX7_nextOfWay 19 = .ok (.getfield 9, 3) := by decide +kernel
theorem dX7_nextOfWay_22 : decode cX7_nextOfWay 22 = .ok (.aload_n 0, 1) := by decide +kernel
theorem dX7_nextOfWay_23 : decode cX7_nextOfWay 23 = .ok (.getfield 37, 3) := by decide +kernel
theorem dX7_nextOfWay_26 : decode cX7_nextOfWay 26 = .ok (.iaload, 1) := by decide +kernel
theorem dX7_nextOfWay_27 : decode cX7_nextOfWay 27 = .ok (.goto 4, 3) := by decide +kernel
theorem dX7_goOnto_0 : decode cX7_goOnto 0 = .ok (.aload_n 0, 1) := by decide +kernel
theorem dX7_goOnto_1 : decode cX7_goOnto 1 = .ok (.iconst 1, 1) := by decide +kernel
theorem dX7_goOnto_2 : decode cX7_goOnto 2 = .ok (.putfield 25, 3) := by decide +kernel
theorem dX7_goOnto_5 : decode cX7_goOnto 5 = .ok (.aload_n 0, 1) := by decide +kernel
theorem dX7_goOnto_6 : decode cX7_goOnto 6 = .ok (.iload_n 1, 1) := by decide +kernel
theorem dX7_goOnto_7 : decode cX7_goOnto 7 = .ok (.putfield 31, 3) := by decide +kernel
theorem dX7_goOnto_10 : decode cX7_goOnto 10 = .ok (.aload_n 0, 1) := by decide +kernel
theorem dX7_goOnto_11 : decode cX7_goOnto 11 = .ok (.iload_n 3, 1) := by decide +kernel
theorem dX7_goOnto_12 : decode cX7_goOnto 12 = .ok (.iload_n 2, 1) := by decide +kernel
theorem dX7_goOnto_13 : decode cX7_goOnto 13 = .ok (.iadd, 1) := by decide +kernel
theorem dX7_goOnto_14 : decode cX7_goOnto 14 = .ok (.putfield 34, 3) := by decide +kernel
theorem dX7_goOnto_17 : decode cX7_goOnto 17 = .ok (.aload_n 0, 1) := by decide +kernel
theorem dX7_goOnto_18 : decode cX7_goOnto 18 = .ok (.dup, 1) := by decide +kernel
theorem dX7_goOnto_19 : decode cX7_goOnto 19 = .ok (.getfield 37, 3) := by decide +kernel
theorem dX7_goOnto_22 : decode cX7_goOnto 22 = .ok (.iconst 1, 1) := by decide +kernel
theorem dX7_goOnto_23 : decode cX7_goOnto 23 = .ok (.iadd, 1) := by decide +kernel
theorem dX7_goOnto_24 : decode cX7_goOnto 24 = .ok (.putfield 37, 3) := by decide +kernel
theorem dX7_goOnto_27 : decode cX7_goOnto 27 = .ok (.aload_n 0, 1) := by decide +kernel
theorem dX7_goOnto_28 : decode cX7_goOnto 28 = .ok (.dup, 1) := by decide +kernel
theorem dX7_goOnto_29 : decode cX7_goOnto 29 = .ok (.getfield 40, 3) := by decide +kernel
theorem dX7_goOnto_32 : decode cX7_goOnto 32 = .ok (.iload_n 2, 1) := by decide +kernel
theorem dX7_goOnto_33 : decode cX7_goOnto 33 = .ok (.iadd, 1) := by decide +kernel
theorem dX7_goOnto_34 : decode cX7_goOnto 34 = .ok (.putfield 40, 3) := by decide +kernel
theorem dX7_goOnto_37 : decode cX7_goOnto 37 = .ok (.return_, 1) := by decide +kernel
theorem dX7_arrive_0 : decode cX7_arrive 0 = .ok (.aload_n 0, 1) := by decide +kernel
theorem dX7_arrive_1 : decode cX7_arrive 1 = .ok (.iconst 2, 1) := by decide +kernel
theorem dX7_arrive_2 : decode cX7_arrive 2 = .ok (.putfield 25, 3) := by decide +kernel
theorem dX7_arrive_5 : decode cX7_arrive 5 = .ok (.aload_n 0, 1) := by decide +kernel
theorem dX7_arrive_6 : decode cX7_arrive 6 = .ok (.iconst (-1), 1) := by decide +kernel
theorem dX7_arrive_7 : decode cX7_arrive 7 = .ok (.putfield 31, 3) := by decide +kernel
theorem dX7_arrive_10 : decode cX7_arrive 10 = .ok (.aload_n 0, 1) := by decide +kernel
theorem dX7_arrive_11 : decode cX7_arrive 11 = .ok (.iconst (-1), 1) := by decide +kernel
theorem dX7_arrive_12 : decode cX7_arrive 12 = .ok (.putfield 34, 3) := by decide +kernel
theorem dX7_arrive_15 : decode cX7_arrive 15 = .ok (.aload_n 0, 1) := by decide +kernel
theorem dX7_arrive_16 : decode cX7_arrive 16 = .ok (.iload_n 1, 1) := by decide +kernel
theorem dX7_arrive_17 : decode cX7_arrive 17 = .ok (.aload_n 0, 1) := by decide +kernel
theorem dX7_arrive_18 : decode cX7_arrive 18 = .ok (.getfield 28, 3) := by decide +kernel
theorem dX7_arrive_21 : decode cX7_arrive 21 = .ok (.isub, 1) := by decide +kernel
theorem dX7_arrive_22 : decode cX7_arrive 22 = .ok (.putfield 43, 3) := by decide +kernel
theorem dX7_arrive_25 : decode cX7_arrive 25 = .ok (.aload_n 0, 1) := by decide +kernel
theorem dX7_arrive_26 : decode cX7_arrive 26 = .ok (.aload_n 0, 1) := by decide +kernel
theorem dX7_arrive_27 : decode cX7_arrive 27 = .ok (.getfield 43, 3) := by decide +kernel
theorem dX7_arrive_30 : decode cX7_arrive 30 = .ok (.aload_n 0, 1) := by decide +kernel
theorem dX7_arrive_31 : decode cX7_arrive 31 = .ok (.getfield 40, 3) := by decide +kernel
theorem dX7_arrive_34 : decode cX7_arrive 34 = .ok (.isub, 1) := by decide +kernel
theorem dX7_arrive_35 : decode cX7_arrive 35 = .ok (.putfield 46, 3) := by decide +kernel
theorem dX7_arrive_38 : decode cX7_arrive 38 = .ok (.return_, 1) := by decide +kernel
set_option maxRecDepth 100000 in
set_option maxHeartbeats 4000000 in
/-- Signal.isOn -/
theorem c_Signal_isOn (l : Launch) (dC : Nat → ClassId) (dI : Nat → Nat → Nat) (cy : Nat → ClassId) (L : Lay) (tr : Option Nat) (a : St) (κ : Kap) (τ : Tau) (n : Nat) (sz : Nat) (hT : TL L tr τ) (hi : n < 12) : Met l yX4_isOn (tp_w yX4_isOn cX4_isOn 1 (some .boolean)) ({ frames := 0, cells := 0, slots := 0, locals := 0 }) (va_Pc [.ref (L 8 n)] (mPre dC dI cy (TW cy L tr a κ τ) sz)) (va_Qi (fun (r u : Int32) => r = u) (fun (u : Int32) (t : State) => (u = S_on (a 8 n)) ∧ mw (dC, dI) vwCl (mA (TW cy L tr a κ τ) sz) (TW cy L tr a κ τ) t.heap) (mA (TW cy L tr a κ τ) sz)) (0) (0) (mA (TW cy L tr a κ τ) sz) := by
  refine Met.ofW (cc := cX4_isOn) (maxL := 1) (ret := (some .boolean)) (by decide) rfl ?_
  intro p e s m args below meth c s₁ B hml hv
  obtain ⟨rfl, hsz, hP, hK, hE⟩ := hv
  have hx := B.exec
  have hb := B.bytes
  have hr := B.returns
  have hts0 := atoms_spec (ws := tp_w yX4_isOn cX4_isOn 1 (some .boolean)) B.pre
  have hts : ∀ w ∈ tp_all, w.before _ s = true := fun w h => hts0 w (List.mem_cons_of_mem _ h)
  have hown : s.vm.findClass RX4 = some m.cls := findClass_of_methodNamed B.named
  have hlocks := B.notSynchronized
  subst hsz
  have hP := hP.self s.heap.size
  generalize hAe : mA (TW cy L tr a κ τ) s.heap.size = A at hP ⊢
  have hA : ∀ q : Nat, s.heap.size ≤ q → A q := fun q h => by rw [← hAe]; exact Or.inr h
  have hS : va_S A s.heap s.heap [] := va_S.rf
  have hl9 := lv_entry ([.ref (L 8 n)]) (n := 1) (Nat.le_of_ble_eq_true rfl)
  rw [lg_entry_eq]
  generalize (lg_sl ([.ref (L 8 n)]) ++ List.replicate (1 - (lg_sl ([.ref (L 8 n)])).length) Slot.unset).toArray = ls at hl9 ⊢
  have hl : lv_has ls 1 [(0, .ref (L 8 n))] := hl9
  refine lv_aload_n hx hb dX4_isOn_0 rfl (lv_at hl 0 rfl) ?_
  refine va_get (D := (dC, dI)) (ws := [(L 8 n, .inr (4, [.ref (L 9 n), .ref (L 10 n), .ref (L 11 n), .int ((a 8 n) 0), .int ((a 8 n) 1), .int ((a 8 n) 2)]))]) (ci := 4) (v := .int ((a 8 n) 1)) (C := RX4) (T := TX4) (N := 6) hx hb hts tl_X4 hown hK (hP.one (tw_mem (f := 8) (i := n) hi rfl)) 0 rfl rfl 4 (by decide) (hts _ tw_741) (fun _ h9 => h9) rfl dX4_isOn_1 ?_
  refine lv_if_lt (tgt := 22) hx hb dX4_isOn_4 (by decide) (fun c_1 => ?_) (fun c_1 => ?_)
  · refine lv_iconst (v := 0) hx hb dX4_isOn_22 (by decide) ?_
    refine W.widen (k := 0) (n := 0) (Nat.le_of_ble_eq_true rfl) (Nat.le_of_ble_eq_true rfl) ?_
    have g_1 : 0 = S_on (a 8 n) := by
      first | rfl | assumption | (simp only [S_on, if_pos c_1])
    exact W.zret (v := 0) hx hb hr rfl (fun t ht hW => ⟨⟨0, 0, rfl, rfl, ⟨g_1, by show mw _ _ _ _ t.heap; rw [ht]; exact hP⟩⟩, hS.F ht⟩) hS.2.2 dX4_isOn_23
  · refine lv_aload_n hx hb dX4_isOn_7 rfl (lv_at hl 0 rfl) ?_
    refine va_get (D := (dC, dI)) (ws := [(L 8 n, .inr (4, [.ref (L 9 n), .ref (L 10 n), .ref (L 11 n), .int ((a 8 n) 0), .int ((a 8 n) 1), .int ((a 8 n) 2)]))]) (ci := 4) (v := .int ((a 8 n) 1)) (C := RX4) (T := TX4) (N := 6) hx hb hts tl_X4 hown hK (hP.one (tw_mem (f := 8) (i := n) hi rfl)) 0 rfl rfl 4 (by decide) (hts _ tw_741) (fun _ h9 => h9) rfl dX4_isOn_8 ?_
    refine lv_aload_n hx hb dX4_isOn_11 rfl (lv_at hl 0 rfl) ?_
    refine va_get (D := (dC, dI)) (ws := [(L 8 n, .inr (4, [.ref (L 9 n), .ref (L 10 n), .ref (L 11 n), .int ((a 8 n) 0), .int ((a 8 n) 1), .int ((a 8 n) 2)]))]) (ci := 4) (v := .int ((a 8 n) 0)) (C := RX4) (T := TX4) (N := 6) hx hb hts tl_X4 hown hK (hP.one (tw_mem (f := 8) (i := n) hi rfl)) 0 rfl rfl 3 (by decide) (hts _ tw_738) (fun _ h9 => h9) rfl dX4_isOn_12 ?_
    refine lv_icmp_ge (tgt := 22) hx hb dX4_isOn_15 (by decide) (fun c_2 => ?_) (fun c_2 => ?_)
    · refine lv_iconst (v := 0) hx hb dX4_isOn_22 (by decide) ?_
      refine W.widen (k := 0) (n := 0) (Nat.le_of_ble_eq_true rfl) (Nat.le_of_ble_eq_true rfl) ?_
      have g_2 : 0 = S_on (a 8 n) := by
        first | rfl | assumption | (simp only [S_on, if_neg c_1, if_pos c_2])
      exact W.zret (v := 0) hx hb hr rfl (fun t ht hW => ⟨⟨0, 0, rfl, rfl, ⟨g_2, by show mw _ _ _ _ t.heap; rw [ht]; exact hP⟩⟩, hS.F ht⟩) hS.2.2 dX4_isOn_23
    · refine lv_iconst (v := 1) hx hb dX4_isOn_18 (by decide) ?_
      refine lv_goto (tgt := 23) hx hb dX4_isOn_19 (by decide) ?_
      refine W.widen (k := 0) (n := 0) (Nat.le_of_ble_eq_true rfl) (Nat.le_of_ble_eq_true rfl) ?_
      have g_3 : 1 = S_on (a 8 n) := by
        first | rfl | assumption | (simp only [S_on, if_neg c_1, if_neg c_2])
      exact W.zret (v := 1) hx hb hr rfl (fun t ht hW => ⟨⟨1, 1, rfl, rfl, ⟨g_3, by show mw _ _ _ _ t.heap; rw [ht]; exact hP⟩⟩, hS.F ht⟩) hS.2.2 dX4_isOn_23
set_option maxRecDepth 100000 in
set_option maxHeartbeats 4000000 in
/-- Signal.linksOn -/
theorem c_Signal_linksOn (l : Launch) (dC : Nat → ClassId) (dI : Nat → Nat → Nat) (cy : Nat → ClassId) (L : Lay) (tr : Option Nat) (a : St) (κ : Kap) (τ : Tau) (n : Nat) (sz : Nat) (hT : TL L tr τ) (hi : n < 12) (h4 : (a 8 n 0).toInt ≤ 4) : Met l yX4_linksOn (tp_w yX4_linksOn cX4_linksOn 1 (some .int)) ({ frames := 1, cells := 0, slots := 0, locals := 20 }) (va_Pc [.ref (L 8 n)] (mPre dC dI cy (TW cy L tr a κ τ) sz)) (va_Qi (fun (r u : Int32) => r = u) (fun (u : Int32) (t : State) => (u = S_links a n) ∧ mw (dC, dI) vwCl (mA (TW cy L tr a κ τ) sz) (TW cy L tr a κ τ) t.heap) (mA (TW cy L tr a κ τ) sz)) (0) (0) (mA (TW cy L tr a κ τ) sz) := by
  refine Met.ofW (cc := cX4_linksOn) (maxL := 1) (ret := (some .int)) (by decide) rfl ?_
  intro p e s m args below meth c s₁ B hml hv
  obtain ⟨rfl, hsz, hP, hK, hE⟩ := hv
  have hx := B.exec
  have hb := B.bytes
  have hr := B.returns
  have hts0 := atoms_spec (ws := tp_w yX4_linksOn cX4_linksOn 1 (some .int)) B.pre
  have hts : ∀ w ∈ tp_all, w.before _ s = true := fun w h => hts0 w (List.mem_cons_of_mem _ h)
  have hown : s.vm.findClass RX4 = some m.cls := findClass_of_methodNamed B.named
  have hlocks := B.notSynchronized
  subst hsz
  have hP := hP.self s.heap.size
  generalize hAe : mA (TW cy L tr a κ τ) s.heap.size = A at hP ⊢
  have hA : ∀ q : Nat, s.heap.size ≤ q → A q := fun q h => by rw [← hAe]; exact Or.inr h
  have hS : va_S A s.heap s.heap [] := va_S.rf
  have hl9 := lv_entry ([.ref (L 8 n)]) (n := 1) (Nat.le_of_ble_eq_true rfl)
  rw [lg_entry_eq]
  generalize (lg_sl ([.ref (L 8 n)]) ++ List.replicate (1 - (lg_sl ([.ref (L 8 n)])).length) Slot.unset).toArray = ls at hl9 ⊢
  have hl : lv_has ls 1 [(0, .ref (L 8 n))] := hl9
  refine lv_aload_n hx hb dX4_linksOn_0 rfl (lv_at hl 0 rfl) ?_
  have hFc := m_free (C := (TW cy L tr a κ τ)) hP hS hA (fun _ _ h => h)
  refine va_calli (va_runV (As := []) (rest := []) ⟨hx, hb, hml, hown, hts⟩ (c_Signal_isOn l dC dI cy L tr a κ τ n s.heap.size hT (by first | assumption | omega)) (tp_cwV 0 hts tw_240 tw_242 tw_5 tw_27 tw_244 rfl rfl (by decide +kernel) ⟨Nat.le_of_ble_eq_true rfl, Nat.le_of_ble_eq_true rfl⟩) ⟨m_blind, va_recv hK (hP.one (e := .inr (4, [.ref (L 9 n), .ref (L 10 n), .ref (L 11 n), .int ((a 8 n) 0), .int ((a 8 n) 1), .int ((a 8 n) 2)])) (tw_mem (f := 8) (i := n) hi rfl)) (ci := 4) (q0 := 0) rfl rfl, fun U hU hW => ⟨rfl, m_pay hK hP hE (fun _ _ h => h) U hU hW⟩⟩ rfl rfl hl.1 rfl (lv_room (Nat.le_of_ble_eq_true rfl)) dX4_linksOn_1 ⟨(Nat.le_of_ble_eq_true rfl), (Nat.le_of_ble_eq_true rfl)⟩) hS (fun q _ h => hFc q h) hFc (fun r_1 u t H1 locs ht hvm hw hB hz1 hk1 hS => ?_)
  obtain rfl := hw
  obtain ⟨f_1, hP1⟩ := hB
  subst f_1
  rw [ht] at hP1
  have hP : mw (dC, dI) vwCl A (TW cy L tr a κ τ) H1 := hP.join (fun _ _ h => h) hk1 hFc hP1 (fun _ _ h => Or.inl h)
  generalize H1 = H at hP hS ⊢
  clear hP1 hk1 hFc
  refine lv_if_eq (tgt := 19) hx hb dX4_linksOn_4 (by decide) (fun c_1 => ?_) (fun c_1 => ?_)
  · refine lv_iconst (v := 0) hx hb dX4_linksOn_19 (by decide) ?_
    refine W.widen (k := 0) (n := 0) (Nat.le_of_ble_eq_true rfl) (Nat.le_of_ble_eq_true rfl) ?_
    have g_1 : 0 = S_links a n := by
      first | rfl | assumption | (simp only [S_links, if_pos c_1])
    exact W.iret (v := 0) hx hb hr (fun t ht hW => ⟨⟨0, 0, rfl, rfl, ⟨g_1, by show mw _ _ _ _ t.heap; rw [ht]; exact hP⟩⟩, hS.F ht⟩) hS.2.2 dX4_linksOn_20
  · refine lv_aload_n hx hb dX4_linksOn_7 rfl (lv_at hl 0 rfl) ?_
    refine va_get (D := (dC, dI)) (ws := [(L 8 n, .inr (4, [.ref (L 9 n), .ref (L 10 n), .ref (L 11 n), .int ((a 8 n) 0), .int ((a 8 n) 1), .int ((a 8 n) 2)]))]) (ci := 4) (v := .ref (L 9 n)) (C := RX4) (T := TX4) (N := 6) hx hb hts tl_X4 hown hK (hP.one (tw_mem (f := 8) (i := n) hi rfl)) 0 rfl rfl 0 (by decide) (hts _ tw_735) (fun _ h9 => h9) rfl dX4_linksOn_8 ?_
    refine lv_aload_n hx hb dX4_linksOn_11 rfl (lv_at hl 0 rfl) ?_
    refine va_get (D := (dC, dI)) (ws := [(L 8 n, .inr (4, [.ref (L 9 n), .ref (L 10 n), .ref (L 11 n), .int ((a 8 n) 0), .int ((a 8 n) 1), .int ((a 8 n) 2)]))]) (ci := 4) (v := .int ((a 8 n) 1)) (C := RX4) (T := TX4) (N := 6) hx hb hts tl_X4 hown hK (hP.one (tw_mem (f := 8) (i := n) hi rfl)) 0 rfl rfl 4 (by decide) (hts _ tw_741) (fun _ h9 => h9) rfl dX4_linksOn_12 ?_
    have j_1 : ((a 8 n) 1 : Int32).toNatClampNeg = ((a 8 n) 1).toNatClampNeg := m_cl (m_nI (S_on_in c_1).1) (m_lt (S_on_in c_1).1 (S_on_in c_1).2 h4) (by decide)
    refine va_iald hx hb hK (ws := [(L 9 n, .inl (cy 0, 4, .inl (a 9 n)))]) (hP.one (tw_mem (f := 9) (i := n) hi rfl)) 0 0 rfl rfl (m_in (m_nI (S_on_in c_1).1) (m_lt (S_on_in c_1).1 (S_on_in c_1).2 h4) (by decide)) dX4_linksOn_15 ?_
    refine W.eq (g2 := F0 m 16 ls [.int ((a 9 n) (((a 8 n) 1).toNatClampNeg))]) (by first | (rw [j_1]; done) | (rw [j_1]; rfl)) ?_
    refine lv_goto (tgt := 20) hx hb dX4_linksOn_16 (by decide) ?_
    refine W.widen (k := 0) (n := 0) (Nat.le_of_ble_eq_true rfl) (Nat.le_of_ble_eq_true rfl) ?_
    have g_2 : ((a 9 n) (((a 8 n) 1).toNatClampNeg)) = S_links a n := by
      first | rfl | assumption | (simp only [S_links, if_neg c_1])
    exact W.iret (v := (a 9 n) (((a 8 n) 1).toNatClampNeg)) hx hb hr (fun t ht hW => ⟨⟨((a 9 n) (((a 8 n) 1).toNatClampNeg)), ((a 9 n) (((a 8 n) 1).toNatClampNeg)), rfl, rfl, ⟨g_2, by show mw _ _ _ _ t.heap; rw [ht]; exact hP⟩⟩, hS.F ht⟩) hS.2.2 dX4_linksOn_20
set_option maxRecDepth 100000 in
set_option maxHeartbeats 4000000 in
/-- Signal.isGreen -/
theorem c_Signal_isGreen (l : Launch) (dC : Nat → ClassId) (dI : Nat → Nat → Nat) (cy : Nat → ClassId) (L : Lay) (tr : Option Nat) (a : St) (κ : Kap) (τ : Tau) (n : Nat) (k : Int32) (sz : Nat) (hT : TL L tr τ) (hi : n < 12) (h4 : (a 8 n 0).toInt ≤ 4) : Met l yX4_isGreen (tp_w yX4_isGreen cX4_isGreen 2 (some .boolean)) ({ frames := 2, cells := 0, slots := 0, locals := 40 }) (va_Pc [.ref (L 8 n), .int k] (mPre dC dI cy (TW cy L tr a κ τ) sz)) (va_Qi (fun (r u : Int32) => r = u) (fun (u : Int32) (t : State) => (u = S_green a n k) ∧ mw (dC, dI) vwCl (mA (TW cy L tr a κ τ) sz) (TW cy L tr a κ τ) t.heap) (mA (TW cy L tr a κ τ) sz)) (0) (0) (mA (TW cy L tr a κ τ) sz) := by
  refine Met.ofW (cc := cX4_isGreen) (maxL := 2) (ret := (some .boolean)) (by decide) rfl ?_
  intro p e s m args below meth c s₁ B hml hv
  obtain ⟨rfl, hsz, hP, hK, hE⟩ := hv
  have hx := B.exec
  have hb := B.bytes
  have hr := B.returns
  have hts0 := atoms_spec (ws := tp_w yX4_isGreen cX4_isGreen 2 (some .boolean)) B.pre
  have hts : ∀ w ∈ tp_all, w.before _ s = true := fun w h => hts0 w (List.mem_cons_of_mem _ h)
  have hown : s.vm.findClass RX4 = some m.cls := findClass_of_methodNamed B.named
  have hlocks := B.notSynchronized
  subst hsz
  have hP := hP.self s.heap.size
  generalize hAe : mA (TW cy L tr a κ τ) s.heap.size = A at hP ⊢
  have hA : ∀ q : Nat, s.heap.size ≤ q → A q := fun q h => by rw [← hAe]; exact Or.inr h
  have hS : va_S A s.heap s.heap [] := va_S.rf
  have hl9 := lv_entry ([.ref (L 8 n), .int k]) (n := 2) (Nat.le_of_ble_eq_true rfl)
  rw [lg_entry_eq]
  generalize (lg_sl ([.ref (L 8 n), .int k]) ++ List.replicate (2 - (lg_sl ([.ref (L 8 n), .int k])).length) Slot.unset).toArray = ls at hl9 ⊢
  have hl : lv_has ls 2 [(0, .ref (L 8 n)), (1, .int k)] := hl9
  refine lv_aload_n hx hb dX4_isGreen_0 rfl (lv_at hl 0 rfl) ?_
  refine va_get (D := (dC, dI)) (ws := [(L 8 n, .inr (4, [.ref (L 9 n), .ref (L 10 n), .ref (L 11 n), .int ((a 8 n) 0), .int ((a 8 n) 1), .int ((a 8 n) 2)]))]) (ci := 4) (v := .int ((a 8 n) 0)) (C := RX4) (T := TX4) (N := 6) hx hb hts tl_X4 hown hK (hP.one (tw_mem (f := 8) (i := n) hi rfl)) 0 rfl rfl 3 (by decide) (hts _ tw_738) (fun _ h9 => h9) rfl dX4_isGreen_1 ?_
  refine lv_if_eq (tgt := 19) hx hb dX4_isGreen_4 (by decide) (fun c_1 => ?_) (fun c_1 => ?_)
  · refine lv_iconst (v := 1) hx hb dX4_isGreen_19 (by decide) ?_
    refine lv_goto (tgt := 24) hx hb dX4_isGreen_20 (by decide) ?_
    refine W.widen (k := 0) (n := 0) (Nat.le_of_ble_eq_true rfl) (Nat.le_of_ble_eq_true rfl) ?_
    have g_1 : 1 = S_green a n k := by
      first | rfl | assumption | (simp only [S_green, if_pos c_1])
    exact W.zret (v := 1) hx hb hr rfl (fun t ht hW => ⟨⟨1, 1, rfl, rfl, ⟨g_1, by show mw _ _ _ _ t.heap; rw [ht]; exact hP⟩⟩, hS.F ht⟩) hS.2.2 dX4_isGreen_24
  · refine lv_aload_n hx hb dX4_isGreen_7 rfl (lv_at hl 0 rfl) ?_
    have hFc := m_free (C := (TW cy L tr a κ τ)) hP hS hA (fun _ _ h => h)
    refine va_calli (va_runV (As := []) (rest := []) ⟨hx, hb, hml, hown, hts⟩ (c_Signal_linksOn l dC dI cy L tr a κ τ n s.heap.size hT hi h4) (tp_cwV 0 hts tw_268 tw_237 tw_238 tw_27 tw_239 rfl rfl (by decide +kernel) ⟨Nat.le_of_ble_eq_true rfl, Nat.le_of_ble_eq_true rfl⟩) ⟨m_blind, va_recv hK (hP.one (e := .inr (4, [.ref (L 9 n), .ref (L 10 n), .ref (L 11 n), .int ((a 8 n) 0), .int ((a 8 n) 1), .int ((a 8 n) 2)])) (tw_mem (f := 8) (i := n) hi rfl)) (ci := 4) (q0 := 0) rfl rfl, fun U hU hW => ⟨rfl, m_pay hK hP hE (fun _ _ h => h) U hU hW⟩⟩ rfl rfl hl.1 rfl (lv_room (Nat.le_of_ble_eq_true rfl)) dX4_isGreen_8 ⟨(Nat.le_of_ble_eq_true rfl), (Nat.le_of_ble_eq_true rfl)⟩) hS (fun q _ h => hFc q h) hFc (fun r_1 u t H1 locs ht hvm hw hB hz1 hk1 hS => ?_)
    obtain rfl := hw
    obtain ⟨f_1, hP1⟩ := hB
    subst f_1
    rw [ht] at hP1
    have hP : mw (dC, dI) vwCl A (TW cy L tr a κ τ) H1 := hP.join (fun _ _ h => h) hk1 hFc hP1 (fun _ _ h => Or.inl h)
    generalize H1 = H at hP hS ⊢
    clear hP1 hk1 hFc
    refine lv_iload_n hx hb dX4_isGreen_11 rfl (lv_at hl 1 rfl) ?_
    refine lv_ishr hx hb dX4_isGreen_12 ?_
    refine lv_iconst (v := 1) hx hb dX4_isGreen_13 (by decide) ?_
    refine lv_iand hx hb dX4_isGreen_14 ?_
    refine lv_iconst (v := 1) hx hb dX4_isGreen_15 (by decide) ?_
    refine lv_icmp_ne (tgt := 23) hx hb dX4_isGreen_16 (by decide) (fun c_2 => ?_) (fun c_2 => ?_)
    · refine lv_iconst (v := 0) hx hb dX4_isGreen_23 (by decide) ?_
      refine W.widen (k := 0) (n := 0) (Nat.le_of_ble_eq_true rfl) (Nat.le_of_ble_eq_true rfl) ?_
      have g_2 : 0 = S_green a n k := by
        first | rfl | assumption | (simp only [S_green, if_neg c_1, if_neg c_2])
      exact W.zret (v := 0) hx hb hr rfl (fun t ht hW => ⟨⟨0, 0, rfl, rfl, ⟨g_2, by show mw _ _ _ _ t.heap; rw [ht]; exact hP⟩⟩, hS.F ht⟩) hS.2.2 dX4_isGreen_24
    · refine lv_iconst (v := 1) hx hb dX4_isGreen_19 (by decide) ?_
      refine lv_goto (tgt := 24) hx hb dX4_isGreen_20 (by decide) ?_
      refine W.widen (k := 0) (n := 0) (Nat.le_of_ble_eq_true rfl) (Nat.le_of_ble_eq_true rfl) ?_
      have g_3 : 1 = S_green a n k := by
        first | rfl | assumption | (simp only [S_green, if_neg c_1, if_pos c_2])
      exact W.zret (v := 1) hx hb hr rfl (fun t ht hW => ⟨⟨1, 1, rfl, rfl, ⟨g_3, by show mw _ _ _ _ t.heap; rw [ht]; exact hP⟩⟩, hS.F ht⟩) hS.2.2 dX4_isGreen_24
set_option maxRecDepth 100000 in
set_option maxHeartbeats 4000000 in
/-- Signal.playTick -/
theorem c_Signal_playTick (l : Launch) (dC : Nat → ClassId) (dI : Nat → Nat → Nat) (cy : Nat → ClassId) (L : Lay) (tr : Option Nat) (a : St) (κ : Kap) (τ : Tau) (n : Nat) (h : Int32) (sz : Nat) (hT : TL L tr τ) (hi : n < 12) (h4 : (a 8 n 0).toInt ≤ 4) : Met l yX4_playTick (tp_w yX4_playTick cX4_playTick 2 none) ({ frames := 1, cells := 0, slots := 0, locals := 20 }) (va_Pc [.ref (L 8 n), .int h] (mPre dC dI cy (TW cy L tr a κ τ) sz)) (va_Qv (fun _ : Unit => True) (fun (_ : Unit) (t : State) => mw (dC, dI) vwCl (mA (TW cy L tr a κ τ) sz) (TW cy L tr (S_play a n h) κ τ) t.heap) (mA (TW cy L tr a κ τ) sz)) (0) (0) (mA (TW cy L tr a κ τ) sz) := by
  refine Met.ofW (cc := cX4_playTick) (maxL := 2) (ret := none) (by decide) rfl ?_
  intro p e s m args below meth c s₁ B hml hv
  obtain ⟨rfl, hsz, hP, hK, hE⟩ := hv
  have hx := B.exec
  have hb := B.bytes
  have hr := B.returns
  have hts0 := atoms_spec (ws := tp_w yX4_playTick cX4_playTick 2 none) B.pre
  have hts : ∀ w ∈ tp_all, w.before _ s = true := fun w h => hts0 w (List.mem_cons_of_mem _ h)
  have hown : s.vm.findClass RX4 = some m.cls := findClass_of_methodNamed B.named
  have hlocks := B.notSynchronized
  subst hsz
  have hP := hP.self s.heap.size
  generalize hAe : mA (TW cy L tr a κ τ) s.heap.size = A at hP ⊢
  have hA : ∀ q : Nat, s.heap.size ≤ q → A q := fun q h => by rw [← hAe]; exact Or.inr h
  have hS : va_S A s.heap s.heap [] := va_S.rf
  have hl9 := lv_entry ([.ref (L 8 n), .int h]) (n := 2) (Nat.le_of_ble_eq_true rfl)
  rw [lg_entry_eq]
  generalize (lg_sl ([.ref (L 8 n), .int h]) ++ List.replicate (2 - (lg_sl ([.ref (L 8 n), .int h])).length) Slot.unset).toArray = ls at hl9 ⊢
  have hl : lv_has ls 2 [(0, .ref (L 8 n)), (1, .int h)] := hl9
  refine lv_aload_n hx hb dX4_playTick_0 rfl (lv_at hl 0 rfl) ?_
  refine lv_dup hx hb dX4_playTick_1 rfl ?_
  refine va_get (D := (dC, dI)) (ws := [(L 8 n, .inr (4, [.ref (L 9 n), .ref (L 10 n), .ref (L 11 n), .int ((a 8 n) 0), .int ((a 8 n) 1), .int ((a 8 n) 2)]))]) (ci := 4) (v := .int ((a 8 n) 2)) (C := RX4) (T := TX4) (N := 6) hx hb hts tl_X4 hown hK (hP.one (tw_mem (f := 8) (i := n) hi rfl)) 0 rfl rfl 5 (by decide) (hts _ tw_743) (fun _ h9 => h9) rfl dX4_playTick_2 ?_
  refine lv_iconst (v := 1) hx hb dX4_playTick_5 (by decide) ?_
  refine lv_iadd hx hb dX4_playTick_6 ?_
  obtain ⟨ws9, k9, hPw, hDw, hk9, -, hbk⟩ := hP.cut (e := .inr (4, [.ref (L 9 n), .ref (L 10 n), .ref (L 11 n), .int ((a 8 n) 0), .int ((a 8 n) 1), .int ((a 8 n) 2)])) (tw_mem (f := 8) (i := n) hi rfl)
  refine va_put (D := (dC, dI)) (ci := 4) (v := .int (((a 8 n) 2) + 1)) (ty := .int) (C := RX4) (T := TX4) (N := 6) hx hb hts tl_X4 tyX4 tyX4_ok nmX4 hown hK hPw hDw hS k9 hk9 rfl 5 (by decide) (hts _ tw_743) (fun _ h9 => h9) rfl (by decide +kernel) rfl rfl (Nat.le_of_ble_eq_true rfl) dX4_playTick_7 (fun H locs hPw hDw hS => ?_)
  have hP : mw (dC, dI) vwCl A (TW cy L tr (S2 a 8 n (upd (a 8 n) 2 (((a 8 n) 2) + 1))) κ τ) H := (hbk _ _ hPw hDw).sub (tw_set (b := S2 a 8 n (upd (a 8 n) 2 (((a 8 n) 2) + 1))) (f := 8) (i := n) (x := upd (a 8 n) 2 (((a 8 n) 2) + 1)) hT hi (by decide) rfl)
  clear hbk hPw hDw hk9
  refine lv_aload_n hx hb dX4_playTick_10 rfl (lv_at hl 0 rfl) ?_
  obtain ⟨b1, eb1⟩ : ∃ z : St, z = S2 a 8 n (upd (a 8 n) 2 (((a 8 n) 2) + 1)) := ⟨_, rfl⟩
  rw [← eb1] at hP
  have hFc := m_free (C := (TW cy L tr b1 κ τ)) hP hS hA (fun _ _ h => h)
  refine va_calli (va_runV (As := []) (rest := []) ⟨hx, hb, hml, hown, hts⟩ (c_Signal_isOn l dC dI cy L tr b1 κ τ n H.size hT (by first | assumption | omega)) (tp_cwV 0 hts tw_240 tw_242 tw_5 tw_27 tw_244 rfl rfl (by decide +kernel) ⟨Nat.le_of_ble_eq_true rfl, Nat.le_of_ble_eq_true rfl⟩) ⟨m_blind, va_recv hK (hP.one (e := .inr (4, [.ref (L 9 n), .ref (L 10 n), .ref (L 11 n), .int ((b1 8 n) 0), .int ((b1 8 n) 1), .int ((b1 8 n) 2)])) (tw_mem (f := 8) (i := n) hi rfl)) (ci := 4) (q0 := 0) rfl rfl, fun U hU hW => ⟨rfl, m_pay hK hP hE (fun _ _ h => h) U hU hW⟩⟩ rfl rfl hl.1 rfl (lv_room (Nat.le_of_ble_eq_true rfl)) dX4_playTick_11 ⟨(Nat.le_of_ble_eq_true rfl), (Nat.le_of_ble_eq_true rfl)⟩) hS (fun q _ h => hFc q h) hFc (fun r_1 u t H1 locs ht hvm hw hB hz1 hk1 hS => ?_)
  obtain rfl := hw
  obtain ⟨f_1, hP1⟩ := hB
  subst f_1
  rw [ht] at hP1
  have hP : mw (dC, dI) vwCl A (TW cy L tr b1 κ τ) H1 := hP.join (fun _ _ h => h) hk1 hFc hP1 (fun _ _ h => Or.inl h)
  generalize H1 = H at hP hS ⊢
  clear hP1 hk1 hFc
  have h4b : (b1 8 n 0).toInt ≤ 4 := by rw [eb1, S2_eq]; exact h4
  refine lv_if_eq (tgt := 53) hx hb dX4_playTick_14 (by decide) (fun c_1 => ?_) (fun c_1 => ?_)
  · refine lv_aload_n hx hb dX4_playTick_53 rfl (lv_at hl 0 rfl) ?_
    refine lv_aload_n hx hb dX4_playTick_54 rfl (lv_at hl 0 rfl) ?_
    refine va_get (D := (dC, dI)) (ws := [(L 8 n, .inr (4, [.ref (L 9 n), .ref (L 10 n), .ref (L 11 n), .int ((b1 8 n) 0), .int ((b1 8 n) 1), .int ((b1 8 n) 2)]))]) (ci := 4) (v := .int ((b1 8 n) 1)) (C := RX4) (T := TX4) (N := 6) hx hb hts tl_X4 hown hK (hP.one (tw_mem (f := 8) (i := n) hi rfl)) 0 rfl rfl 4 (by decide) (hts _ tw_741) (fun _ h9 => h9) rfl dX4_playTick_55 ?_
    refine lv_iconst (v := 1) hx hb dX4_playTick_58 (by decide) ?_
    refine lv_iadd hx hb dX4_playTick_59 ?_
    refine lv_aload_n hx hb dX4_playTick_60 rfl (lv_at hl 0 rfl) ?_
    refine va_get (D := (dC, dI)) (ws := [(L 8 n, .inr (4, [.ref (L 9 n), .ref (L 10 n), .ref (L 11 n), .int ((b1 8 n) 0), .int ((b1 8 n) 1), .int ((b1 8 n) 2)]))]) (ci := 4) (v := .int ((b1 8 n) 0)) (C := RX4) (T := TX4) (N := 6) hx hb hts tl_X4 hown hK (hP.one (tw_mem (f := 8) (i := n) hi rfl)) 0 rfl rfl 3 (by decide) (hts _ tw_738) (fun _ h9 => h9) rfl dX4_playTick_61 ?_
    refine lv_icmp_ge (tgt := 76) hx hb dX4_playTick_64 (by decide) (fun c_2 => ?_) (fun c_2 => ?_)
    · refine lv_iconst (v := 0) hx hb dX4_playTick_76 (by decide) ?_
      obtain ⟨ws9, k9, hPw, hDw, hk9, -, hbk⟩ := hP.cut (e := .inr (4, [.ref (L 9 n), .ref (L 10 n), .ref (L 11 n), .int ((b1 8 n) 0), .int ((b1 8 n) 1), .int ((b1 8 n) 2)])) (tw_mem (f := 8) (i := n) hi rfl)
      refine va_put (D := (dC, dI)) (ci := 4) (v := .int 0) (ty := .int) (C := RX4) (T := TX4) (N := 6) hx hb hts tl_X4 tyX4 tyX4_ok nmX4 hown hK hPw hDw hS k9 hk9 rfl 4 (by decide) (hts _ tw_741) (fun _ h9 => h9) rfl (by decide +kernel) rfl rfl (Nat.le_of_ble_eq_true rfl) dX4_playTick_77 (fun H locs hPw hDw hS => ?_)
      have hP : mw (dC, dI) vwCl A (TW cy L tr (S2 b1 8 n (upd (b1 8 n) 1 0)) κ τ) H := (hbk _ _ hPw hDw).sub (tw_set (b := S2 b1 8 n (upd (b1 8 n) 1 0)) (f := 8) (i := n) (x := upd (b1 8 n) 1 0) hT hi (by decide) rfl)
      clear hbk hPw hDw hk9
      refine lv_aload_n hx hb dX4_playTick_80 rfl (lv_at hl 0 rfl) ?_
      refine lv_iconst (v := 1) hx hb dX4_playTick_81 (by decide) ?_
      obtain ⟨ws9, k9, hPw, hDw, hk9, -, hbk⟩ := hP.cut (e := .inr (4, [.ref (L 9 n), .ref (L 10 n), .ref (L 11 n), .int ((b1 8 n) 0), .int 0, .int ((b1 8 n) 2)])) (tw_mem (f := 8) (i := n) hi S2_eq)
      refine va_put (D := (dC, dI)) (ci := 4) (v := .int 1) (ty := .int) (C := RX4) (T := TX4) (N := 6) hx hb hts tl_X4 tyX4 tyX4_ok nmX4 hown hK hPw hDw hS k9 hk9 rfl 5 (by decide) (hts _ tw_743) (fun _ h9 => h9) rfl (by decide +kernel) rfl rfl (Nat.le_of_ble_eq_true rfl) dX4_playTick_82 (fun H locs hPw hDw hS => ?_)
      have hP : mw (dC, dI) vwCl A (TW cy L tr (S2 b1 8 n (upd (upd (b1 8 n) 1 0) 2 1)) κ τ) H := (hbk _ _ hPw hDw).sub (tw_set (b := S2 b1 8 n (upd (upd (b1 8 n) 1 0) 2 1)) (f := 8) (i := n) (x := upd (upd (b1 8 n) 1 0) 2 1) hT hi (by decide) S2_S2.symm)
      clear hbk hPw hDw hk9
      refine W.widen (k := 0) (n := 0) (Nat.le_of_ble_eq_true rfl) (Nat.le_of_ble_eq_true rfl) ?_
      have s_1 : S2 b1 8 n (upd (upd (b1 8 n) 1 0) 2 1) = S_play a n h := by
        simp only [S_play, S_tick, ← eb1]
        simp only [S_play1, S_next, X_next, if_pos c_1, if_pos c_2]
      rw [s_1] at hP
      exact W.vret hx hb hr (fun t ht hW => ⟨⟨(), rfl, trivial, (by show mw _ _ _ _ t.heap; rw [ht]; exact hP)⟩, hS.F ht⟩) hS.2.2 dX4_playTick_85
    · refine lv_aload_n hx hb dX4_playTick_67 rfl (lv_at hl 0 rfl) ?_
      refine va_get (D := (dC, dI)) (ws := [(L 8 n, .inr (4, [.ref (L 9 n), .ref (L 10 n), .ref (L 11 n), .int ((b1 8 n) 0), .int ((b1 8 n) 1), .int ((b1 8 n) 2)]))]) (ci := 4) (v := .int ((b1 8 n) 1)) (C := RX4) (T := TX4) (N := 6) hx hb hts tl_X4 hown hK (hP.one (tw_mem (f := 8) (i := n) hi rfl)) 0 rfl rfl 4 (by decide) (hts _ tw_741) (fun _ h9 => h9) rfl dX4_playTick_68 ?_
      refine lv_iconst (v := 1) hx hb dX4_playTick_71 (by decide) ?_
      refine lv_iadd hx hb dX4_playTick_72 ?_
      refine lv_goto (tgt := 77) hx hb dX4_playTick_73 (by decide) ?_
      obtain ⟨ws9, k9, hPw, hDw, hk9, -, hbk⟩ := hP.cut (e := .inr (4, [.ref (L 9 n), .ref (L 10 n), .ref (L 11 n), .int ((b1 8 n) 0), .int ((b1 8 n) 1), .int ((b1 8 n) 2)])) (tw_mem (f := 8) (i := n) hi rfl)
      refine va_put (D := (dC, dI)) (ci := 4) (v := .int (((b1 8 n) 1) + 1)) (ty := .int) (C := RX4) (T := TX4) (N := 6) hx hb hts tl_X4 tyX4 tyX4_ok nmX4 hown hK hPw hDw hS k9 hk9 rfl 4 (by decide) (hts _ tw_741) (fun _ h9 => h9) rfl (by decide +kernel) rfl rfl (Nat.le_of_ble_eq_true rfl) dX4_playTick_77 (fun H locs hPw hDw hS => ?_)
      have hP : mw (dC, dI) vwCl A (TW cy L tr (S2 b1 8 n (upd (b1 8 n) 1 (((b1 8 n) 1) + 1))) κ τ) H := (hbk _ _ hPw hDw).sub (tw_set (b := S2 b1 8 n (upd (b1 8 n) 1 (((b1 8 n) 1) + 1))) (f := 8) (i := n) (x := upd (b1 8 n) 1 (((b1 8 n) 1) + 1)) hT hi (by decide) rfl)
      clear hbk hPw hDw hk9
      refine lv_aload_n hx hb dX4_playTick_80 rfl (lv_at hl 0 rfl) ?_
      refine lv_iconst (v := 1) hx hb dX4_playTick_81 (by decide) ?_
      obtain ⟨ws9, k9, hPw, hDw, hk9, -, hbk⟩ := hP.cut (e := .inr (4, [.ref (L 9 n), .ref (L 10 n), .ref (L 11 n), .int ((b1 8 n) 0), .int (((b1 8 n) 1) + 1), .int ((b1 8 n) 2)])) (tw_mem (f := 8) (i := n) hi S2_eq)
      refine va_put (D := (dC, dI)) (ci := 4) (v := .int 1) (ty := .int) (C := RX4) (T := TX4) (N := 6) hx hb hts tl_X4 tyX4 tyX4_ok nmX4 hown hK hPw hDw hS k9 hk9 rfl 5 (by decide) (hts _ tw_743) (fun _ h9 => h9) rfl (by decide +kernel) rfl rfl (Nat.le_of_ble_eq_true rfl) dX4_playTick_82 (fun H locs hPw hDw hS => ?_)
      have hP : mw (dC, dI) vwCl A (TW cy L tr (S2 b1 8 n (upd (upd (b1 8 n) 1 (((b1 8 n) 1) + 1)) 2 1)) κ τ) H := (hbk _ _ hPw hDw).sub (tw_set (b := S2 b1 8 n (upd (upd (b1 8 n) 1 (((b1 8 n) 1) + 1)) 2 1)) (f := 8) (i := n) (x := upd (upd (b1 8 n) 1 (((b1 8 n) 1) + 1)) 2 1) hT hi (by decide) S2_S2.symm)
      clear hbk hPw hDw hk9
      refine W.widen (k := 0) (n := 0) (Nat.le_of_ble_eq_true rfl) (Nat.le_of_ble_eq_true rfl) ?_
      have s_2 : S2 b1 8 n (upd (upd (b1 8 n) 1 (((b1 8 n) 1) + 1)) 2 1) = S_play a n h := by
        simp only [S_play, S_tick, ← eb1]
        simp only [S_play1, S_next, X_next, if_pos c_1, if_neg c_2]
      rw [s_2] at hP
      exact W.vret hx hb hr (fun t ht hW => ⟨⟨(), rfl, trivial, (by show mw _ _ _ _ t.heap; rw [ht]; exact hP)⟩, hS.F ht⟩) hS.2.2 dX4_playTick_85
  · refine lv_aload_n hx hb dX4_playTick_17 rfl (lv_at hl 0 rfl) ?_
    refine va_get (D := (dC, dI)) (ws := [(L 8 n, .inr (4, [.ref (L 9 n), .ref (L 10 n), .ref (L 11 n), .int ((b1 8 n) 0), .int ((b1 8 n) 1), .int ((b1 8 n) 2)]))]) (ci := 4) (v := .int ((b1 8 n) 2)) (C := RX4) (T := TX4) (N := 6) hx hb hts tl_X4 hown hK (hP.one (tw_mem (f := 8) (i := n) hi rfl)) 0 rfl rfl 5 (by decide) (hts _ tw_743) (fun _ h9 => h9) rfl dX4_playTick_18 ?_
    refine lv_aload_n hx hb dX4_playTick_21 rfl (lv_at hl 0 rfl) ?_
    refine va_get (D := (dC, dI)) (ws := [(L 8 n, .inr (4, [.ref (L 9 n), .ref (L 10 n), .ref (L 11 n), .int ((b1 8 n) 0), .int ((b1 8 n) 1), .int ((b1 8 n) 2)]))]) (ci := 4) (v := .ref (L 11 n)) (C := RX4) (T := TX4) (N := 6) hx hb hts tl_X4 hown hK (hP.one (tw_mem (f := 8) (i := n) hi rfl)) 0 rfl rfl 2 (by decide) (hts _ tw_737) (fun _ h9 => h9) rfl dX4_playTick_22 ?_
    refine lv_aload_n hx hb dX4_playTick_25 rfl (lv_at hl 0 rfl) ?_
    refine va_get (D := (dC, dI)) (ws := [(L 8 n, .inr (4, [.ref (L 9 n), .ref (L 10 n), .ref (L 11 n), .int ((b1 8 n) 0), .int ((b1 8 n) 1), .int ((b1 8 n) 2)]))]) (ci := 4) (v := .int ((b1 8 n) 1)) (C := RX4) (T := TX4) (N := 6) hx hb hts tl_X4 hown hK (hP.one (tw_mem (f := 8) (i := n) hi rfl)) 0 rfl rfl 4 (by decide) (hts _ tw_741) (fun _ h9 => h9) rfl dX4_playTick_26 ?_
    have j_1 : ((b1 8 n) 1 : Int32).toNatClampNeg = ((b1 8 n) 1).toNatClampNeg := m_cl (m_nI (S_on_in c_1).1) (m_lt (S_on_in c_1).1 (S_on_in c_1).2 h4b) (by decide)
    refine va_iald hx hb hK (ws := [(L 11 n, .inl (cy 0, 4, .inl (b1 11 n)))]) (hP.one (tw_mem (f := 11) (i := n) hi rfl)) 0 0 rfl rfl (m_in (m_nI (S_on_in c_1).1) (m_lt (S_on_in c_1).1 (S_on_in c_1).2 h4b) (by decide)) dX4_playTick_29 ?_
    refine W.eq (g2 := F0 m 30 ls [.int ((b1 11 n) (((b1 8 n) 1).toNatClampNeg)), .int ((b1 8 n) 2)]) (by first | (rw [j_1]; done) | (rw [j_1]; rfl)) ?_
    refine lv_icmp_gt (tgt := 53) hx hb dX4_playTick_30 (by decide) (fun c_3 => ?_) (fun c_3 => ?_)
    · refine lv_aload_n hx hb dX4_playTick_53 rfl (lv_at hl 0 rfl) ?_
      refine lv_aload_n hx hb dX4_playTick_54 rfl (lv_at hl 0 rfl) ?_
      refine va_get (D := (dC, dI)) (ws := [(L 8 n, .inr (4, [.ref (L 9 n), .ref (L 10 n), .ref (L 11 n), .int ((b1 8 n) 0), .int ((b1 8 n) 1), .int ((b1 8 n) 2)]))]) (ci := 4) (v := .int ((b1 8 n) 1)) (C := RX4) (T := TX4) (N := 6) hx hb hts tl_X4 hown hK (hP.one (tw_mem (f := 8) (i := n) hi rfl)) 0 rfl rfl 4 (by decide) (hts _ tw_741) (fun _ h9 => h9) rfl dX4_playTick_55 ?_
      refine lv_iconst (v := 1) hx hb dX4_playTick_58 (by decide) ?_
      refine lv_iadd hx hb dX4_playTick_59 ?_
      refine lv_aload_n hx hb dX4_playTick_60 rfl (lv_at hl 0 rfl) ?_
      refine va_get (D := (dC, dI)) (ws := [(L 8 n, .inr (4, [.ref (L 9 n), .ref (L 10 n), .ref (L 11 n), .int ((b1 8 n) 0), .int ((b1 8 n) 1), .int ((b1 8 n) 2)]))]) (ci := 4) (v := .int ((b1 8 n) 0)) (C := RX4) (T := TX4) (N := 6) hx hb hts tl_X4 hown hK (hP.one (tw_mem (f := 8) (i := n) hi rfl)) 0 rfl rfl 3 (by decide) (hts _ tw_738) (fun _ h9 => h9) rfl dX4_playTick_61 ?_
      refine lv_icmp_ge (tgt := 76) hx hb dX4_playTick_64 (by decide) (fun c_4 => ?_) (fun c_4 => ?_)
      · refine lv_iconst (v := 0) hx hb dX4_playTick_76 (by decide) ?_
        obtain ⟨ws9, k9, hPw, hDw, hk9, -, hbk⟩ := hP.cut (e := .inr (4, [.ref (L 9 n), .ref (L 10 n), .ref (L 11 n), .int ((b1 8 n) 0), .int ((b1 8 n) 1), .int ((b1 8 n) 2)])) (tw_mem (f := 8) (i := n) hi rfl)
        refine va_put (D := (dC, dI)) (ci := 4) (v := .int 0) (ty := .int) (C := RX4) (T := TX4) (N := 6) hx hb hts tl_X4 tyX4 tyX4_ok nmX4 hown hK hPw hDw hS k9 hk9 rfl 4 (by decide) (hts _ tw_741) (fun _ h9 => h9) rfl (by decide +kernel) rfl rfl (Nat.le_of_ble_eq_true rfl) dX4_playTick_77 (fun H locs hPw hDw hS => ?_)
        have hP : mw (dC, dI) vwCl A (TW cy L tr (S2 b1 8 n (upd (b1 8 n) 1 0)) κ τ) H := (hbk _ _ hPw hDw).sub (tw_set (b := S2 b1 8 n (upd (b1 8 n) 1 0)) (f := 8) (i := n) (x := upd (b1 8 n) 1 0) hT hi (by decide) rfl)
        clear hbk hPw hDw hk9
        refine lv_aload_n hx hb dX4_playTick_80 rfl (lv_at hl 0 rfl) ?_
        refine lv_iconst (v := 1) hx hb dX4_playTick_81 (by decide) ?_
        obtain ⟨ws9, k9, hPw, hDw, hk9, -, hbk⟩ := hP.cut (e := .inr (4, [.ref (L 9 n), .ref (L 10 n), .ref (L 11 n), .int ((b1 8 n) 0), .int 0, .int ((b1 8 n) 2)])) (tw_mem (f := 8) (i := n) hi S2_eq)
        refine va_put (D := (dC, dI)) (ci := 4) (v := .int 1) (ty := .int) (C := RX4) (T := TX4) (N := 6) hx hb hts tl_X4 tyX4 tyX4_ok nmX4 hown hK hPw hDw hS k9 hk9 rfl 5 (by decide) (hts _ tw_743) (fun _ h9 => h9) rfl (by decide +kernel) rfl rfl (Nat.le_of_ble_eq_true rfl) dX4_playTick_82 (fun H locs hPw hDw hS => ?_)
        have hP : mw (dC, dI) vwCl A (TW cy L tr (S2 b1 8 n (upd (upd (b1 8 n) 1 0) 2 1)) κ τ) H := (hbk _ _ hPw hDw).sub (tw_set (b := S2 b1 8 n (upd (upd (b1 8 n) 1 0) 2 1)) (f := 8) (i := n) (x := upd (upd (b1 8 n) 1 0) 2 1) hT hi (by decide) S2_S2.symm)
        clear hbk hPw hDw hk9
        refine W.widen (k := 0) (n := 0) (Nat.le_of_ble_eq_true rfl) (Nat.le_of_ble_eq_true rfl) ?_
        have s_3 : S2 b1 8 n (upd (upd (b1 8 n) 1 0) 2 1) = S_play a n h := by
          simp only [S_play, S_tick, ← eb1]
          simp only [S_play1, S_next, X_next, if_neg c_1, if_pos c_3, if_pos c_4]
        rw [s_3] at hP
        exact W.vret hx hb hr (fun t ht hW => ⟨⟨(), rfl, trivial, (by show mw _ _ _ _ t.heap; rw [ht]; exact hP)⟩, hS.F ht⟩) hS.2.2 dX4_playTick_85
      · refine lv_aload_n hx hb dX4_playTick_67 rfl (lv_at hl 0 rfl) ?_
        refine va_get (D := (dC, dI)) (ws := [(L 8 n, .inr (4, [.ref (L 9 n), .ref (L 10 n), .ref (L 11 n), .int ((b1 8 n) 0), .int ((b1 8 n) 1), .int ((b1 8 n) 2)]))]) (ci := 4) (v := .int ((b1 8 n) 1)) (C := RX4) (T := TX4) (N := 6) hx hb hts tl_X4 hown hK (hP.one (tw_mem (f := 8) (i := n) hi rfl)) 0 rfl rfl 4 (by decide) (hts _ tw_741) (fun _ h9 => h9) rfl dX4_playTick_68 ?_
        refine lv_iconst (v := 1) hx hb dX4_playTick_71 (by decide) ?_
        refine lv_iadd hx hb dX4_playTick_72 ?_
        refine lv_goto (tgt := 77) hx hb dX4_playTick_73 (by decide) ?_
        obtain ⟨ws9, k9, hPw, hDw, hk9, -, hbk⟩ := hP.cut (e := .inr (4, [.ref (L 9 n), .ref (L 10 n), .ref (L 11 n), .int ((b1 8 n) 0), .int ((b1 8 n) 1), .int ((b1 8 n) 2)])) (tw_mem (f := 8) (i := n) hi rfl)
        refine va_put (D := (dC, dI)) (ci := 4) (v := .int (((b1 8 n) 1) + 1)) (ty := .int) (C := RX4) (T := TX4) (N := 6) hx hb hts tl_X4 tyX4 tyX4_ok nmX4 hown hK hPw hDw hS k9 hk9 rfl 4 (by decide) (hts _ tw_741) (fun _ h9 => h9) rfl (by decide +kernel) rfl rfl (Nat.le_of_ble_eq_true rfl) dX4_playTick_77 (fun H locs hPw hDw hS => ?_)
        have hP : mw (dC, dI) vwCl A (TW cy L tr (S2 b1 8 n (upd (b1 8 n) 1 (((b1 8 n) 1) + 1))) κ τ) H := (hbk _ _ hPw hDw).sub (tw_set (b := S2 b1 8 n (upd (b1 8 n) 1 (((b1 8 n) 1) + 1))) (f := 8) (i := n) (x := upd (b1 8 n) 1 (((b1 8 n) 1) + 1)) hT hi (by decide) rfl)
        clear hbk hPw hDw hk9
        refine lv_aload_n hx hb dX4_playTick_80 rfl (lv_at hl 0 rfl) ?_
        refine lv_iconst (v := 1) hx hb dX4_playTick_81 (by decide) ?_
        obtain ⟨ws9, k9, hPw, hDw, hk9, -, hbk⟩ := hP.cut (e := .inr (4, [.ref (L 9 n), .ref (L 10 n), .ref (L 11 n), .int ((b1 8 n) 0), .int (((b1 8 n) 1) + 1), .int ((b1 8 n) 2)])) (tw_mem (f := 8) (i := n) hi S2_eq)
        refine va_put (D := (dC, dI)) (ci := 4) (v := .int 1) (ty := .int) (C := RX4) (T := TX4) (N := 6) hx hb hts tl_X4 tyX4 tyX4_ok nmX4 hown hK hPw hDw hS k9 hk9 rfl 5 (by decide) (hts _ tw_743) (fun _ h9 => h9) rfl (by decide +kernel) rfl rfl (Nat.le_of_ble_eq_true rfl) dX4_playTick_82 (fun H locs hPw hDw hS => ?_)
        have hP : mw (dC, dI) vwCl A (TW cy L tr (S2 b1 8 n (upd (upd (b1 8 n) 1 (((b1 8 n) 1) + 1)) 2 1)) κ τ) H := (hbk _ _ hPw hDw).sub (tw_set (b := S2 b1 8 n (upd (upd (b1 8 n) 1 (((b1 8 n) 1) + 1)) 2 1)) (f := 8) (i := n) (x := upd (upd (b1 8 n) 1 (((b1 8 n) 1) + 1)) 2 1) hT hi (by decide) S2_S2.symm)
        clear hbk hPw hDw hk9
        refine W.widen (k := 0) (n := 0) (Nat.le_of_ble_eq_true rfl) (Nat.le_of_ble_eq_true rfl) ?_
        have s_4 : S2 b1 8 n (upd (upd (b1 8 n) 1 (((b1 8 n) 1) + 1)) 2 1) = S_play a n h := by
          simp only [S_play, S_tick, ← eb1]
          simp only [S_play1, S_next, X_next, if_neg c_1, if_pos c_3, if_neg c_4]
        rw [s_4] at hP
        exact W.vret hx hb hr (fun t ht hW => ⟨⟨(), rfl, trivial, (by show mw _ _ _ _ t.heap; rw [ht]; exact hP)⟩, hS.F ht⟩) hS.2.2 dX4_playTick_85
    · refine lv_aload_n hx hb dX4_playTick_33 rfl (lv_at hl 0 rfl) ?_
      refine va_get (D := (dC, dI)) (ws := [(L 8 n, .inr (4, [.ref (L 9 n), .ref (L 10 n), .ref (L 11 n), .int ((b1 8 n) 0), .int ((b1 8 n) 1), .int ((b1 8 n) 2)]))]) (ci := 4) (v := .int ((b1 8 n) 2)) (C := RX4) (T := TX4) (N := 6) hx hb hts tl_X4 hown hK (hP.one (tw_mem (f := 8) (i := n) hi rfl)) 0 rfl rfl 5 (by decide) (hts _ tw_743) (fun _ h9 => h9) rfl dX4_playTick_34 ?_
      refine lv_aload_n hx hb dX4_playTick_37 rfl (lv_at hl 0 rfl) ?_
      refine va_get (D := (dC, dI)) (ws := [(L 8 n, .inr (4, [.ref (L 9 n), .ref (L 10 n), .ref (L 11 n), .int ((b1 8 n) 0), .int ((b1 8 n) 1), .int ((b1 8 n) 2)]))]) (ci := 4) (v := .ref (L 10 n)) (C := RX4) (T := TX4) (N := 6) hx hb hts tl_X4 hown hK (hP.one (tw_mem (f := 8) (i := n) hi rfl)) 0 rfl rfl 1 (by decide) (hts _ tw_736) (fun _ h9 => h9) rfl dX4_playTick_38 ?_
      refine lv_aload_n hx hb dX4_playTick_41 rfl (lv_at hl 0 rfl) ?_
      refine va_get (D := (dC, dI)) (ws := [(L 8 n, .inr (4, [.ref (L 9 n), .ref (L 10 n), .ref (L 11 n), .int ((b1 8 n) 0), .int ((b1 8 n) 1), .int ((b1 8 n) 2)]))]) (ci := 4) (v := .int ((b1 8 n) 1)) (C := RX4) (T := TX4) (N := 6) hx hb hts tl_X4 hown hK (hP.one (tw_mem (f := 8) (i := n) hi rfl)) 0 rfl rfl 4 (by decide) (hts _ tw_741) (fun _ h9 => h9) rfl dX4_playTick_42 ?_
      have j_2 : ((b1 8 n) 1 : Int32).toNatClampNeg = ((b1 8 n) 1).toNatClampNeg := m_cl (m_nI (S_on_in c_1).1) (m_lt (S_on_in c_1).1 (S_on_in c_1).2 h4b) (by decide)
      refine va_iald hx hb hK (ws := [(L 10 n, .inl (cy 0, 4, .inl (b1 10 n)))]) (hP.one (tw_mem (f := 10) (i := n) hi rfl)) 0 0 rfl rfl (m_in (m_nI (S_on_in c_1).1) (m_lt (S_on_in c_1).1 (S_on_in c_1).2 h4b) (by decide)) dX4_playTick_45 ?_
      refine W.eq (g2 := F0 m 46 ls [.int ((b1 10 n) (((b1 8 n) 1).toNatClampNeg)), .int ((b1 8 n) 2)]) (by first | (rw [j_2]; done) | (rw [j_2]; rfl)) ?_
      refine lv_icmp_le (tgt := 85) hx hb dX4_playTick_46 (by decide) (fun c_5 => ?_) (fun c_5 => ?_)
      · refine W.widen (k := 0) (n := 0) (Nat.le_of_ble_eq_true rfl) (Nat.le_of_ble_eq_true rfl) ?_
        have s_5 : b1 = S_play a n h := by
          simp only [S_play, S_tick, ← eb1]
          simp only [S_play1, S_next, X_next, if_neg c_1, if_neg c_3, if_pos c_5]
        rw [s_5] at hP
        exact W.vret hx hb hr (fun t ht hW => ⟨⟨(), rfl, trivial, (by show mw _ _ _ _ t.heap; rw [ht]; exact hP)⟩, hS.F ht⟩) hS.2.2 dX4_playTick_85
      · refine lv_iload_n hx hb dX4_playTick_49 rfl (lv_at hl 1 rfl) ?_
        refine lv_if_ne (tgt := 85) hx hb dX4_playTick_50 (by decide) (fun c_6 => ?_) (fun c_6 => ?_)
        · refine W.widen (k := 0) (n := 0) (Nat.le_of_ble_eq_true rfl) (Nat.le_of_ble_eq_true rfl) ?_
          have s_6 : b1 = S_play a n h := by
            simp only [S_play, S_tick, ← eb1]
            simp only [S_play1, S_next, X_next, if_neg c_1, if_neg c_3, if_neg c_5, if_neg c_6]
          rw [s_6] at hP
          exact W.vret hx hb hr (fun t ht hW => ⟨⟨(), rfl, trivial, (by show mw _ _ _ _ t.heap; rw [ht]; exact hP)⟩, hS.F ht⟩) hS.2.2 dX4_playTick_85
        · refine lv_aload_n hx hb dX4_playTick_53 rfl (lv_at hl 0 rfl) ?_
          refine lv_aload_n hx hb dX4_playTick_54 rfl (lv_at hl 0 rfl) ?_
          refine va_get (D := (dC, dI)) (ws := [(L 8 n, .inr (4, [.ref (L 9 n), .ref (L 10 n), .ref (L 11 n), .int ((b1 8 n) 0), .int ((b1 8 n) 1), .int ((b1 8 n) 2)]))]) (ci := 4) (v := .int ((b1 8 n) 1)) (C := RX4) (T := TX4) (N := 6) hx hb hts tl_X4 hown hK (hP.one (tw_mem (f := 8) (i := n) hi rfl)) 0 rfl rfl 4 (by decide) (hts _ tw_741) (fun _ h9 => h9) rfl dX4_playTick_55 ?_
          refine lv_iconst (v := 1) hx hb dX4_playTick_58 (by decide) ?_
          refine lv_iadd hx hb dX4_playTick_59 ?_
          refine lv_aload_n hx hb dX4_playTick_60 rfl (lv_at hl 0 rfl) ?_
          refine va_get (D := (dC, dI)) (ws := [(L 8 n, .inr (4, [.ref (L 9 n), .ref (L 10 n), .ref (L 11 n), .int ((b1 8 n) 0), .int ((b1 8 n) 1), .int ((b1 8 n) 2)]))]) (ci := 4) (v := .int ((b1 8 n) 0)) (C := RX4) (T := TX4) (N := 6) hx hb hts tl_X4 hown hK (hP.one (tw_mem (f := 8) (i := n) hi rfl)) 0 rfl rfl 3 (by decide) (hts _ tw_738) (fun _ h9 => h9) rfl dX4_playTick_61 ?_
          refine lv_icmp_ge (tgt := 76) hx hb dX4_playTick_64 (by decide) (fun c_7 => ?_) (fun c_7 => ?_)
          · refine lv_iconst (v := 0) hx hb dX4_playTick_76 (by decide) ?_
            obtain ⟨ws9, k9, hPw, hDw, hk9, -, hbk⟩ := hP.cut (e := .inr (4, [.ref (L 9 n), .ref (L 10 n), .ref (L 11 n), .int ((b1 8 n) 0), .int ((b1 8 n) 1), .int ((b1 8 n) 2)])) (tw_mem (f := 8) (i := n) hi rfl)
            refine va_put (D := (dC, dI)) (ci := 4) (v := .int 0) (ty := .int) (C := RX4) (T := TX4) (N := 6) hx hb hts tl_X4 tyX4 tyX4_ok nmX4 hown hK hPw hDw hS k9 hk9 rfl 4 (by decide) (hts _ tw_741) (fun _ h9 => h9) rfl (by decide +kernel) rfl rfl (Nat.le_of_ble_eq_true rfl) dX4_playTick_77 (fun H locs hPw hDw hS => ?_)
            have hP : mw (dC, dI) vwCl A (TW cy L tr (S2 b1 8 n (upd (b1 8 n) 1 0)) κ τ) H := (hbk _ _ hPw hDw).sub (tw_set (b := S2 b1 8 n (upd (b1 8 n) 1 0)) (f := 8) (i := n) (x := upd (b1 8 n) 1 0) hT hi (by decide) rfl)
            clear hbk hPw hDw hk9
            refine lv_aload_n hx hb dX4_playTick_80 rfl (lv_at hl 0 rfl) ?_
            refine lv_iconst (v := 1) hx hb dX4_playTick_81 (by decide) ?_
            obtain ⟨ws9, k9, hPw, hDw, hk9, -, hbk⟩ := hP.cut (e := .inr (4, [.ref (L 9 n), .ref (L 10 n), .ref (L 11 n), .int ((b1 8 n) 0), .int 0, .int ((b1 8 n) 2)])) (tw_mem (f := 8) (i := n) hi S2_eq)
            refine va_put (D := (dC, dI)) (ci := 4) (v := .int 1) (ty := .int) (C := RX4) (T := TX4) (N := 6) hx hb hts tl_X4 tyX4 tyX4_ok nmX4 hown hK hPw hDw hS k9 hk9 rfl 5 (by decide) (hts _ tw_743) (fun _ h9 => h9) rfl (by decide +kernel) rfl rfl (Nat.le_of_ble_eq_true rfl) dX4_playTick_82 (fun H locs hPw hDw hS => ?_)
            have hP : mw (dC, dI) vwCl A (TW cy L tr (S2 b1 8 n (upd (upd (b1 8 n) 1 0) 2 1)) κ τ) H := (hbk _ _ hPw hDw).sub (tw_set (b := S2 b1 8 n (upd (upd (b1 8 n) 1 0) 2 1)) (f := 8) (i := n) (x := upd (upd (b1 8 n) 1 0) 2 1) hT hi (by decide) S2_S2.symm)
            clear hbk hPw hDw hk9
            refine W.widen (k := 0) (n := 0) (Nat.le_of_ble_eq_true rfl) (Nat.le_of_ble_eq_true rfl) ?_
            have s_7 : S2 b1 8 n (upd (upd (b1 8 n) 1 0) 2 1) = S_play a n h := by
              simp only [S_play, S_tick, ← eb1]
              simp only [S_play1, S_next, X_next, if_neg c_1, if_neg c_3, if_neg c_5, if_pos c_6, if_pos c_7]
            rw [s_7] at hP
            exact W.vret hx hb hr (fun t ht hW => ⟨⟨(), rfl, trivial, (by show mw _ _ _ _ t.heap; rw [ht]; exact hP)⟩, hS.F ht⟩) hS.2.2 dX4_playTick_85
          · refine lv_aload_n hx hb dX4_playTick_67 rfl (lv_at hl 0 rfl) ?_
            refine va_get (D := (dC, dI)) (ws := [(L 8 n, .inr (4, [.ref (L 9 n), .ref (L 10 n), .ref (L 11 n), .int ((b1 8 n) 0), .int ((b1 8 n) 1), .int ((b1 8 n) 2)]))]) (ci := 4) (v := .int ((b1 8 n) 1)) (C := RX4) (T := TX4) (N := 6) hx hb hts tl_X4 hown hK (hP.one (tw_mem (f := 8) (i := n) hi rfl)) 0 rfl rfl 4 (by decide) (hts _ tw_741) (fun _ h9 => h9) rfl dX4_playTick_68 ?_
            refine lv_iconst (v := 1) hx hb dX4_playTick_71 (by decide) ?_
            refine lv_iadd hx hb dX4_playTick_72 ?_
            refine lv_goto (tgt := 77) hx hb dX4_playTick_73 (by decide) ?_
            obtain ⟨ws9, k9, hPw, hDw, hk9, -, hbk⟩ := hP.cut (e := .inr (4, [.ref (L 9 n), .ref (L 10 n), .ref (L 11 n), .int ((b1 8 n) 0), .int ((b1 8 n) 1), .int ((b1 8 n) 2)])) (tw_mem (f := 8) (i := n) hi rfl)
            refine va_put (D := (dC, dI)) (ci := 4) (v := .int (((b1 8 n) 1) + 1)) (ty := .int) (C := RX4) (T := TX4) (N := 6) hx hb hts tl_X4 tyX4 tyX4_ok nmX4 hown hK hPw hDw hS k9 hk9 rfl 4 (by decide) (hts _ tw_741) (fun _ h9 => h9) rfl (by decide +kernel) rfl rfl (Nat.le_of_ble_eq_true rfl) dX4_playTick_77 (fun H locs hPw hDw hS => ?_)
            have hP : mw (dC, dI) vwCl A (TW cy L tr (S2 b1 8 n (upd (b1 8 n) 1 (((b1 8 n) 1) + 1))) κ τ) H := (hbk _ _ hPw hDw).sub (tw_set (b := S2 b1 8 n (upd (b1 8 n) 1 (((b1 8 n) 1) + 1))) (f := 8) (i := n) (x := upd (b1 8 n) 1 (((b1 8 n) 1) + 1)) hT hi (by decide) rfl)
            clear hbk hPw hDw hk9
            refine lv_aload_n hx hb dX4_playTick_80 rfl (lv_at hl 0 rfl) ?_
            refine lv_iconst (v := 1) hx hb dX4_playTick_81 (by decide) ?_
            obtain ⟨ws9, k9, hPw, hDw, hk9, -, hbk⟩ := hP.cut (e := .inr (4, [.ref (L 9 n), .ref (L 10 n), .ref (L 11 n), .int ((b1 8 n) 0), .int (((b1 8 n) 1) + 1), .int ((b1 8 n) 2)])) (tw_mem (f := 8) (i := n) hi S2_eq)
            refine va_put (D := (dC, dI)) (ci := 4) (v := .int 1) (ty := .int) (C := RX4) (T := TX4) (N := 6) hx hb hts tl_X4 tyX4 tyX4_ok nmX4 hown hK hPw hDw hS k9 hk9 rfl 5 (by decide) (hts _ tw_743) (fun _ h9 => h9) rfl (by decide +kernel) rfl rfl (Nat.le_of_ble_eq_true rfl) dX4_playTick_82 (fun H locs hPw hDw hS => ?_)
            have hP : mw (dC, dI) vwCl A (TW cy L tr (S2 b1 8 n (upd (upd (b1 8 n) 1 (((b1 8 n) 1) + 1)) 2 1)) κ τ) H := (hbk _ _ hPw hDw).sub (tw_set (b := S2 b1 8 n (upd (upd (b1 8 n) 1 (((b1 8 n) 1) + 1)) 2 1)) (f := 8) (i := n) (x := upd (upd (b1 8 n) 1 (((b1 8 n) 1) + 1)) 2 1) hT hi (by decide) S2_S2.symm)
            clear hbk hPw hDw hk9
            refine W.widen (k := 0) (n := 0) (Nat.le_of_ble_eq_true rfl) (Nat.le_of_ble_eq_true rfl) ?_
            have s_8 : S2 b1 8 n (upd (upd (b1 8 n) 1 (((b1 8 n) 1) + 1)) 2 1) = S_play a n h := by
              simp only [S_play, S_tick, ← eb1]
              simp only [S_play1, S_next, X_next, if_neg c_1, if_neg c_3, if_neg c_5, if_pos c_6, if_neg c_7]
            rw [s_8] at hP
            exact W.vret hx hb hr (fun t ht hW => ⟨⟨(), rfl, trivial, (by show mw _ _ _ _ t.heap; rw [ht]; exact hP)⟩, hS.F ht⟩) hS.2.2 dX4_playTick_85
set_option maxRecDepth 100000 in
set_option maxHeartbeats 4000000 in
/-- Signal.append, with room -/
theorem c_Signal_append (l : Launch) (dC : Nat → ClassId) (dI : Nat → Nat → Nat) (cy : Nat → ClassId) (L : Lay) (tr : Option Nat) (a : St) (κ : Kap) (τ : Tau) (n : Nat) (x : Int32) (y : Int32) (z : Int32) (sz : Nat) (hT : TL L tr τ) (hi : n < 12) (h4l : 0 ≤ (a 8 n 0).toInt) (h4 : (a 8 n 0).toInt < 4) : Met l yX4_append (tp_w yX4_append cX4_append 4 (some .int)) ({ frames := 0, cells := 0, slots := 0, locals := 0 }) (va_Pc [.ref (L 8 n), .int x, .int y, .int z] (mPre dC dI cy (TW cy L tr a κ τ) sz)) (va_Qi (fun (r u : Int32) => r = u) (fun (u : Int32) (t : State) => (u = a 8 n 0) ∧ mw (dC, dI) vwCl (mA (TW cy L tr a κ τ) sz) (TW cy L tr (S_app a n x y z) κ τ) t.heap) (mA (TW cy L tr a κ τ) sz)) (0) (0) (mA (TW cy L tr a κ τ) sz) := by
  refine Met.ofW (cc := cX4_append) (maxL := 4) (ret := (some .int)) (by decide) rfl ?_
  intro p e s m args below meth c s₁ B hml hv
  obtain ⟨rfl, hsz, hP, hK, hE⟩ := hv
  have hx := B.exec
  have hb := B.bytes
  have hr := B.returns
  have hts0 := atoms_spec (ws := tp_w yX4_append cX4_append 4 (some .int)) B.pre
  have hts : ∀ w ∈ tp_all, w.before _ s = true := fun w h => hts0 w (List.mem_cons_of_mem _ h)
  have hown : s.vm.findClass RX4 = some m.cls := findClass_of_methodNamed B.named
  have hlocks := B.notSynchronized
  subst hsz
  have hP := hP.self s.heap.size
  generalize hAe : mA (TW cy L tr a κ τ) s.heap.size = A at hP ⊢
  have hA : ∀ q : Nat, s.heap.size ≤ q → A q := fun q h => by rw [← hAe]; exact Or.inr h
  have hS : va_S A s.heap s.heap [] := va_S.rf
  have hl9 := lv_entry ([.ref (L 8 n), .int x, .int y, .int z]) (n := 4) (Nat.le_of_ble_eq_true rfl)
  rw [lg_entry_eq]
  generalize (lg_sl ([.ref (L 8 n), .int x, .int y, .int z]) ++ List.replicate (4 - (lg_sl ([.ref (L 8 n), .int x, .int y, .int z])).length) Slot.unset).toArray = ls at hl9 ⊢
  have hl : lv_has ls 4 [(0, .ref (L 8 n)), (1, .int x), (2, .int y), (3, .int z)] := hl9
  refine lv_aload_n hx hb dX4_append_0 rfl (lv_at hl 0 rfl) ?_
  refine va_get (D := (dC, dI)) (ws := [(L 8 n, .inr (4, [.ref (L 9 n), .ref (L 10 n), .ref (L 11 n), .int ((a 8 n) 0), .int ((a 8 n) 1), .int ((a 8 n) 2)]))]) (ci := 4) (v := .int ((a 8 n) 0)) (C := RX4) (T := TX4) (N := 6) hx hb hts tl_X4 hown hK (hP.one (tw_mem (f := 8) (i := n) hi rfl)) 0 rfl rfl 3 (by decide) (hts _ tw_738) (fun _ h9 => h9) rfl dX4_append_1 ?_
  refine lv_iconst (v := 4) hx hb dX4_append_4 (by decide) ?_
  refine lv_icmp_lt (tgt := 10) hx hb dX4_append_5 (by decide) (fun _ => ?_) (fun c_1 => absurd (Int32.lt_iff_toInt_lt.mpr h4) c_1)
  refine lv_aload_n hx hb dX4_append_10 rfl (lv_at hl 0 rfl) ?_
  refine va_get (D := (dC, dI)) (ws := [(L 8 n, .inr (4, [.ref (L 9 n), .ref (L 10 n), .ref (L 11 n), .int ((a 8 n) 0), .int ((a 8 n) 1), .int ((a 8 n) 2)]))]) (ci := 4) (v := .ref (L 9 n)) (C := RX4) (T := TX4) (N := 6) hx hb hts tl_X4 hown hK (hP.one (tw_mem (f := 8) (i := n) hi rfl)) 0 rfl rfl 0 (by decide) (hts _ tw_735) (fun _ h9 => h9) rfl dX4_append_11 ?_
  refine lv_aload_n hx hb dX4_append_14 rfl (lv_at hl 0 rfl) ?_
  refine va_get (D := (dC, dI)) (ws := [(L 8 n, .inr (4, [.ref (L 9 n), .ref (L 10 n), .ref (L 11 n), .int ((a 8 n) 0), .int ((a 8 n) 1), .int ((a 8 n) 2)]))]) (ci := 4) (v := .int ((a 8 n) 0)) (C := RX4) (T := TX4) (N := 6) hx hb hts tl_X4 hown hK (hP.one (tw_mem (f := 8) (i := n) hi rfl)) 0 rfl rfl 3 (by decide) (hts _ tw_738) (fun _ h9 => h9) rfl dX4_append_15 ?_
  refine lv_iload_n hx hb dX4_append_18 rfl (lv_at hl 1 rfl) ?_
  have j_1 : ((a 8 n) 0 : Int32).toNatClampNeg = ((a 8 n) 0).toNatClampNeg := m_cl (m_n0 h4l) (m_ltI h4l h4) (by decide)
  obtain ⟨ws9, k9, hPw, hDw, hk9, -, hbk⟩ := hP.cut (e := .inl (cy 0, 4, .inl (a 9 n))) (tw_mem (f := 9) (i := n) hi rfl)
  refine va_iast hx hb hK hPw hDw hS k9 0 hk9 rfl (m_in (m_n0 h4l) (m_ltI h4l h4) (by decide)) dX4_append_19 (fun H locs hPw hDw hS => ?_)
  rw [j_1] at hPw hDw
  have hP : mw (dC, dI) vwCl A (TW cy L tr (S2 a 9 n (upd (a 9 n) (((a 8 n) 0).toNatClampNeg) x)) κ τ) H := (hbk _ _ hPw hDw).sub (tw_set (b := S2 a 9 n (upd (a 9 n) (((a 8 n) 0).toNatClampNeg) x)) (f := 9) (i := n) (x := upd (a 9 n) (((a 8 n) 0).toNatClampNeg) x) hT hi (by decide) rfl)
  clear hbk hPw hDw hk9
  refine lv_aload_n hx hb dX4_append_20 rfl (lv_at hl 0 rfl) ?_
  refine va_get (D := (dC, dI)) (ws := [(L 8 n, .inr (4, [.ref (L 9 n), .ref (L 10 n), .ref (L 11 n), .int ((a 8 n) 0), .int ((a 8 n) 1), .int ((a 8 n) 2)]))]) (ci := 4) (v := .ref (L 10 n)) (C := RX4) (T := TX4) (N := 6) hx hb hts tl_X4 hown hK (hP.one (tw_mem (f := 8) (i := n) hi (S2_nf (by decide)))) 0 rfl rfl 1 (by decide) (hts _ tw_736) (fun _ h9 => h9) rfl dX4_append_21 ?_
  refine lv_aload_n hx hb dX4_append_24 rfl (lv_at hl 0 rfl) ?_
  refine va_get (D := (dC, dI)) (ws := [(L 8 n, .inr (4, [.ref (L 9 n), .ref (L 10 n), .ref (L 11 n), .int ((a 8 n) 0), .int ((a 8 n) 1), .int ((a 8 n) 2)]))]) (ci := 4) (v := .int ((a 8 n) 0)) (C := RX4) (T := TX4) (N := 6) hx hb hts tl_X4 hown hK (hP.one (tw_mem (f := 8) (i := n) hi (S2_nf (by decide)))) 0 rfl rfl 3 (by decide) (hts _ tw_738) (fun _ h9 => h9) rfl dX4_append_25 ?_
  refine lv_iload_n hx hb dX4_append_28 rfl (lv_at hl 2 rfl) ?_
  have j_2 : ((a 8 n) 0 : Int32).toNatClampNeg = ((a 8 n) 0).toNatClampNeg := m_cl (m_n0 h4l) (m_ltI h4l h4) (by decide)
  obtain ⟨ws9, k9, hPw, hDw, hk9, -, hbk⟩ := hP.cut (e := .inl (cy 0, 4, .inl (a 10 n))) (tw_mem (f := 10) (i := n) hi (S2_nf (by decide)))
  refine va_iast hx hb hK hPw hDw hS k9 0 hk9 rfl (m_in (m_n0 h4l) (m_ltI h4l h4) (by decide)) dX4_append_29 (fun H locs hPw hDw hS => ?_)
  rw [j_2] at hPw hDw
  have hP : mw (dC, dI) vwCl A (TW cy L tr (S2 (S2 a 9 n (upd (a 9 n) (((a 8 n) 0).toNatClampNeg) x)) 10 n (upd (a 10 n) (((a 8 n) 0).toNatClampNeg) y)) κ τ) H := (hbk _ _ hPw hDw).sub (tw_set (b := S2 (S2 a 9 n (upd (a 9 n) (((a 8 n) 0).toNatClampNeg) x)) 10 n (upd (a 10 n) (((a 8 n) 0).toNatClampNeg) y)) (f := 10) (i := n) (x := upd (a 10 n) (((a 8 n) 0).toNatClampNeg) y) hT hi (by decide) rfl)
  clear hbk hPw hDw hk9
  refine lv_aload_n hx hb dX4_append_30 rfl (lv_at hl 0 rfl) ?_
  refine va_get (D := (dC, dI)) (ws := [(L 8 n, .inr (4, [.ref (L 9 n), .ref (L 10 n), .ref (L 11 n), .int ((a 8 n) 0), .int ((a 8 n) 1), .int ((a 8 n) 2)]))]) (ci := 4) (v := .ref (L 11 n)) (C := RX4) (T := TX4) (N := 6) hx hb hts tl_X4 hown hK (hP.one (tw_mem (f := 8) (i := n) hi ((S2_nf (by decide)).trans (S2_nf (by decide))))) 0 rfl rfl 2 (by decide) (hts _ tw_737) (fun _ h9 => h9) rfl dX4_append_31 ?_
  refine lv_aload_n hx hb dX4_append_34 rfl (lv_at hl 0 rfl) ?_
  refine va_get (D := (dC, dI)) (ws := [(L 8 n, .inr (4, [.ref (L 9 n), .ref (L 10 n), .ref (L 11 n), .int ((a 8 n) 0), .int ((a 8 n) 1), .int ((a 8 n) 2)]))]) (ci := 4) (v := .int ((a 8 n) 0)) (C := RX4) (T := TX4) (N := 6) hx hb hts tl_X4 hown hK (hP.one (tw_mem (f := 8) (i := n) hi ((S2_nf (by decide)).trans (S2_nf (by decide))))) 0 rfl rfl 3 (by decide) (hts _ tw_738) (fun _ h9 => h9) rfl dX4_append_35 ?_
  refine lv_iload_n hx hb dX4_append_38 rfl (lv_at hl 3 rfl) ?_
  have j_3 : ((a 8 n) 0 : Int32).toNatClampNeg = ((a 8 n) 0).toNatClampNeg := m_cl (m_n0 h4l) (m_ltI h4l h4) (by decide)
  obtain ⟨ws9, k9, hPw, hDw, hk9, -, hbk⟩ := hP.cut (e := .inl (cy 0, 4, .inl (a 11 n))) (tw_mem (f := 11) (i := n) hi ((S2_nf (by decide)).trans (S2_nf (by decide))))
  refine va_iast hx hb hK hPw hDw hS k9 0 hk9 rfl (m_in (m_n0 h4l) (m_ltI h4l h4) (by decide)) dX4_append_39 (fun H locs hPw hDw hS => ?_)
  rw [j_3] at hPw hDw
  have hP : mw (dC, dI) vwCl A (TW cy L tr (S2 (S2 (S2 a 9 n (upd (a 9 n) (((a 8 n) 0).toNatClampNeg) x)) 10 n (upd (a 10 n) (((a 8 n) 0).toNatClampNeg) y)) 11 n (upd (a 11 n) (((a 8 n) 0).toNatClampNeg) z)) κ τ) H := (hbk _ _ hPw hDw).sub (tw_set (b := S2 (S2 (S2 a 9 n (upd (a 9 n) (((a 8 n) 0).toNatClampNeg) x)) 10 n (upd (a 10 n) (((a 8 n) 0).toNatClampNeg) y)) 11 n (upd (a 11 n) (((a 8 n) 0).toNatClampNeg) z)) (f := 11) (i := n) (x := upd (a 11 n) (((a 8 n) 0).toNatClampNeg) z) hT hi (by decide) rfl)
  clear hbk hPw hDw hk9
  refine lv_aload_n hx hb dX4_append_40 rfl (lv_at hl 0 rfl) ?_
  refine lv_dup hx hb dX4_append_41 rfl ?_
  refine va_get (D := (dC, dI)) (ws := [(L 8 n, .inr (4, [.ref (L 9 n), .ref (L 10 n), .ref (L 11 n), .int ((a 8 n) 0), .int ((a 8 n) 1), .int ((a 8 n) 2)]))]) (ci := 4) (v := .int ((a 8 n) 0)) (C := RX4) (T := TX4) (N := 6) hx hb hts tl_X4 hown hK (hP.one (tw_mem (f := 8) (i := n) hi ((S2_nf (by decide)).trans ((S2_nf (by decide)).trans (S2_nf (by decide)))))) 0 rfl rfl 3 (by decide) (hts _ tw_738) (fun _ h9 => h9) rfl dX4_append_42 ?_
  refine lv_dup_x1 hx hb dX4_append_45 rfl rfl ?_
  refine lv_iconst (v := 1) hx hb dX4_append_46 (by decide) ?_
  refine lv_iadd hx hb dX4_append_47 ?_
  obtain ⟨ws9, k9, hPw, hDw, hk9, -, hbk⟩ := hP.cut (e := .inr (4, [.ref (L 9 n), .ref (L 10 n), .ref (L 11 n), .int ((a 8 n) 0), .int ((a 8 n) 1), .int ((a 8 n) 2)])) (tw_mem (f := 8) (i := n) hi ((S2_nf (by decide)).trans ((S2_nf (by decide)).trans (S2_nf (by decide)))))
  refine va_put (D := (dC, dI)) (ci := 4) (v := .int (((a 8 n) 0) + 1)) (ty := .int) (C := RX4) (T := TX4) (N := 6) hx hb hts tl_X4 tyX4 tyX4_ok nmX4 hown hK hPw hDw hS k9 hk9 rfl 3 (by decide) (hts _ tw_738) (fun _ h9 => h9) rfl (by decide +kernel) rfl rfl (Nat.le_of_ble_eq_true rfl) dX4_append_48 (fun H locs hPw hDw hS => ?_)
  have hP : mw (dC, dI) vwCl A (TW cy L tr (S2 (S2 (S2 (S2 a 9 n (upd (a 9 n) (((a 8 n) 0).toNatClampNeg) x)) 10 n (upd (a 10 n) (((a 8 n) 0).toNatClampNeg) y)) 11 n (upd (a 11 n) (((a 8 n) 0).toNatClampNeg) z)) 8 n (upd (a 8 n) 0 (((a 8 n) 0) + 1))) κ τ) H := (hbk _ _ hPw hDw).sub (tw_set (b := S2 (S2 (S2 (S2 a 9 n (upd (a 9 n) (((a 8 n) 0).toNatClampNeg) x)) 10 n (upd (a 10 n) (((a 8 n) 0).toNatClampNeg) y)) 11 n (upd (a 11 n) (((a 8 n) 0).toNatClampNeg) z)) 8 n (upd (a 8 n) 0 (((a 8 n) 0) + 1))) (f := 8) (i := n) (x := upd (a 8 n) 0 (((a 8 n) 0) + 1)) hT hi (by decide) rfl)
  clear hbk hPw hDw hk9
  refine W.widen (k := 0) (n := 0) (Nat.le_of_ble_eq_true rfl) (Nat.le_of_ble_eq_true rfl) ?_
  have s_1 : S2 (S2 (S2 (S2 a 9 n (upd (a 9 n) (((a 8 n) 0).toNatClampNeg) x)) 10 n (upd (a 10 n) (((a 8 n) 0).toNatClampNeg) y)) 11 n (upd (a 11 n) (((a 8 n) 0).toNatClampNeg) z)) 8 n (upd (a 8 n) 0 (((a 8 n) 0) + 1)) = S_app a n x y z := by
    first | rfl | (simp only [S_app])
  rw [s_1] at hP
  have g_1 : ((a 8 n) 0) = a 8 n 0 := by
    first | rfl | assumption | (simp only [S_app])
  exact W.iret (v := (a 8 n) 0) hx hb hr (fun t ht hW => ⟨⟨((a 8 n) 0), ((a 8 n) 0), rfl, rfl, ⟨g_1, by show mw _ _ _ _ t.heap; rw [ht]; exact hP⟩⟩, hS.F ht⟩) hS.2.2 dX4_append_51
set_option maxRecDepth 100000 in
set_option maxHeartbeats 4000000 in
/-- Flow.tell -/
theorem c_Flow_tell (l : Launch) (dC : Nat → ClassId) (dI : Nat → Nat → Nat) (cy : Nat → ClassId) (L : Lay) (tr : Option Nat) (a : St) (κ : Kap) (τ : Tau) (f : Nat) (fr : Int32) (to : Int32) (k : Int32) (st : Int32) (pe : Int32) (mo : Int32) (sz : Nat) (hT : TL L tr τ) (hi : f < 10) : Met l yX0_tell (tp_w yX0_tell cX0_tell 7 none) ({ frames := 0, cells := 0, slots := 0, locals := 0 }) (va_Pc [.ref (L 14 f), .int fr, .int to, .int k, .int st, .int pe, .int mo] (mPre dC dI cy (TW cy L tr a κ τ) sz)) (va_Qv (fun _ : Unit => True) (fun (_ : Unit) (t : State) => mw (dC, dI) vwCl (mA (TW cy L tr a κ τ) sz) (TW cy L tr (F_tell a f fr to k st pe mo) κ τ) t.heap) (mA (TW cy L tr a κ τ) sz)) (0) (0) (mA (TW cy L tr a κ τ) sz) := by
  refine Met.ofW (cc := cX0_tell) (maxL := 7) (ret := none) (by decide) rfl ?_
  intro p e s m args below meth c s₁ B hml hv
  obtain ⟨rfl, hsz, hP, hK, hE⟩ := hv
  have hx := B.exec
  have hb := B.bytes
  have hr := B.returns
  have hts0 := atoms_spec (ws := tp_w yX0_tell cX0_tell 7 none) B.pre
  have hts : ∀ w ∈ tp_all, w.before _ s = true := fun w h => hts0 w (List.mem_cons_of_mem _ h)
  have hown : s.vm.findClass RX0 = some m.cls := findClass_of_methodNamed B.named
  have hlocks := B.notSynchronized
  subst hsz
  have hP := hP.self s.heap.size
  generalize hAe : mA (TW cy L tr a κ τ) s.heap.size = A at hP ⊢
  have hA : ∀ q : Nat, s.heap.size ≤ q → A q := fun q h => by rw [← hAe]; exact Or.inr h
  have hS : va_S A s.heap s.heap [] := va_S.rf
  have hl9 := lv_entry ([.ref (L 14 f), .int fr, .int to, .int k, .int st, .int pe, .int mo]) (n := 7) (Nat.le_of_ble_eq_true rfl)
  rw [lg_entry_eq]
  generalize (lg_sl ([.ref (L 14 f), .int fr, .int to, .int k, .int st, .int pe, .int mo]) ++ List.replicate (7 - (lg_sl ([.ref (L 14 f), .int fr, .int to, .int k, .int st, .int pe, .int mo])).length) Slot.unset).toArray = ls at hl9 ⊢
  have hl : lv_has ls 7 [(0, .ref (L 14 f)), (1, .int fr), (2, .int to), (3, .int k), (4, .int st), (5, .int pe), (6, .int mo)] := hl9
  refine lv_aload_n hx hb dX0_tell_0 rfl (lv_at hl 0 rfl) ?_
  refine lv_iload_n hx hb dX0_tell_1 rfl (lv_at hl 1 rfl) ?_
  obtain ⟨ws9, k9, hPw, hDw, hk9, -, hbk⟩ := hP.cut (e := .inr (0, [.int ((a 14 f) 0), .int ((a 14 f) 1), .int ((a 14 f) 2), .int ((a 14 f) 3), .int ((a 14 f) 4), .int ((a 14 f) 5), .int ((a 14 f) 6), .int ((a 14 f) 7), .int ((a 14 f) 8), .int ((a 14 f) 9), .int ((a 14 f) 10), .int ((a 14 f) 11)])) (tw_mem (f := 14) (i := f) hi rfl)
  refine va_put (D := (dC, dI)) (ci := 0) (v := .int fr) (ty := .int) (C := RX0) (T := TX0) (N := 12) hx hb hts tl_X0 tyX0 tyX0_ok nmX0 hown hK hPw hDw hS k9 hk9 rfl 0 (by decide) (hts _ tw_764) (fun _ h9 => h9) rfl (by decide +kernel) rfl rfl (Nat.le_of_ble_eq_true rfl) dX0_tell_2 (fun H locs hPw hDw hS => ?_)
  have hP : mw (dC, dI) vwCl A (TW cy L tr (S2 a 14 f (upd (a 14 f) 0 fr)) κ τ) H := (hbk _ _ hPw hDw).sub (tw_set (b := S2 a 14 f (upd (a 14 f) 0 fr)) (f := 14) (i := f) (x := upd (a 14 f) 0 fr) hT hi (by decide) rfl)
  clear hbk hPw hDw hk9
  refine lv_aload_n hx hb dX0_tell_5 rfl (lv_at hl 0 rfl) ?_
  refine lv_iload_n hx hb dX0_tell_6 rfl (lv_at hl 2 rfl) ?_
  obtain ⟨ws9, k9, hPw, hDw, hk9, -, hbk⟩ := hP.cut (e := .inr (0, [.int fr, .int ((a 14 f) 1), .int ((a 14 f) 2), .int ((a 14 f) 3), .int ((a 14 f) 4), .int ((a 14 f) 5), .int ((a 14 f) 6), .int ((a 14 f) 7), .int ((a 14 f) 8), .int ((a 14 f) 9), .int ((a 14 f) 10), .int ((a 14 f) 11)])) (tw_mem (f := 14) (i := f) hi S2_eq)
  refine va_put (D := (dC, dI)) (ci := 0) (v := .int to) (ty := .int) (C := RX0) (T := TX0) (N := 12) hx hb hts tl_X0 tyX0 tyX0_ok nmX0 hown hK hPw hDw hS k9 hk9 rfl 1 (by decide) (hts _ tw_766) (fun _ h9 => h9) rfl (by decide +kernel) rfl rfl (Nat.le_of_ble_eq_true rfl) dX0_tell_7 (fun H locs hPw hDw hS => ?_)
  have hP : mw (dC, dI) vwCl A (TW cy L tr (S2 a 14 f (upd (upd (a 14 f) 0 fr) 1 to)) κ τ) H := (hbk _ _ hPw hDw).sub (tw_set (b := S2 a 14 f (upd (upd (a 14 f) 0 fr) 1 to)) (f := 14) (i := f) (x := upd (upd (a 14 f) 0 fr) 1 to) hT hi (by decide) S2_S2.symm)
  clear hbk hPw hDw hk9
  refine lv_aload_n hx hb dX0_tell_10 rfl (lv_at hl 0 rfl) ?_
  refine lv_iload_n hx hb dX0_tell_11 rfl (lv_at hl 3 rfl) ?_
  obtain ⟨ws9, k9, hPw, hDw, hk9, -, hbk⟩ := hP.cut (e := .inr (0, [.int fr, .int to, .int ((a 14 f) 2), .int ((a 14 f) 3), .int ((a 14 f) 4), .int ((a 14 f) 5), .int ((a 14 f) 6), .int ((a 14 f) 7), .int ((a 14 f) 8), .int ((a 14 f) 9), .int ((a 14 f) 10), .int ((a 14 f) 11)])) (tw_mem (f := 14) (i := f) hi S2_eq)
  refine va_put (D := (dC, dI)) (ci := 0) (v := .int k) (ty := .int) (C := RX0) (T := TX0) (N := 12) hx hb hts tl_X0 tyX0 tyX0_ok nmX0 hown hK hPw hDw hS k9 hk9 rfl 2 (by decide) (hts _ tw_768) (fun _ h9 => h9) rfl (by decide +kernel) rfl rfl (Nat.le_of_ble_eq_true rfl) dX0_tell_12 (fun H locs hPw hDw hS => ?_)
  have hP : mw (dC, dI) vwCl A (TW cy L tr (S2 a 14 f (upd (upd (upd (a 14 f) 0 fr) 1 to) 2 k)) κ τ) H := (hbk _ _ hPw hDw).sub (tw_set (b := S2 a 14 f (upd (upd (upd (a 14 f) 0 fr) 1 to) 2 k)) (f := 14) (i := f) (x := upd (upd (upd (a 14 f) 0 fr) 1 to) 2 k) hT hi (by decide) S2_S2.symm)
  clear hbk hPw hDw hk9
  refine lv_aload_n hx hb dX0_tell_15 rfl (lv_at hl 0 rfl) ?_
  refine lv_iload hx hb dX0_tell_16 (lv_at hl 4 rfl) ?_
  obtain ⟨ws9, k9, hPw, hDw, hk9, -, hbk⟩ := hP.cut (e := .inr (0, [.int fr, .int to, .int k, .int ((a 14 f) 3), .int ((a 14 f) 4), .int ((a 14 f) 5), .int ((a 14 f) 6), .int ((a 14 f) 7), .int ((a 14 f) 8), .int ((a 14 f) 9), .int ((a 14 f) 10), .int ((a 14 f) 11)])) (tw_mem (f := 14) (i := f) hi S2_eq)
  refine va_put (D := (dC, dI)) (ci := 0) (v := .int st) (ty := .int) (C := RX0) (T := TX0) (N := 12) hx hb hts tl_X0 tyX0 tyX0_ok nmX0 hown hK hPw hDw hS k9 hk9 rfl 3 (by decide) (hts _ tw_770) (fun _ h9 => h9) rfl (by decide +kernel) rfl rfl (Nat.le_of_ble_eq_true rfl) dX0_tell_18 (fun H locs hPw hDw hS => ?_)
  have hP : mw (dC, dI) vwCl A (TW cy L tr (S2 a 14 f (upd (upd (upd (upd (a 14 f) 0 fr) 1 to) 2 k) 3 st)) κ τ) H := (hbk _ _ hPw hDw).sub (tw_set (b := S2 a 14 f (upd (upd (upd (upd (a 14 f) 0 fr) 1 to) 2 k) 3 st)) (f := 14) (i := f) (x := upd (upd (upd (upd (a 14 f) 0 fr) 1 to) 2 k) 3 st) hT hi (by decide) S2_S2.symm)
  clear hbk hPw hDw hk9
  refine lv_aload_n hx hb dX0_tell_21 rfl (lv_at hl 0 rfl) ?_
  refine lv_iload hx hb dX0_tell_22 (lv_at hl 5 rfl) ?_
  obtain ⟨ws9, k9, hPw, hDw, hk9, -, hbk⟩ := hP.cut (e := .inr (0, [.int fr, .int to, .int k, .int st, .int ((a 14 f) 4), .int ((a 14 f) 5), .int ((a 14 f) 6), .int ((a 14 f) 7), .int ((a 14 f) 8), .int ((a 14 f) 9), .int ((a 14 f) 10), .int ((a 14 f) 11)])) (tw_mem (f := 14) (i := f) hi S2_eq)
  refine va_put (D := (dC, dI)) (ci := 0) (v := .int pe) (ty := .int) (C := RX0) (T := TX0) (N := 12) hx hb hts tl_X0 tyX0 tyX0_ok nmX0 hown hK hPw hDw hS k9 hk9 rfl 4 (by decide) (hts _ tw_772) (fun _ h9 => h9) rfl (by decide +kernel) rfl rfl (Nat.le_of_ble_eq_true rfl) dX0_tell_24 (fun H locs hPw hDw hS => ?_)
  have hP : mw (dC, dI) vwCl A (TW cy L tr (S2 a 14 f (upd (upd (upd (upd (upd (a 14 f) 0 fr) 1 to) 2 k) 3 st) 4 pe)) κ τ) H := (hbk _ _ hPw hDw).sub (tw_set (b := S2 a 14 f (upd (upd (upd (upd (upd (a 14 f) 0 fr) 1 to) 2 k) 3 st) 4 pe)) (f := 14) (i := f) (x := upd (upd (upd (upd (upd (a 14 f) 0 fr) 1 to) 2 k) 3 st) 4 pe) hT hi (by decide) S2_S2.symm)
  clear hbk hPw hDw hk9
  refine lv_aload_n hx hb dX0_tell_27 rfl (lv_at hl 0 rfl) ?_
  refine lv_iload hx hb dX0_tell_28 (lv_at hl 6 rfl) ?_
  obtain ⟨ws9, k9, hPw, hDw, hk9, -, hbk⟩ := hP.cut (e := .inr (0, [.int fr, .int to, .int k, .int st, .int pe, .int ((a 14 f) 5), .int ((a 14 f) 6), .int ((a 14 f) 7), .int ((a 14 f) 8), .int ((a 14 f) 9), .int ((a 14 f) 10), .int ((a 14 f) 11)])) (tw_mem (f := 14) (i := f) hi S2_eq)
  refine va_put (D := (dC, dI)) (ci := 0) (v := .int mo) (ty := .int) (C := RX0) (T := TX0) (N := 12) hx hb hts tl_X0 tyX0 tyX0_ok nmX0 hown hK hPw hDw hS k9 hk9 rfl 5 (by decide) (hts _ tw_774) (fun _ h9 => h9) rfl (by decide +kernel) rfl rfl (Nat.le_of_ble_eq_true rfl) dX0_tell_30 (fun H locs hPw hDw hS => ?_)
  have hP : mw (dC, dI) vwCl A (TW cy L tr (S2 a 14 f (upd (upd (upd (upd (upd (upd (a 14 f) 0 fr) 1 to) 2 k) 3 st) 4 pe) 5 mo)) κ τ) H := (hbk _ _ hPw hDw).sub (tw_set (b := S2 a 14 f (upd (upd (upd (upd (upd (upd (a 14 f) 0 fr) 1 to) 2 k) 3 st) 4 pe) 5 mo)) (f := 14) (i := f) (x := upd (upd (upd (upd (upd (upd (a 14 f) 0 fr) 1 to) 2 k) 3 st) 4 pe) 5 mo) hT hi (by decide) S2_S2.symm)
  clear hbk hPw hDw hk9
  refine W.widen (k := 0) (n := 0) (Nat.le_of_ble_eq_true rfl) (Nat.le_of_ble_eq_true rfl) ?_
  have s_1 : S2 a 14 f (upd (upd (upd (upd (upd (upd (a 14 f) 0 fr) 1 to) 2 k) 3 st) 4 pe) 5 mo) = F_tell a f fr to k st pe mo := by
    first | rfl | (simp only [F_tell])
  rw [s_1] at hP
  exact W.vret hx hb hr (fun t ht hW => ⟨⟨(), rfl, trivial, (by show mw _ _ _ _ t.heap; rw [ht]; exact hP)⟩, hS.F ht⟩) hS.2.2 dX0_tell_33
set_option maxRecDepth 100000 in
set_option maxHeartbeats 4000000 in
/-- Flow.bringsIn -/
theorem c_Flow_bringsIn (l : Launch) (dC : Nat → ClassId) (dI : Nat → Nat → Nat) (cy : Nat → ClassId) (L : Lay) (tr : Option Nat) (a : St) (κ : Kap) (τ : Tau) (f : Nat) (tk : Int32) (sz : Nat) (hT : TL L tr τ) (hi : f < 10) : Met l yX0_bringsIn (tp_w yX0_bringsIn cX0_bringsIn 3 (some .boolean)) ({ frames := 0, cells := 0, slots := 0, locals := 0 }) (va_Pc [.ref (L 14 f), .int tk] (mPre dC dI cy (TW cy L tr a κ τ) sz)) (va_Qi (fun (r u : Int32) => r = u) (fun (u : Int32) (t : State) => (u = F_brings (a 14 f) tk) ∧ mw (dC, dI) vwCl (mA (TW cy L tr a κ τ) sz) (TW cy L tr a κ τ) t.heap) (mA (TW cy L tr a κ τ) sz)) (0) (0) (mA (TW cy L tr a κ τ) sz) := by
  refine Met.ofW (cc := cX0_bringsIn) (maxL := 3) (ret := (some .boolean)) (by decide) rfl ?_
  intro p e s m args below meth c s₁ B hml hv
  obtain ⟨rfl, hsz, hP, hK, hE⟩ := hv
  have hx := B.exec
  have hb := B.bytes
  have hr := B.returns
  have hts0 := atoms_spec (ws := tp_w yX0_bringsIn cX0_bringsIn 3 (some .boolean)) B.pre
  have hts : ∀ w ∈ tp_all, w.before _ s = true := fun w h => hts0 w (List.mem_cons_of_mem _ h)
  have hown : s.vm.findClass RX0 = some m.cls := findClass_of_methodNamed B.named
  have hlocks := B.notSynchronized
  subst hsz
  have hP := hP.self s.heap.size
  generalize hAe : mA (TW cy L tr a κ τ) s.heap.size = A at hP ⊢
  have hA : ∀ q : Nat, s.heap.size ≤ q → A q := fun q h => by rw [← hAe]; exact Or.inr h
  have hS : va_S A s.heap s.heap [] := va_S.rf
  have hl9 := lv_entry ([.ref (L 14 f), .int tk]) (n := 3) (Nat.le_of_ble_eq_true rfl)
  rw [lg_entry_eq]
  generalize (lg_sl ([.ref (L 14 f), .int tk]) ++ List.replicate (3 - (lg_sl ([.ref (L 14 f), .int tk])).length) Slot.unset).toArray = ls at hl9 ⊢
  have hl : lv_has ls 3 [(0, .ref (L 14 f)), (1, .int tk)] := hl9
  refine lv_iload_n hx hb dX0_bringsIn_0 rfl (lv_at hl 1 rfl) ?_
  refine lv_aload_n hx hb dX0_bringsIn_1 rfl (lv_at hl 0 rfl) ?_
  refine va_get (D := (dC, dI)) (ws := [(L 14 f, .inr (0, [.int ((a 14 f) 0), .int ((a 14 f) 1), .int ((a 14 f) 2), .int ((a 14 f) 3), .int ((a 14 f) 4), .int ((a 14 f) 5), .int ((a 14 f) 6), .int ((a 14 f) 7), .int ((a 14 f) 8), .int ((a 14 f) 9), .int ((a 14 f) 10), .int ((a 14 f) 11)]))]) (ci := 0) (v := .int ((a 14 f) 3)) (C := RX0) (T := TX0) (N := 12) hx hb hts tl_X0 hown hK (hP.one (tw_mem (f := 14) (i := f) hi rfl)) 0 rfl rfl 3 (by decide) (hts _ tw_770) (fun _ h9 => h9) rfl dX0_bringsIn_2 ?_
  refine lv_icmp_lt (tgt := 16) hx hb dX0_bringsIn_5 (by decide) (fun c_1 => ?_) (fun c_1 => ?_)
  · refine lv_iconst (v := 0) hx hb dX0_bringsIn_16 (by decide) ?_
    refine W.widen (k := 0) (n := 0) (Nat.le_of_ble_eq_true rfl) (Nat.le_of_ble_eq_true rfl) ?_
    have g_1 : 0 = F_brings (a 14 f) tk := by
      first | rfl | assumption | (simp only [F_brings, if_pos c_1])
    exact W.zret (v := 0) hx hb hr rfl (fun t ht hW => ⟨⟨0, 0, rfl, rfl, ⟨g_1, by show mw _ _ _ _ t.heap; rw [ht]; exact hP⟩⟩, hS.F ht⟩) hS.2.2 dX0_bringsIn_17
  · refine lv_aload_n hx hb dX0_bringsIn_8 rfl (lv_at hl 0 rfl) ?_
    refine va_get (D := (dC, dI)) (ws := [(L 14 f, .inr (0, [.int ((a 14 f) 0), .int ((a 14 f) 1), .int ((a 14 f) 2), .int ((a 14 f) 3), .int ((a 14 f) 4), .int ((a 14 f) 5), .int ((a 14 f) 6), .int ((a 14 f) 7), .int ((a 14 f) 8), .int ((a 14 f) 9), .int ((a 14 f) 10), .int ((a 14 f) 11)]))]) (ci := 0) (v := .int ((a 14 f) 4)) (C := RX0) (T := TX0) (N := 12) hx hb hts tl_X0 hown hK (hP.one (tw_mem (f := 14) (i := f) hi rfl)) 0 rfl rfl 4 (by decide) (hts _ tw_772) (fun _ h9 => h9) rfl dX0_bringsIn_9 ?_
    refine lv_iconst (v := 1) hx hb dX0_bringsIn_12 (by decide) ?_
    refine lv_icmp_ge (tgt := 18) hx hb dX0_bringsIn_13 (by decide) (fun c_2 => ?_) (fun c_2 => ?_)
    · refine lv_iload_n hx hb dX0_bringsIn_18 rfl (lv_at hl 1 rfl) ?_
      refine lv_aload_n hx hb dX0_bringsIn_19 rfl (lv_at hl 0 rfl) ?_
      refine va_get (D := (dC, dI)) (ws := [(L 14 f, .inr (0, [.int ((a 14 f) 0), .int ((a 14 f) 1), .int ((a 14 f) 2), .int ((a 14 f) 3), .int ((a 14 f) 4), .int ((a 14 f) 5), .int ((a 14 f) 6), .int ((a 14 f) 7), .int ((a 14 f) 8), .int ((a 14 f) 9), .int ((a 14 f) 10), .int ((a 14 f) 11)]))]) (ci := 0) (v := .int ((a 14 f) 3)) (C := RX0) (T := TX0) (N := 12) hx hb hts tl_X0 hown hK (hP.one (tw_mem (f := 14) (i := f) hi rfl)) 0 rfl rfl 3 (by decide) (hts _ tw_770) (fun _ h9 => h9) rfl dX0_bringsIn_20 ?_
      refine lv_isub hx hb dX0_bringsIn_23 ?_
      refine lv_istore_n (lv' := [(2, .int (tk - ((a 14 f) 3))), (0, .ref (L 14 f)), (1, .int tk)]) hx hb dX0_bringsIn_24 rfl hl (by decide) rfl (fun ls hl => ?_)
      refine lv_iload_n hx hb dX0_bringsIn_25 rfl (lv_at hl 0 rfl) ?_
      refine lv_aload_n hx hb dX0_bringsIn_26 rfl (lv_at hl 1 rfl) ?_
      refine va_get (D := (dC, dI)) (ws := [(L 14 f, .inr (0, [.int ((a 14 f) 0), .int ((a 14 f) 1), .int ((a 14 f) 2), .int ((a 14 f) 3), .int ((a 14 f) 4), .int ((a 14 f) 5), .int ((a 14 f) 6), .int ((a 14 f) 7), .int ((a 14 f) 8), .int ((a 14 f) 9), .int ((a 14 f) 10), .int ((a 14 f) 11)]))]) (ci := 0) (v := .int ((a 14 f) 4)) (C := RX0) (T := TX0) (N := 12) hx hb hts tl_X0 hown hK (hP.one (tw_mem (f := 14) (i := f) hi rfl)) 0 rfl rfl 4 (by decide) (hts _ tw_772) (fun _ h9 => h9) rfl dX0_bringsIn_27 ?_
      refine lv_irem hx hb dX0_bringsIn_30 (m_ge1 c_2) ?_
      refine lv_if_ne (tgt := 51) hx hb dX0_bringsIn_31 (by decide) (fun c_3 => ?_) (fun c_3 => ?_)
      · refine lv_iconst (v := 0) hx hb dX0_bringsIn_51 (by decide) ?_
        refine W.widen (k := 0) (n := 0) (Nat.le_of_ble_eq_true rfl) (Nat.le_of_ble_eq_true rfl) ?_
        have g_2 : 0 = F_brings (a 14 f) tk := by
          first | rfl | assumption | (simp only [F_brings, if_neg c_1, if_pos c_2, if_neg c_3])
        exact W.zret (v := 0) hx hb hr rfl (fun t ht hW => ⟨⟨0, 0, rfl, rfl, ⟨g_2, by show mw _ _ _ _ t.heap; rw [ht]; exact hP⟩⟩, hS.F ht⟩) hS.2.2 dX0_bringsIn_52
      · refine lv_iload_n hx hb dX0_bringsIn_34 rfl (lv_at hl 0 rfl) ?_
        refine lv_aload_n hx hb dX0_bringsIn_35 rfl (lv_at hl 1 rfl) ?_
        refine va_get (D := (dC, dI)) (ws := [(L 14 f, .inr (0, [.int ((a 14 f) 0), .int ((a 14 f) 1), .int ((a 14 f) 2), .int ((a 14 f) 3), .int ((a 14 f) 4), .int ((a 14 f) 5), .int ((a 14 f) 6), .int ((a 14 f) 7), .int ((a 14 f) 8), .int ((a 14 f) 9), .int ((a 14 f) 10), .int ((a 14 f) 11)]))]) (ci := 0) (v := .int ((a 14 f) 4)) (C := RX0) (T := TX0) (N := 12) hx hb hts tl_X0 hown hK (hP.one (tw_mem (f := 14) (i := f) hi rfl)) 0 rfl rfl 4 (by decide) (hts _ tw_772) (fun _ h9 => h9) rfl dX0_bringsIn_36 ?_
        refine lv_idiv hx hb dX0_bringsIn_39 (m_ge1 c_2) ?_
        refine lv_aload_n hx hb dX0_bringsIn_40 rfl (lv_at hl 1 rfl) ?_
        refine va_get (D := (dC, dI)) (ws := [(L 14 f, .inr (0, [.int ((a 14 f) 0), .int ((a 14 f) 1), .int ((a 14 f) 2), .int ((a 14 f) 3), .int ((a 14 f) 4), .int ((a 14 f) 5), .int ((a 14 f) 6), .int ((a 14 f) 7), .int ((a 14 f) 8), .int ((a 14 f) 9), .int ((a 14 f) 10), .int ((a 14 f) 11)]))]) (ci := 0) (v := .int ((a 14 f) 5)) (C := RX0) (T := TX0) (N := 12) hx hb hts tl_X0 hown hK (hP.one (tw_mem (f := 14) (i := f) hi rfl)) 0 rfl rfl 5 (by decide) (hts _ tw_774) (fun _ h9 => h9) rfl dX0_bringsIn_41 ?_
        refine lv_icmp_ge (tgt := 51) hx hb dX0_bringsIn_44 (by decide) (fun c_4 => ?_) (fun c_4 => ?_)
        · refine lv_iconst (v := 0) hx hb dX0_bringsIn_51 (by decide) ?_
          refine W.widen (k := 0) (n := 0) (Nat.le_of_ble_eq_true rfl) (Nat.le_of_ble_eq_true rfl) ?_
          have g_3 : 0 = F_brings (a 14 f) tk := by
            first | rfl | assumption | (simp only [F_brings, if_neg c_1, if_pos c_2, if_pos c_3, if_pos c_4])
          exact W.zret (v := 0) hx hb hr rfl (fun t ht hW => ⟨⟨0, 0, rfl, rfl, ⟨g_3, by show mw _ _ _ _ t.heap; rw [ht]; exact hP⟩⟩, hS.F ht⟩) hS.2.2 dX0_bringsIn_52
        · refine lv_iconst (v := 1) hx hb dX0_bringsIn_47 (by decide) ?_
          refine lv_goto (tgt := 52) hx hb dX0_bringsIn_48 (by decide) ?_
          refine W.widen (k := 0) (n := 0) (Nat.le_of_ble_eq_true rfl) (Nat.le_of_ble_eq_true rfl) ?_
          have g_4 : 1 = F_brings (a 14 f) tk := by
            first | rfl | assumption | (simp only [F_brings, if_neg c_1, if_pos c_2, if_pos c_3, if_neg c_4])
          exact W.zret (v := 1) hx hb hr rfl (fun t ht hW => ⟨⟨1, 1, rfl, rfl, ⟨g_4, by show mw _ _ _ _ t.heap; rw [ht]; exact hP⟩⟩, hS.F ht⟩) hS.2.2 dX0_bringsIn_52
    · refine lv_iconst (v := 0) hx hb dX0_bringsIn_16 (by decide) ?_
      refine W.widen (k := 0) (n := 0) (Nat.le_of_ble_eq_true rfl) (Nat.le_of_ble_eq_true rfl) ?_
      have g_5 : 0 = F_brings (a 14 f) tk := by
        first | rfl | assumption | (simp only [F_brings, if_neg c_1, if_neg c_2])
      exact W.zret (v := 0) hx hb hr rfl (fun t ht hW => ⟨⟨0, 0, rfl, rfl, ⟨g_5, by show mw _ _ _ _ t.heap; rw [ht]; exact hP⟩⟩, hS.F ht⟩) hS.2.2 dX0_bringsIn_17
set_option maxRecDepth 100000 in
set_option maxHeartbeats 4000000 in
/-- Flow.countTrip -/
theorem c_Flow_countTrip (l : Launch) (dC : Nat → ClassId) (dI : Nat → Nat → Nat) (cy : Nat → ClassId) (L : Lay) (tr : Option Nat) (a : St) (κ : Kap) (τ : Tau) (f : Nat) (tk : Int32) (dl : Int32) (sz : Nat) (hT : TL L tr τ) (hi : f < 10) : Met l yX0_countTrip (tp_w yX0_countTrip cX0_countTrip 3 none) ({ frames := 1, cells := 0, slots := 0, locals := 14 }) (va_Pc [.ref (L 14 f), .int tk, .int dl] (mPre dC dI cy (TW cy L tr a κ τ) sz)) (va_Qv (fun _ : Unit => True) (fun (_ : Unit) (t : State) => mw (dC, dI) vwCl (mA (TW cy L tr a κ τ) sz) (TW cy L tr (F_trip a f tk dl) κ τ) t.heap) (mA (TW cy L tr a κ τ) sz)) (0) (0) (mA (TW cy L tr a κ τ) sz) := by
  refine Met.ofW (cc := cX0_countTrip) (maxL := 3) (ret := none) (by decide) rfl ?_
  intro p e s m args below meth c s₁ B hml hv
  obtain ⟨rfl, hsz, hP, hK, hE⟩ := hv
  have hx := B.exec
  have hb := B.bytes
  have hr := B.returns
  have hts0 := atoms_spec (ws := tp_w yX0_countTrip cX0_countTrip 3 none) B.pre
  have hts : ∀ w ∈ tp_all, w.before _ s = true := fun w h => hts0 w (List.mem_cons_of_mem _ h)
  have hown : s.vm.findClass RX0 = some m.cls := findClass_of_methodNamed B.named
  have hlocks := B.notSynchronized
  subst hsz
  have hP := hP.self s.heap.size
  generalize hAe : mA (TW cy L tr a κ τ) s.heap.size = A at hP ⊢
  have hA : ∀ q : Nat, s.heap.size ≤ q → A q := fun q h => by rw [← hAe]; exact Or.inr h
  have hS : va_S A s.heap s.heap [] := va_S.rf
  have hl9 := lv_entry ([.ref (L 14 f), .int tk, .int dl]) (n := 3) (Nat.le_of_ble_eq_true rfl)
  rw [lg_entry_eq]
  generalize (lg_sl ([.ref (L 14 f), .int tk, .int dl]) ++ List.replicate (3 - (lg_sl ([.ref (L 14 f), .int tk, .int dl])).length) Slot.unset).toArray = ls at hl9 ⊢
  have hl : lv_has ls 3 [(0, .ref (L 14 f)), (1, .int tk), (2, .int dl)] := hl9
  refine lv_aload_n hx hb dX0_countTrip_0 rfl (lv_at hl 0 rfl) ?_
  refine lv_dup hx hb dX0_countTrip_1 rfl ?_
  refine va_get (D := (dC, dI)) (ws := [(L 14 f, .inr (0, [.int ((a 14 f) 0), .int ((a 14 f) 1), .int ((a 14 f) 2), .int ((a 14 f) 3), .int ((a 14 f) 4), .int ((a 14 f) 5), .int ((a 14 f) 6), .int ((a 14 f) 7), .int ((a 14 f) 8), .int ((a 14 f) 9), .int ((a 14 f) 10), .int ((a 14 f) 11)]))]) (ci := 0) (v := .int ((a 14 f) 7)) (C := RX0) (T := TX0) (N := 12) hx hb hts tl_X0 hown hK (hP.one (tw_mem (f := 14) (i := f) hi rfl)) 0 rfl rfl 7 (by decide) (hts _ tw_778) (fun _ h9 => h9) rfl dX0_countTrip_2 ?_
  refine lv_iconst (v := 1) hx hb dX0_countTrip_5 (by decide) ?_
  refine lv_iadd hx hb dX0_countTrip_6 ?_
  obtain ⟨ws9, k9, hPw, hDw, hk9, -, hbk⟩ := hP.cut (e := .inr (0, [.int ((a 14 f) 0), .int ((a 14 f) 1), .int ((a 14 f) 2), .int ((a 14 f) 3), .int ((a 14 f) 4), .int ((a 14 f) 5), .int ((a 14 f) 6), .int ((a 14 f) 7), .int ((a 14 f) 8), .int ((a 14 f) 9), .int ((a 14 f) 10), .int ((a 14 f) 11)])) (tw_mem (f := 14) (i := f) hi rfl)
  refine va_put (D := (dC, dI)) (ci := 0) (v := .int (((a 14 f) 7) + 1)) (ty := .int) (C := RX0) (T := TX0) (N := 12) hx hb hts tl_X0 tyX0 tyX0_ok nmX0 hown hK hPw hDw hS k9 hk9 rfl 7 (by decide) (hts _ tw_778) (fun _ h9 => h9) rfl (by decide +kernel) rfl rfl (Nat.le_of_ble_eq_true rfl) dX0_countTrip_7 (fun H locs hPw hDw hS => ?_)
  have hP : mw (dC, dI) vwCl A (TW cy L tr (S2 a 14 f (upd (a 14 f) 7 (((a 14 f) 7) + 1))) κ τ) H := (hbk _ _ hPw hDw).sub (tw_set (b := S2 a 14 f (upd (a 14 f) 7 (((a 14 f) 7) + 1))) (f := 14) (i := f) (x := upd (a 14 f) 7 (((a 14 f) 7) + 1)) hT hi (by decide) rfl)
  clear hbk hPw hDw hk9
  refine lv_aload_n hx hb dX0_countTrip_10 rfl (lv_at hl 0 rfl) ?_
  refine lv_dup hx hb dX0_countTrip_11 rfl ?_
  refine va_get (D := (dC, dI)) (ws := [(L 14 f, .inr (0, [.int ((a 14 f) 0), .int ((a 14 f) 1), .int ((a 14 f) 2), .int ((a 14 f) 3), .int ((a 14 f) 4), .int ((a 14 f) 5), .int ((a 14 f) 6), .int (((a 14 f) 7) + 1), .int ((a 14 f) 8), .int ((a 14 f) 9), .int ((a 14 f) 10), .int ((a 14 f) 11)]))]) (ci := 0) (v := .int ((a 14 f) 9)) (C := RX0) (T := TX0) (N := 12) hx hb hts tl_X0 hown hK (hP.one (tw_mem (f := 14) (i := f) hi S2_eq)) 0 rfl rfl 9 (by decide) (hts _ tw_782) (fun _ h9 => h9) rfl dX0_countTrip_12 ?_
  refine lv_iload_n hx hb dX0_countTrip_15 rfl (lv_at hl 1 rfl) ?_
  refine lv_iadd hx hb dX0_countTrip_16 ?_
  obtain ⟨ws9, k9, hPw, hDw, hk9, -, hbk⟩ := hP.cut (e := .inr (0, [.int ((a 14 f) 0), .int ((a 14 f) 1), .int ((a 14 f) 2), .int ((a 14 f) 3), .int ((a 14 f) 4), .int ((a 14 f) 5), .int ((a 14 f) 6), .int (((a 14 f) 7) + 1), .int ((a 14 f) 8), .int ((a 14 f) 9), .int ((a 14 f) 10), .int ((a 14 f) 11)])) (tw_mem (f := 14) (i := f) hi S2_eq)
  refine va_put (D := (dC, dI)) (ci := 0) (v := .int (((a 14 f) 9) + tk)) (ty := .int) (C := RX0) (T := TX0) (N := 12) hx hb hts tl_X0 tyX0 tyX0_ok nmX0 hown hK hPw hDw hS k9 hk9 rfl 9 (by decide) (hts _ tw_782) (fun _ h9 => h9) rfl (by decide +kernel) rfl rfl (Nat.le_of_ble_eq_true rfl) dX0_countTrip_17 (fun H locs hPw hDw hS => ?_)
  have hP : mw (dC, dI) vwCl A (TW cy L tr (S2 a 14 f (upd (upd (a 14 f) 7 (((a 14 f) 7) + 1)) 9 (((a 14 f) 9) + tk))) κ τ) H := (hbk _ _ hPw hDw).sub (tw_set (b := S2 a 14 f (upd (upd (a 14 f) 7 (((a 14 f) 7) + 1)) 9 (((a 14 f) 9) + tk))) (f := 14) (i := f) (x := upd (upd (a 14 f) 7 (((a 14 f) 7) + 1)) 9 (((a 14 f) 9) + tk)) hT hi (by decide) S2_S2.symm)
  clear hbk hPw hDw hk9
  refine lv_aload_n hx hb dX0_countTrip_20 rfl (lv_at hl 0 rfl) ?_
  refine lv_dup hx hb dX0_countTrip_21 rfl ?_
  refine va_get (D := (dC, dI)) (ws := [(L 14 f, .inr (0, [.int ((a 14 f) 0), .int ((a 14 f) 1), .int ((a 14 f) 2), .int ((a 14 f) 3), .int ((a 14 f) 4), .int ((a 14 f) 5), .int ((a 14 f) 6), .int (((a 14 f) 7) + 1), .int ((a 14 f) 8), .int (((a 14 f) 9) + tk), .int ((a 14 f) 10), .int ((a 14 f) 11)]))]) (ci := 0) (v := .int ((a 14 f) 10)) (C := RX0) (T := TX0) (N := 12) hx hb hts tl_X0 hown hK (hP.one (tw_mem (f := 14) (i := f) hi S2_eq)) 0 rfl rfl 10 (by decide) (hts _ tw_784) (fun _ h9 => h9) rfl dX0_countTrip_22 ?_
  refine lv_iload_n hx hb dX0_countTrip_25 rfl (lv_at hl 2 rfl) ?_
  refine lv_iadd hx hb dX0_countTrip_26 ?_
  obtain ⟨ws9, k9, hPw, hDw, hk9, -, hbk⟩ := hP.cut (e := .inr (0, [.int ((a 14 f) 0), .int ((a 14 f) 1), .int ((a 14 f) 2), .int ((a 14 f) 3), .int ((a 14 f) 4), .int ((a 14 f) 5), .int ((a 14 f) 6), .int (((a 14 f) 7) + 1), .int ((a 14 f) 8), .int (((a 14 f) 9) + tk), .int ((a 14 f) 10), .int ((a 14 f) 11)])) (tw_mem (f := 14) (i := f) hi S2_eq)
  refine va_put (D := (dC, dI)) (ci := 0) (v := .int (((a 14 f) 10) + dl)) (ty := .int) (C := RX0) (T := TX0) (N := 12) hx hb hts tl_X0 tyX0 tyX0_ok nmX0 hown hK hPw hDw hS k9 hk9 rfl 10 (by decide) (hts _ tw_784) (fun _ h9 => h9) rfl (by decide +kernel) rfl rfl (Nat.le_of_ble_eq_true rfl) dX0_countTrip_27 (fun H locs hPw hDw hS => ?_)
  have hP : mw (dC, dI) vwCl A (TW cy L tr (S2 a 14 f (upd (upd (upd (a 14 f) 7 (((a 14 f) 7) + 1)) 9 (((a 14 f) 9) + tk)) 10 (((a 14 f) 10) + dl))) κ τ) H := (hbk _ _ hPw hDw).sub (tw_set (b := S2 a 14 f (upd (upd (upd (a 14 f) 7 (((a 14 f) 7) + 1)) 9 (((a 14 f) 9) + tk)) 10 (((a 14 f) 10) + dl))) (f := 14) (i := f) (x := upd (upd (upd (a 14 f) 7 (((a 14 f) 7) + 1)) 9 (((a 14 f) 9) + tk)) 10 (((a 14 f) 10) + dl)) hT hi (by decide) S2_S2.symm)
  clear hbk hPw hDw hk9
  refine lv_aload_n hx hb dX0_countTrip_30 rfl (lv_at hl 0 rfl) ?_
  refine lv_aload_n hx hb dX0_countTrip_31 rfl (lv_at hl 0 rfl) ?_
  refine va_get (D := (dC, dI)) (ws := [(L 14 f, .inr (0, [.int ((a 14 f) 0), .int ((a 14 f) 1), .int ((a 14 f) 2), .int ((a 14 f) 3), .int ((a 14 f) 4), .int ((a 14 f) 5), .int ((a 14 f) 6), .int (((a 14 f) 7) + 1), .int ((a 14 f) 8), .int (((a 14 f) 9) + tk), .int (((a 14 f) 10) + dl), .int ((a 14 f) 11)]))]) (ci := 0) (v := .int ((a 14 f) 11)) (C := RX0) (T := TX0) (N := 12) hx hb hts tl_X0 hown hK (hP.one (tw_mem (f := 14) (i := f) hi S2_eq)) 0 rfl rfl 11 (by decide) (hts _ tw_786) (fun _ h9 => h9) rfl dX0_countTrip_32 ?_
  refine lv_iload_n hx hb dX0_countTrip_35 rfl (lv_at hl 1 rfl) ?_
  refine va_mmax hx hb (hml.trans hl.1.symm) hown (hts _ tw_291) (hts _ tw_292) (hts _ tw_25) (hts _ tw_293) (Nat.le_of_ble_eq_true rfl) (Nat.le_of_ble_eq_true rfl) (Nat.le_of_ble_eq_true rfl) (Nat.le_of_ble_eq_true rfl) dX0_countTrip_36 ?_
  obtain ⟨ws9, k9, hPw, hDw, hk9, -, hbk⟩ := hP.cut (e := .inr (0, [.int ((a 14 f) 0), .int ((a 14 f) 1), .int ((a 14 f) 2), .int ((a 14 f) 3), .int ((a 14 f) 4), .int ((a 14 f) 5), .int ((a 14 f) 6), .int (((a 14 f) 7) + 1), .int ((a 14 f) 8), .int (((a 14 f) 9) + tk), .int (((a 14 f) 10) + dl), .int ((a 14 f) 11)])) (tw_mem (f := 14) (i := f) hi S2_eq)
  refine va_put (D := (dC, dI)) (ci := 0) (v := .int (if ((a 14 f) 11) < tk then tk else ((a 14 f) 11))) (ty := .int) (C := RX0) (T := TX0) (N := 12) hx hb hts tl_X0 tyX0 tyX0_ok nmX0 hown hK hPw hDw hS k9 hk9 rfl 11 (by decide) (hts _ tw_786) (fun _ h9 => h9) rfl (by decide +kernel) rfl rfl (Nat.le_of_ble_eq_true rfl) dX0_countTrip_39 (fun H locs hPw hDw hS => ?_)
  have hP : mw (dC, dI) vwCl A (TW cy L tr (S2 a 14 f (upd (upd (upd (upd (a 14 f) 7 (((a 14 f) 7) + 1)) 9 (((a 14 f) 9) + tk)) 10 (((a 14 f) 10) + dl)) 11 (if ((a 14 f) 11) < tk then tk else ((a 14 f) 11)))) κ τ) H := (hbk _ _ hPw hDw).sub (tw_set (b := S2 a 14 f (upd (upd (upd (upd (a 14 f) 7 (((a 14 f) 7) + 1)) 9 (((a 14 f) 9) + tk)) 10 (((a 14 f) 10) + dl)) 11 (if ((a 14 f) 11) < tk then tk else ((a 14 f) 11)))) (f := 14) (i := f) (x := upd (upd (upd (upd (a 14 f) 7 (((a 14 f) 7) + 1)) 9 (((a 14 f) 9) + tk)) 10 (((a 14 f) 10) + dl)) 11 (if ((a 14 f) 11) < tk then tk else ((a 14 f) 11))) hT hi (by decide) S2_S2.symm)
  clear hbk hPw hDw hk9
  refine W.widen (k := 0) (n := 0) (Nat.le_of_ble_eq_true rfl) (Nat.le_of_ble_eq_true rfl) ?_
  have s_1 : S2 a 14 f (upd (upd (upd (upd (a 14 f) 7 (((a 14 f) 7) + 1)) 9 (((a 14 f) 9) + tk)) 10 (((a 14 f) 10) + dl)) 11 (if ((a 14 f) 11) < tk then tk else ((a 14 f) 11))) = F_trip a f tk dl := by
    first | rfl | (simp only [F_trip, X_trip])
  rw [s_1] at hP
  exact W.vret hx hb hr (fun t ht hW => ⟨⟨(), rfl, trivial, (by show mw _ _ _ _ t.heap; rw [ht]; exact hP)⟩, hS.F ht⟩) hS.2.2 dX0_countTrip_42
set_option maxRecDepth 100000 in
set_option maxHeartbeats 4000000 in
/-- Vehicle.come -/
theorem c_Vehicle_come (l : Launch) (dC : Nat → ClassId) (dI : Nat → Nat → Nat) (cy : Nat → ClassId) (L : Lay) (tr : Option Nat) (a : St) (κ : Kap) (τ : Tau) (v : Nat) (fl : Int32) (to : Int32) (k : Int32) (tk : Int32) (sz : Nat) (hT : TL L tr τ) (hi : v < 200) : Met l yX7_come (tp_w yX7_come cX7_come 5 none) ({ frames := 0, cells := 0, slots := 0, locals := 0 }) (va_Pc [.ref (L 15 v), .int fl, .int to, .int k, .int tk] (mPre dC dI cy (TW cy L tr a κ τ) sz)) (va_Qv (fun _ : Unit => True) (fun (_ : Unit) (t : State) => mw (dC, dI) vwCl (mA (TW cy L tr a κ τ) sz) (TW cy L tr (V_come a v fl to k tk) κ τ) t.heap) (mA (TW cy L tr a κ τ) sz)) (0) (0) (mA (TW cy L tr a κ τ) sz) := by
  refine Met.ofW (cc := cX7_come) (maxL := 5) (ret := none) (by decide) rfl ?_
  intro p e s m args below meth c s₁ B hml hv
  obtain ⟨rfl, hsz, hP, hK, hE⟩ := hv
  have hx := B.exec
  have hb := B.bytes
  have hr := B.returns
  have hts0 := atoms_spec (ws := tp_w yX7_come cX7_come 5 none) B.pre
  have hts : ∀ w ∈ tp_all, w.before _ s = true := fun w h => hts0 w (List.mem_cons_of_mem _ h)
  have hown : s.vm.findClass RX7 = some m.cls := findClass_of_methodNamed B.named
  have hlocks := B.notSynchronized
  subst hsz
  have hP := hP.self s.heap.size
  generalize hAe : mA (TW cy L tr a κ τ) s.heap.size = A at hP ⊢
  have hA : ∀ q : Nat, s.heap.size ≤ q → A q := fun q h => by rw [← hAe]; exact Or.inr h
  have hS : va_S A s.heap s.heap [] := va_S.rf
  have hl9 := lv_entry ([.ref (L 15 v), .int fl, .int to, .int k, .int tk]) (n := 5) (Nat.le_of_ble_eq_true rfl)
  rw [lg_entry_eq]
  generalize (lg_sl ([.ref (L 15 v), .int fl, .int to, .int k, .int tk]) ++ List.replicate (5 - (lg_sl ([.ref (L 15 v), .int fl, .int to, .int k, .int tk])).length) Slot.unset).toArray = ls at hl9 ⊢
  have hl : lv_has ls 5 [(0, .ref (L 15 v)), (1, .int fl), (2, .int to), (3, .int k), (4, .int tk)] := hl9
  refine lv_aload_n hx hb dX7_come_0 rfl (lv_at hl 0 rfl) ?_
  refine lv_iload_n hx hb dX7_come_1 rfl (lv_at hl 1 rfl) ?_
  obtain ⟨ws9, k9, hPw, hDw, hk9, -, hbk⟩ := hP.cut (e := .inr (7, [.int ((a 15 v) 0), .int ((a 15 v) 1), .int ((a 15 v) 2), .int ((a 15 v) 3), .int ((a 15 v) 4), .int ((a 15 v) 5), .int ((a 15 v) 6), .int ((a 15 v) 7), .int ((a 15 v) 8), .int ((a 15 v) 9), .int ((a 15 v) 10), .int ((a 15 v) 11), .ref (L 16 v)])) (tw_mem (f := 15) (i := v) hi rfl)
  refine va_put (D := (dC, dI)) (ci := 7) (v := .int fl) (ty := .int) (C := RX7) (T := TX7) (N := 13) hx hb hts tl_X7 tyX7 tyX7_ok nmX7 hown hK hPw hDw hS k9 hk9 rfl 0 (by decide) (hts _ tw_818) (fun _ h9 => h9) rfl (by decide +kernel) rfl rfl (Nat.le_of_ble_eq_true rfl) dX7_come_2 (fun H locs hPw hDw hS => ?_)
  have hP : mw (dC, dI) vwCl A (TW cy L tr (S2 a 15 v (upd (a 15 v) 0 fl)) κ τ) H := (hbk _ _ hPw hDw).sub (tw_set (b := S2 a 15 v (upd (a 15 v) 0 fl)) (f := 15) (i := v) (x := upd (a 15 v) 0 fl) hT hi (by decide) rfl)
  clear hbk hPw hDw hk9
  refine lv_aload_n hx hb dX7_come_5 rfl (lv_at hl 0 rfl) ?_
  refine lv_iload_n hx hb dX7_come_6 rfl (lv_at hl 2 rfl) ?_
  obtain ⟨ws9, k9, hPw, hDw, hk9, -, hbk⟩ := hP.cut (e := .inr (7, [.int fl, .int ((a 15 v) 1), .int ((a 15 v) 2), .int ((a 15 v) 3), .int ((a 15 v) 4), .int ((a 15 v) 5), .int ((a 15 v) 6), .int ((a 15 v) 7), .int ((a 15 v) 8), .int ((a 15 v) 9), .int ((a 15 v) 10), .int ((a 15 v) 11), .ref (L 16 v)])) (tw_mem (f := 15) (i := v) hi S2_eq)
  refine va_put (D := (dC, dI)) (ci := 7) (v := .int to) (ty := .int) (C := RX7) (T := TX7) (N := 13) hx hb hts tl_X7 tyX7 tyX7_ok nmX7 hown hK hPw hDw hS k9 hk9 rfl 1 (by decide) (hts _ tw_820) (fun _ h9 => h9) rfl (by decide +kernel) rfl rfl (Nat.le_of_ble_eq_true rfl) dX7_come_7 (fun H locs hPw hDw hS => ?_)
  have hP : mw (dC, dI) vwCl A (TW cy L tr (S2 a 15 v (upd (upd (a 15 v) 0 fl) 1 to)) κ τ) H := (hbk _ _ hPw hDw).sub (tw_set (b := S2 a 15 v (upd (upd (a 15 v) 0 fl) 1 to)) (f := 15) (i := v) (x := upd (upd (a 15 v) 0 fl) 1 to) hT hi (by decide) S2_S2.symm)
  clear hbk hPw hDw hk9
  refine lv_aload_n hx hb dX7_come_10 rfl (lv_at hl 0 rfl) ?_
  refine lv_iload_n hx hb dX7_come_11 rfl (lv_at hl 3 rfl) ?_
  obtain ⟨ws9, k9, hPw, hDw, hk9, -, hbk⟩ := hP.cut (e := .inr (7, [.int fl, .int to, .int ((a 15 v) 2), .int ((a 15 v) 3), .int ((a 15 v) 4), .int ((a 15 v) 5), .int ((a 15 v) 6), .int ((a 15 v) 7), .int ((a 15 v) 8), .int ((a 15 v) 9), .int ((a 15 v) 10), .int ((a 15 v) 11), .ref (L 16 v)])) (tw_mem (f := 15) (i := v) hi S2_eq)
  refine va_put (D := (dC, dI)) (ci := 7) (v := .int k) (ty := .int) (C := RX7) (T := TX7) (N := 13) hx hb hts tl_X7 tyX7 tyX7_ok nmX7 hown hK hPw hDw hS k9 hk9 rfl 2 (by decide) (hts _ tw_823) (fun _ h9 => h9) rfl (by decide +kernel) rfl rfl (Nat.le_of_ble_eq_true rfl) dX7_come_12 (fun H locs hPw hDw hS => ?_)
  have hP : mw (dC, dI) vwCl A (TW cy L tr (S2 a 15 v (upd (upd (upd (a 15 v) 0 fl) 1 to) 2 k)) κ τ) H := (hbk _ _ hPw hDw).sub (tw_set (b := S2 a 15 v (upd (upd (upd (a 15 v) 0 fl) 1 to) 2 k)) (f := 15) (i := v) (x := upd (upd (upd (a 15 v) 0 fl) 1 to) 2 k) hT hi (by decide) S2_S2.symm)
  clear hbk hPw hDw hk9
  refine lv_aload_n hx hb dX7_come_15 rfl (lv_at hl 0 rfl) ?_
  refine lv_iconst (v := 0) hx hb dX7_come_16 (by decide) ?_
  obtain ⟨ws9, k9, hPw, hDw, hk9, -, hbk⟩ := hP.cut (e := .inr (7, [.int fl, .int to, .int k, .int ((a 15 v) 3), .int ((a 15 v) 4), .int ((a 15 v) 5), .int ((a 15 v) 6), .int ((a 15 v) 7), .int ((a 15 v) 8), .int ((a 15 v) 9), .int ((a 15 v) 10), .int ((a 15 v) 11), .ref (L 16 v)])) (tw_mem (f := 15) (i := v) hi S2_eq)
  refine va_put (D := (dC, dI)) (ci := 7) (v := .int 0) (ty := .int) (C := RX7) (T := TX7) (N := 13) hx hb hts tl_X7 tyX7 tyX7_ok nmX7 hown hK hPw hDw hS k9 hk9 rfl 3 (by decide) (hts _ tw_825) (fun _ h9 => h9) rfl (by decide +kernel) rfl rfl (Nat.le_of_ble_eq_true rfl) dX7_come_17 (fun H locs hPw hDw hS => ?_)
  have hP : mw (dC, dI) vwCl A (TW cy L tr (S2 a 15 v (upd (upd (upd (upd (a 15 v) 0 fl) 1 to) 2 k) 3 0)) κ τ) H := (hbk _ _ hPw hDw).sub (tw_set (b := S2 a 15 v (upd (upd (upd (upd (a 15 v) 0 fl) 1 to) 2 k) 3 0)) (f := 15) (i := v) (x := upd (upd (upd (upd (a 15 v) 0 fl) 1 to) 2 k) 3 0) hT hi (by decide) S2_S2.symm)
  clear hbk hPw hDw hk9
  refine lv_aload_n hx hb dX7_come_20 rfl (lv_at hl 0 rfl) ?_
  refine lv_iload hx hb dX7_come_21 (lv_at hl 4 rfl) ?_
  obtain ⟨ws9, k9, hPw, hDw, hk9, -, hbk⟩ := hP.cut (e := .inr (7, [.int fl, .int to, .int k, .int 0, .int ((a 15 v) 4), .int ((a 15 v) 5), .int ((a 15 v) 6), .int ((a 15 v) 7), .int ((a 15 v) 8), .int ((a 15 v) 9), .int ((a 15 v) 10), .int ((a 15 v) 11), .ref (L 16 v)])) (tw_mem (f := 15) (i := v) hi S2_eq)
  refine va_put (D := (dC, dI)) (ci := 7) (v := .int tk) (ty := .int) (C := RX7) (T := TX7) (N := 13) hx hb hts tl_X7 tyX7 tyX7_ok nmX7 hown hK hPw hDw hS k9 hk9 rfl 4 (by decide) (hts _ tw_828) (fun _ h9 => h9) rfl (by decide +kernel) rfl rfl (Nat.le_of_ble_eq_true rfl) dX7_come_23 (fun H locs hPw hDw hS => ?_)
  have hP : mw (dC, dI) vwCl A (TW cy L tr (S2 a 15 v (upd (upd (upd (upd (upd (a 15 v) 0 fl) 1 to) 2 k) 3 0) 4 tk)) κ τ) H := (hbk _ _ hPw hDw).sub (tw_set (b := S2 a 15 v (upd (upd (upd (upd (upd (a 15 v) 0 fl) 1 to) 2 k) 3 0) 4 tk)) (f := 15) (i := v) (x := upd (upd (upd (upd (upd (a 15 v) 0 fl) 1 to) 2 k) 3 0) 4 tk) hT hi (by decide) S2_S2.symm)
  clear hbk hPw hDw hk9
  refine lv_aload_n hx hb dX7_come_26 rfl (lv_at hl 0 rfl) ?_
  refine lv_iconst (v := -1) hx hb dX7_come_27 (by decide) ?_
  obtain ⟨ws9, k9, hPw, hDw, hk9, -, hbk⟩ := hP.cut (e := .inr (7, [.int fl, .int to, .int k, .int 0, .int tk, .int ((a 15 v) 5), .int ((a 15 v) 6), .int ((a 15 v) 7), .int ((a 15 v) 8), .int ((a 15 v) 9), .int ((a 15 v) 10), .int ((a 15 v) 11), .ref (L 16 v)])) (tw_mem (f := 15) (i := v) hi S2_eq)
  refine va_put (D := (dC, dI)) (ci := 7) (v := .int ((-1))) (ty := .int) (C := RX7) (T := TX7) (N := 13) hx hb hts tl_X7 tyX7 tyX7_ok nmX7 hown hK hPw hDw hS k9 hk9 rfl 5 (by decide) (hts _ tw_829) (fun _ h9 => h9) rfl (by decide +kernel) rfl rfl (Nat.le_of_ble_eq_true rfl) dX7_come_28 (fun H locs hPw hDw hS => ?_)
  have hP : mw (dC, dI) vwCl A (TW cy L tr (S2 a 15 v (upd (upd (upd (upd (upd (upd (a 15 v) 0 fl) 1 to) 2 k) 3 0) 4 tk) 5 ((-1)))) κ τ) H := (hbk _ _ hPw hDw).sub (tw_set (b := S2 a 15 v (upd (upd (upd (upd (upd (upd (a 15 v) 0 fl) 1 to) 2 k) 3 0) 4 tk) 5 ((-1)))) (f := 15) (i := v) (x := upd (upd (upd (upd (upd (upd (a 15 v) 0 fl) 1 to) 2 k) 3 0) 4 tk) 5 ((-1))) hT hi (by decide) S2_S2.symm)
  clear hbk hPw hDw hk9
  refine lv_aload_n hx hb dX7_come_31 rfl (lv_at hl 0 rfl) ?_
  refine lv_iconst (v := -1) hx hb dX7_come_32 (by decide) ?_
  obtain ⟨ws9, k9, hPw, hDw, hk9, -, hbk⟩ := hP.cut (e := .inr (7, [.int fl, .int to, .int k, .int 0, .int tk, .int ((-1)), .int ((a 15 v) 6), .int ((a 15 v) 7), .int ((a 15 v) 8), .int ((a 15 v) 9), .int ((a 15 v) 10), .int ((a 15 v) 11), .ref (L 16 v)])) (tw_mem (f := 15) (i := v) hi S2_eq)
  refine va_put (D := (dC, dI)) (ci := 7) (v := .int ((-1))) (ty := .int) (C := RX7) (T := TX7) (N := 13) hx hb hts tl_X7 tyX7 tyX7_ok nmX7 hown hK hPw hDw hS k9 hk9 rfl 6 (by decide) (hts _ tw_831) (fun _ h9 => h9) rfl (by decide +kernel) rfl rfl (Nat.le_of_ble_eq_true rfl) dX7_come_33 (fun H locs hPw hDw hS => ?_)
  have hP : mw (dC, dI) vwCl A (TW cy L tr (S2 a 15 v (upd (upd (upd (upd (upd (upd (upd (a 15 v) 0 fl) 1 to) 2 k) 3 0) 4 tk) 5 ((-1))) 6 ((-1)))) κ τ) H := (hbk _ _ hPw hDw).sub (tw_set (b := S2 a 15 v (upd (upd (upd (upd (upd (upd (upd (a 15 v) 0 fl) 1 to) 2 k) 3 0) 4 tk) 5 ((-1))) 6 ((-1)))) (f := 15) (i := v) (x := upd (upd (upd (upd (upd (upd (upd (a 15 v) 0 fl) 1 to) 2 k) 3 0) 4 tk) 5 ((-1))) 6 ((-1))) hT hi (by decide) S2_S2.symm)
  clear hbk hPw hDw hk9
  refine lv_aload_n hx hb dX7_come_36 rfl (lv_at hl 0 rfl) ?_
  refine lv_iconst (v := 0) hx hb dX7_come_37 (by decide) ?_
  obtain ⟨ws9, k9, hPw, hDw, hk9, -, hbk⟩ := hP.cut (e := .inr (7, [.int fl, .int to, .int k, .int 0, .int tk, .int ((-1)), .int ((-1)), .int ((a 15 v) 7), .int ((a 15 v) 8), .int ((a 15 v) 9), .int ((a 15 v) 10), .int ((a 15 v) 11), .ref (L 16 v)])) (tw_mem (f := 15) (i := v) hi S2_eq)
  refine va_put (D := (dC, dI)) (ci := 7) (v := .int 0) (ty := .int) (C := RX7) (T := TX7) (N := 13) hx hb hts tl_X7 tyX7 tyX7_ok nmX7 hown hK hPw hDw hS k9 hk9 rfl 7 (by decide) (hts _ tw_834) (fun _ h9 => h9) rfl (by decide +kernel) rfl rfl (Nat.le_of_ble_eq_true rfl) dX7_come_38 (fun H locs hPw hDw hS => ?_)
  have hP : mw (dC, dI) vwCl A (TW cy L tr (S2 a 15 v (upd (upd (upd (upd (upd (upd (upd (upd (a 15 v) 0 fl) 1 to) 2 k) 3 0) 4 tk) 5 ((-1))) 6 ((-1))) 7 0)) κ τ) H := (hbk _ _ hPw hDw).sub (tw_set (b := S2 a 15 v (upd (upd (upd (upd (upd (upd (upd (upd (a 15 v) 0 fl) 1 to) 2 k) 3 0) 4 tk) 5 ((-1))) 6 ((-1))) 7 0)) (f := 15) (i := v) (x := upd (upd (upd (upd (upd (upd (upd (upd (a 15 v) 0 fl) 1 to) 2 k) 3 0) 4 tk) 5 ((-1))) 6 ((-1))) 7 0) hT hi (by decide) S2_S2.symm)
  clear hbk hPw hDw hk9
  refine lv_aload_n hx hb dX7_come_41 rfl (lv_at hl 0 rfl) ?_
  refine lv_iconst (v := 0) hx hb dX7_come_42 (by decide) ?_
  obtain ⟨ws9, k9, hPw, hDw, hk9, -, hbk⟩ := hP.cut (e := .inr (7, [.int fl, .int to, .int k, .int 0, .int tk, .int ((-1)), .int ((-1)), .int 0, .int ((a 15 v) 8), .int ((a 15 v) 9), .int ((a 15 v) 10), .int ((a 15 v) 11), .ref (L 16 v)])) (tw_mem (f := 15) (i := v) hi S2_eq)
  refine va_put (D := (dC, dI)) (ci := 7) (v := .int 0) (ty := .int) (C := RX7) (T := TX7) (N := 13) hx hb hts tl_X7 tyX7 tyX7_ok nmX7 hown hK hPw hDw hS k9 hk9 rfl 8 (by decide) (hts _ tw_837) (fun _ h9 => h9) rfl (by decide +kernel) rfl rfl (Nat.le_of_ble_eq_true rfl) dX7_come_43 (fun H locs hPw hDw hS => ?_)
  have hP : mw (dC, dI) vwCl A (TW cy L tr (S2 a 15 v (upd (upd (upd (upd (upd (upd (upd (upd (upd (a 15 v) 0 fl) 1 to) 2 k) 3 0) 4 tk) 5 ((-1))) 6 ((-1))) 7 0) 8 0)) κ τ) H := (hbk _ _ hPw hDw).sub (tw_set (b := S2 a 15 v (upd (upd (upd (upd (upd (upd (upd (upd (upd (a 15 v) 0 fl) 1 to) 2 k) 3 0) 4 tk) 5 ((-1))) 6 ((-1))) 7 0) 8 0)) (f := 15) (i := v) (x := upd (upd (upd (upd (upd (upd (upd (upd (upd (a 15 v) 0 fl) 1 to) 2 k) 3 0) 4 tk) 5 ((-1))) 6 ((-1))) 7 0) 8 0) hT hi (by decide) S2_S2.symm)
  clear hbk hPw hDw hk9
  refine lv_aload_n hx hb dX7_come_46 rfl (lv_at hl 0 rfl) ?_
  refine lv_iconst (v := -1) hx hb dX7_come_47 (by decide) ?_
  obtain ⟨ws9, k9, hPw, hDw, hk9, -, hbk⟩ := hP.cut (e := .inr (7, [.int fl, .int to, .int k, .int 0, .int tk, .int ((-1)), .int ((-1)), .int 0, .int 0, .int ((a 15 v) 9), .int ((a 15 v) 10), .int ((a 15 v) 11), .ref (L 16 v)])) (tw_mem (f := 15) (i := v) hi S2_eq)
  refine va_put (D := (dC, dI)) (ci := 7) (v := .int ((-1))) (ty := .int) (C := RX7) (T := TX7) (N := 13) hx hb hts tl_X7 tyX7 tyX7_ok nmX7 hown hK hPw hDw hS k9 hk9 rfl 9 (by decide) (hts _ tw_838) (fun _ h9 => h9) rfl (by decide +kernel) rfl rfl (Nat.le_of_ble_eq_true rfl) dX7_come_48 (fun H locs hPw hDw hS => ?_)
  have hP : mw (dC, dI) vwCl A (TW cy L tr (S2 a 15 v (upd (upd (upd (upd (upd (upd (upd (upd (upd (upd (a 15 v) 0 fl) 1 to) 2 k) 3 0) 4 tk) 5 ((-1))) 6 ((-1))) 7 0) 8 0) 9 ((-1)))) κ τ) H := (hbk _ _ hPw hDw).sub (tw_set (b := S2 a 15 v (upd (upd (upd (upd (upd (upd (upd (upd (upd (upd (a 15 v) 0 fl) 1 to) 2 k) 3 0) 4 tk) 5 ((-1))) 6 ((-1))) 7 0) 8 0) 9 ((-1)))) (f := 15) (i := v) (x := upd (upd (upd (upd (upd (upd (upd (upd (upd (upd (a 15 v) 0 fl) 1 to) 2 k) 3 0) 4 tk) 5 ((-1))) 6 ((-1))) 7 0) 8 0) 9 ((-1))) hT hi (by decide) S2_S2.symm)
  clear hbk hPw hDw hk9
  refine lv_aload_n hx hb dX7_come_51 rfl (lv_at hl 0 rfl) ?_
  refine lv_iconst (v := -1) hx hb dX7_come_52 (by decide) ?_
  obtain ⟨ws9, k9, hPw, hDw, hk9, -, hbk⟩ := hP.cut (e := .inr (7, [.int fl, .int to, .int k, .int 0, .int tk, .int ((-1)), .int ((-1)), .int 0, .int 0, .int ((-1)), .int ((a 15 v) 10), .int ((a 15 v) 11), .ref (L 16 v)])) (tw_mem (f := 15) (i := v) hi S2_eq)
  refine va_put (D := (dC, dI)) (ci := 7) (v := .int ((-1))) (ty := .int) (C := RX7) (T := TX7) (N := 13) hx hb hts tl_X7 tyX7 tyX7_ok nmX7 hown hK hPw hDw hS k9 hk9 rfl 10 (by decide) (hts _ tw_841) (fun _ h9 => h9) rfl (by decide +kernel) rfl rfl (Nat.le_of_ble_eq_true rfl) dX7_come_53 (fun H locs hPw hDw hS => ?_)
  have hP : mw (dC, dI) vwCl A (TW cy L tr (S2 a 15 v (upd (upd (upd (upd (upd (upd (upd (upd (upd (upd (upd (a 15 v) 0 fl) 1 to) 2 k) 3 0) 4 tk) 5 ((-1))) 6 ((-1))) 7 0) 8 0) 9 ((-1))) 10 ((-1)))) κ τ) H := (hbk _ _ hPw hDw).sub (tw_set (b := S2 a 15 v (upd (upd (upd (upd (upd (upd (upd (upd (upd (upd (upd (a 15 v) 0 fl) 1 to) 2 k) 3 0) 4 tk) 5 ((-1))) 6 ((-1))) 7 0) 8 0) 9 ((-1))) 10 ((-1)))) (f := 15) (i := v) (x := upd (upd (upd (upd (upd (upd (upd (upd (upd (upd (upd (a 15 v) 0 fl) 1 to) 2 k) 3 0) 4 tk) 5 ((-1))) 6 ((-1))) 7 0) 8 0) 9 ((-1))) 10 ((-1))) hT hi (by decide) S2_S2.symm)
  clear hbk hPw hDw hk9
  refine lv_aload_n hx hb dX7_come_56 rfl (lv_at hl 0 rfl) ?_
  refine lv_iconst (v := 0) hx hb dX7_come_57 (by decide) ?_
  obtain ⟨ws9, k9, hPw, hDw, hk9, -, hbk⟩ := hP.cut (e := .inr (7, [.int fl, .int to, .int k, .int 0, .int tk, .int ((-1)), .int ((-1)), .int 0, .int 0, .int ((-1)), .int ((-1)), .int ((a 15 v) 11), .ref (L 16 v)])) (tw_mem (f := 15) (i := v) hi S2_eq)
  refine va_put (D := (dC, dI)) (ci := 7) (v := .int 0) (ty := .int) (C := RX7) (T := TX7) (N := 13) hx hb hts tl_X7 tyX7 tyX7_ok nmX7 hown hK hPw hDw hS k9 hk9 rfl 11 (by decide) (hts _ tw_844) (fun _ h9 => h9) rfl (by decide +kernel) rfl rfl (Nat.le_of_ble_eq_true rfl) dX7_come_58 (fun H locs hPw hDw hS => ?_)
  have hP : mw (dC, dI) vwCl A (TW cy L tr (S2 a 15 v (upd (upd (upd (upd (upd (upd (upd (upd (upd (upd (upd (upd (a 15 v) 0 fl) 1 to) 2 k) 3 0) 4 tk) 5 ((-1))) 6 ((-1))) 7 0) 8 0) 9 ((-1))) 10 ((-1))) 11 0)) κ τ) H := (hbk _ _ hPw hDw).sub (tw_set (b := S2 a 15 v (upd (upd (upd (upd (upd (upd (upd (upd (upd (upd (upd (upd (a 15 v) 0 fl) 1 to) 2 k) 3 0) 4 tk) 5 ((-1))) 6 ((-1))) 7 0) 8 0) 9 ((-1))) 10 ((-1))) 11 0)) (f := 15) (i := v) (x := upd (upd (upd (upd (upd (upd (upd (upd (upd (upd (upd (upd (a 15 v) 0 fl) 1 to) 2 k) 3 0) 4 tk) 5 ((-1))) 6 ((-1))) 7 0) 8 0) 9 ((-1))) 10 ((-1))) 11 0) hT hi (by decide) S2_S2.symm)
  clear hbk hPw hDw hk9
  refine W.widen (k := 0) (n := 0) (Nat.le_of_ble_eq_true rfl) (Nat.le_of_ble_eq_true rfl) ?_
  have s_1 : S2 a 15 v (upd (upd (upd (upd (upd (upd (upd (upd (upd (upd (upd (upd (a 15 v) 0 fl) 1 to) 2 k) 3 0) 4 tk) 5 ((-1))) 6 ((-1))) 7 0) 8 0) 9 ((-1))) 10 ((-1))) 11 0) = V_come a v fl to k tk := by
    first | rfl | (simp only [V_come, X_come])
  rw [s_1] at hP
  exact W.vret hx hb hr (fun t ht hW => ⟨⟨(), rfl, trivial, (by show mw _ _ _ _ t.heap; rw [ht]; exact hP)⟩, hS.F ht⟩) hS.2.2 dX7_come_61
set_option maxRecDepth 100000 in
set_option maxHeartbeats 4000000 in
/-- Vehicle.planOver -/
theorem c_Vehicle_planOver (l : Launch) (dC : Nat → ClassId) (dI : Nat → Nat → Nat) (cy : Nat → ClassId) (L : Lay) (tr : Option Nat) (a : St) (κ : Kap) (τ : Tau) (v : Nat) (nx : Int32) (sz : Nat) (hT : TL L tr τ) (hi : v < 200) (hw : 0 ≤ (a 15 v 11).toInt) : Met l yX7_planOver (tp_w yX7_planOver cX7_planOver 2 none) ({ frames := 0, cells := 0, slots := 0, locals := 0 }) (va_Pc [.ref (L 15 v), .int nx] (mPre dC dI cy (TW cy L tr a κ τ) sz)) (va_Qv (fun _ : Unit => True) (fun (_ : Unit) (t : State) => mw (dC, dI) vwCl (mA (TW cy L tr a κ τ) sz) (TW cy L tr (V_plan a v nx) κ τ) t.heap) (mA (TW cy L tr a κ τ) sz)) (0) (0) (mA (TW cy L tr a κ τ) sz) := by
  refine Met.ofW (cc := cX7_planOver) (maxL := 2) (ret := none) (by decide) rfl ?_
  intro p e s m args below meth c s₁ B hml hv
  obtain ⟨rfl, hsz, hP, hK, hE⟩ := hv
  have hx := B.exec
  have hb := B.bytes
  have hr := B.returns
  have hts0 := atoms_spec (ws := tp_w yX7_planOver cX7_planOver 2 none) B.pre
  have hts : ∀ w ∈ tp_all, w.before _ s = true := fun w h => hts0 w (List.mem_cons_of_mem _ h)
  have hown : s.vm.findClass RX7 = some m.cls := findClass_of_methodNamed B.named
  have hlocks := B.notSynchronized
  subst hsz
  have hP := hP.self s.heap.size
  generalize hAe : mA (TW cy L tr a κ τ) s.heap.size = A at hP ⊢
  have hA : ∀ q : Nat, s.heap.size ≤ q → A q := fun q h => by rw [← hAe]; exact Or.inr h
  have hS : va_S A s.heap s.heap [] := va_S.rf
  have hl9 := lv_entry ([.ref (L 15 v), .int nx]) (n := 2) (Nat.le_of_ble_eq_true rfl)
  rw [lg_entry_eq]
  generalize (lg_sl ([.ref (L 15 v), .int nx]) ++ List.replicate (2 - (lg_sl ([.ref (L 15 v), .int nx])).length) Slot.unset).toArray = ls at hl9 ⊢
  have hl : lv_has ls 2 [(0, .ref (L 15 v)), (1, .int nx)] := hl9
  refine lv_aload_n hx hb dX7_planOver_0 rfl (lv_at hl 0 rfl) ?_
  refine va_get (D := (dC, dI)) (ws := [(L 15 v, .inr (7, [.int ((a 15 v) 0), .int ((a 15 v) 1), .int ((a 15 v) 2), .int ((a 15 v) 3), .int ((a 15 v) 4), .int ((a 15 v) 5), .int ((a 15 v) 6), .int ((a 15 v) 7), .int ((a 15 v) 8), .int ((a 15 v) 9), .int ((a 15 v) 10), .int ((a 15 v) 11), .ref (L 16 v)]))]) (ci := 7) (v := .int ((a 15 v) 11)) (C := RX7) (T := TX7) (N := 13) hx hb hts tl_X7 hown hK (hP.one (tw_mem (f := 15) (i := v) hi rfl)) 0 rfl rfl 11 (by decide) (hts _ tw_844) (fun _ h9 => h9) rfl dX7_planOver_1 ?_
  refine lv_aload_n hx hb dX7_planOver_4 rfl (lv_at hl 0 rfl) ?_
  refine va_get (D := (dC, dI)) (ws := [(L 15 v, .inr (7, [.int ((a 15 v) 0), .int ((a 15 v) 1), .int ((a 15 v) 2), .int ((a 15 v) 3), .int ((a 15 v) 4), .int ((a 15 v) 5), .int ((a 15 v) 6), .int ((a 15 v) 7), .int ((a 15 v) 8), .int ((a 15 v) 9), .int ((a 15 v) 10), .int ((a 15 v) 11), .ref (L 16 v)]))]) (ci := 7) (v := .ref (L 16 v)) (C := RX7) (T := TX7) (N := 13) hx hb hts tl_X7 hown hK (hP.one (tw_mem (f := 15) (i := v) hi rfl)) 0 rfl rfl 12 (by decide) (hts _ tw_845) (fun _ h9 => h9) rfl dX7_planOver_5 ?_
  refine va_alen hx hb hK (ws := [(L 16 v, .inl (cy 0, 11, .inl (a 16 v)))]) (hP.one (tw_mem (f := 16) (i := v) hi rfl)) 0 0 rfl rfl (v := 11) rfl dX7_planOver_8 ?_
  refine lv_icmp_ge (tgt := 32) hx hb dX7_planOver_9 (by decide) (fun c_1 => ?_) (fun c_1 => ?_)
  · refine W.widen (k := 0) (n := 0) (Nat.le_of_ble_eq_true rfl) (Nat.le_of_ble_eq_true rfl) ?_
    have s_1 : a = V_plan a v nx := by
      first | rfl | (simp only [V_plan, if_pos c_1])
    rw [s_1] at hP
    exact W.vret hx hb hr (fun t ht hW => ⟨⟨(), rfl, trivial, (by show mw _ _ _ _ t.heap; rw [ht]; exact hP)⟩, hS.F ht⟩) hS.2.2 dX7_planOver_32
  · refine lv_aload_n hx hb dX7_planOver_12 rfl (lv_at hl 0 rfl) ?_
    refine va_get (D := (dC, dI)) (ws := [(L 15 v, .inr (7, [.int ((a 15 v) 0), .int ((a 15 v) 1), .int ((a 15 v) 2), .int ((a 15 v) 3), .int ((a 15 v) 4), .int ((a 15 v) 5), .int ((a 15 v) 6), .int ((a 15 v) 7), .int ((a 15 v) 8), .int ((a 15 v) 9), .int ((a 15 v) 10), .int ((a 15 v) 11), .ref (L 16 v)]))]) (ci := 7) (v := .ref (L 16 v)) (C := RX7) (T := TX7) (N := 13) hx hb hts tl_X7 hown hK (hP.one (tw_mem (f := 15) (i := v) hi rfl)) 0 rfl rfl 12 (by decide) (hts _ tw_845) (fun _ h9 => h9) rfl dX7_planOver_13 ?_
    refine lv_aload_n hx hb dX7_planOver_16 rfl (lv_at hl 0 rfl) ?_
    refine va_get (D := (dC, dI)) (ws := [(L 15 v, .inr (7, [.int ((a 15 v) 0), .int ((a 15 v) 1), .int ((a 15 v) 2), .int ((a 15 v) 3), .int ((a 15 v) 4), .int ((a 15 v) 5), .int ((a 15 v) 6), .int ((a 15 v) 7), .int ((a 15 v) 8), .int ((a 15 v) 9), .int ((a 15 v) 10), .int ((a 15 v) 11), .ref (L 16 v)]))]) (ci := 7) (v := .int ((a 15 v) 11)) (C := RX7) (T := TX7) (N := 13) hx hb hts tl_X7 hown hK (hP.one (tw_mem (f := 15) (i := v) hi rfl)) 0 rfl rfl 11 (by decide) (hts _ tw_844) (fun _ h9 => h9) rfl dX7_planOver_17 ?_
    refine lv_iload_n hx hb dX7_planOver_20 rfl (lv_at hl 1 rfl) ?_
    have j_1 : ((a 15 v) 11 : Int32).toNatClampNeg = ((a 15 v) 11).toNatClampNeg := m_cl (m_n0 hw) (m_ltI hw (m_ge c_1)) (by decide)
    obtain ⟨ws9, k9, hPw, hDw, hk9, -, hbk⟩ := hP.cut (e := .inl (cy 0, 11, .inl (a 16 v))) (tw_mem (f := 16) (i := v) hi rfl)
    refine va_iast hx hb hK hPw hDw hS k9 0 hk9 rfl (m_in (m_n0 hw) (m_ltI hw (m_ge c_1)) (by decide)) dX7_planOver_21 (fun H locs hPw hDw hS => ?_)
    rw [j_1] at hPw hDw
    have hP : mw (dC, dI) vwCl A (TW cy L tr (S2 a 16 v (upd (a 16 v) (((a 15 v) 11).toNatClampNeg) nx)) κ τ) H := (hbk _ _ hPw hDw).sub (tw_set (b := S2 a 16 v (upd (a 16 v) (((a 15 v) 11).toNatClampNeg) nx)) (f := 16) (i := v) (x := upd (a 16 v) (((a 15 v) 11).toNatClampNeg) nx) hT hi (by decide) rfl)
    clear hbk hPw hDw hk9
    refine lv_aload_n hx hb dX7_planOver_22 rfl (lv_at hl 0 rfl) ?_
    refine lv_dup hx hb dX7_planOver_23 rfl ?_
    refine va_get (D := (dC, dI)) (ws := [(L 15 v, .inr (7, [.int ((a 15 v) 0), .int ((a 15 v) 1), .int ((a 15 v) 2), .int ((a 15 v) 3), .int ((a 15 v) 4), .int ((a 15 v) 5), .int ((a 15 v) 6), .int ((a 15 v) 7), .int ((a 15 v) 8), .int ((a 15 v) 9), .int ((a 15 v) 10), .int ((a 15 v) 11), .ref (L 16 v)]))]) (ci := 7) (v := .int ((a 15 v) 11)) (C := RX7) (T := TX7) (N := 13) hx hb hts tl_X7 hown hK (hP.one (tw_mem (f := 15) (i := v) hi (S2_nf (by decide)))) 0 rfl rfl 11 (by decide) (hts _ tw_844) (fun _ h9 => h9) rfl dX7_planOver_24 ?_
    refine lv_iconst (v := 1) hx hb dX7_planOver_27 (by decide) ?_
    refine lv_iadd hx hb dX7_planOver_28 ?_
    obtain ⟨ws9, k9, hPw, hDw, hk9, -, hbk⟩ := hP.cut (e := .inr (7, [.int ((a 15 v) 0), .int ((a 15 v) 1), .int ((a 15 v) 2), .int ((a 15 v) 3), .int ((a 15 v) 4), .int ((a 15 v) 5), .int ((a 15 v) 6), .int ((a 15 v) 7), .int ((a 15 v) 8), .int ((a 15 v) 9), .int ((a 15 v) 10), .int ((a 15 v) 11), .ref (L 16 v)])) (tw_mem (f := 15) (i := v) hi (S2_nf (by decide)))
    refine va_put (D := (dC, dI)) (ci := 7) (v := .int (((a 15 v) 11) + 1)) (ty := .int) (C := RX7) (T := TX7) (N := 13) hx hb hts tl_X7 tyX7 tyX7_ok nmX7 hown hK hPw hDw hS k9 hk9 rfl 11 (by decide) (hts _ tw_844) (fun _ h9 => h9) rfl (by decide +kernel) rfl rfl (Nat.le_of_ble_eq_true rfl) dX7_planOver_29 (fun H locs hPw hDw hS => ?_)
    have hP : mw (dC, dI) vwCl A (TW cy L tr (S2 (S2 a 16 v (upd (a 16 v) (((a 15 v) 11).toNatClampNeg) nx)) 15 v (upd (a 15 v) 11 (((a 15 v) 11) + 1))) κ τ) H := (hbk _ _ hPw hDw).sub (tw_set (b := S2 (S2 a 16 v (upd (a 16 v) (((a 15 v) 11).toNatClampNeg) nx)) 15 v (upd (a 15 v) 11 (((a 15 v) 11) + 1))) (f := 15) (i := v) (x := upd (a 15 v) 11 (((a 15 v) 11) + 1)) hT hi (by decide) rfl)
    clear hbk hPw hDw hk9
    refine W.widen (k := 0) (n := 0) (Nat.le_of_ble_eq_true rfl) (Nat.le_of_ble_eq_true rfl) ?_
    have s_2 : S2 (S2 a 16 v (upd (a 16 v) (((a 15 v) 11).toNatClampNeg) nx)) 15 v (upd (a 15 v) 11 (((a 15 v) 11) + 1)) = V_plan a v nx := by
      first | rfl | (simp only [V_plan, if_neg c_1])
    rw [s_2] at hP
    exact W.vret hx hb hr (fun t ht hW => ⟨⟨(), rfl, trivial, (by show mw _ _ _ _ t.heap; rw [ht]; exact hP)⟩, hS.F ht⟩) hS.2.2 dX7_planOver_32
set_option maxRecDepth 100000 in
set_option maxHeartbeats 4000000 in
/-- Vehicle.nextOfWay -/
theorem c_Vehicle_nextOfWay (l : Launch) (dC : Nat → ClassId) (dI : Nat → Nat → Nat) (cy : Nat → ClassId) (L : Lay) (tr : Option Nat) (a : St) (κ : Kap) (τ : Tau) (v : Nat) (sz : Nat) (hT : TL L tr τ) (hi : v < 200) (hw2 : (a 15 v 11).toInt ≤ 11) : Met l yX7_nextOfWay (tp_w yX7_nextOfWay cX7_nextOfWay 1 (some .int)) ({ frames := 0, cells := 0, slots := 0, locals := 0 }) (va_Pc [.ref (L 15 v)] (mPre dC dI cy (TW cy L tr a κ τ) sz)) (va_Qi (fun (r u : Int32) => r = u) (fun (u : Int32) (t : State) => (u = V_next a v) ∧ mw (dC, dI) vwCl (mA (TW cy L tr a κ τ) sz) (TW cy L tr a κ τ) t.heap) (mA (TW cy L tr a κ τ) sz)) (0) (0) (mA (TW cy L tr a κ τ) sz) := by
  refine Met.ofW (cc := cX7_nextOfWay) (maxL := 1) (ret := (some .int)) (by decide) rfl ?_
  intro p e s m args below meth c s₁ B hml hv
  obtain ⟨rfl, hsz, hP, hK, hE⟩ := hv
  have hx := B.exec
  have hb := B.bytes
  have hr := B.returns
  have hts0 := atoms_spec (ws := tp_w yX7_nextOfWay cX7_nextOfWay 1 (some .int)) B.pre
  have hts : ∀ w ∈ tp_all, w.before _ s = true := fun w h => hts0 w (List.mem_cons_of_mem _ h)
  have hown : s.vm.findClass RX7 = some m.cls := findClass_of_methodNamed B.named
  have hlocks := B.notSynchronized
  subst hsz
  have hP := hP.self s.heap.size
  generalize hAe : mA (TW cy L tr a κ τ) s.heap.size = A at hP ⊢
  have hA : ∀ q : Nat, s.heap.size ≤ q → A q := fun q h => by rw [← hAe]; exact Or.inr h
  have hS : va_S A s.heap s.heap [] := va_S.rf
  have hl9 := lv_entry ([.ref (L 15 v)]) (n := 1) (Nat.le_of_ble_eq_true rfl)
  rw [lg_entry_eq]
  generalize (lg_sl ([.ref (L 15 v)]) ++ List.replicate (1 - (lg_sl ([.ref (L 15 v)])).length) Slot.unset).toArray = ls at hl9 ⊢
  have hl : lv_has ls 1 [(0, .ref (L 15 v))] := hl9
  refine lv_aload_n hx hb dX7_nextOfWay_0 rfl (lv_at hl 0 rfl) ?_
  refine va_get (D := (dC, dI)) (ws := [(L 15 v, .inr (7, [.int ((a 15 v) 0), .int ((a 15 v) 1), .int ((a 15 v) 2), .int ((a 15 v) 3), .int ((a 15 v) 4), .int ((a 15 v) 5), .int ((a 15 v) 6), .int ((a 15 v) 7), .int ((a 15 v) 8), .int ((a 15 v) 9), .int ((a 15 v) 10), .int ((a 15 v) 11), .ref (L 16 v)]))]) (ci := 7) (v := .int ((a 15 v) 7)) (C := RX7) (T := TX7) (N := 13) hx hb hts tl_X7 hown hK (hP.one (tw_mem (f := 15) (i := v) hi rfl)) 0 rfl rfl 7 (by decide) (hts _ tw_834) (fun _ h9 => h9) rfl dX7_nextOfWay_1 ?_
  refine lv_if_lt (tgt := 30) hx hb dX7_nextOfWay_4 (by decide) (fun c_1 => ?_) (fun c_1 => ?_)
  · refine lv_iconst (v := -1) hx hb dX7_nextOfWay_30 (by decide) ?_
    refine W.widen (k := 0) (n := 0) (Nat.le_of_ble_eq_true rfl) (Nat.le_of_ble_eq_true rfl) ?_
    have g_1 : ((-1)) = V_next a v := by
      first | rfl | assumption | (simp only [V_next, if_pos c_1])
    exact W.iret (v := (-1)) hx hb hr (fun t ht hW => ⟨⟨((-1)), ((-1)), rfl, rfl, ⟨g_1, by show mw _ _ _ _ t.heap; rw [ht]; exact hP⟩⟩, hS.F ht⟩) hS.2.2 dX7_nextOfWay_31
  · refine lv_aload_n hx hb dX7_nextOfWay_7 rfl (lv_at hl 0 rfl) ?_
    refine va_get (D := (dC, dI)) (ws := [(L 15 v, .inr (7, [.int ((a 15 v) 0), .int ((a 15 v) 1), .int ((a 15 v) 2), .int ((a 15 v) 3), .int ((a 15 v) 4), .int ((a 15 v) 5), .int ((a 15 v) 6), .int ((a 15 v) 7), .int ((a 15 v) 8), .int ((a 15 v) 9), .int ((a 15 v) 10), .int ((a 15 v) 11), .ref (L 16 v)]))]) (ci := 7) (v := .int ((a 15 v) 7)) (C := RX7) (T := TX7) (N := 13) hx hb hts tl_X7 hown hK (hP.one (tw_mem (f := 15) (i := v) hi rfl)) 0 rfl rfl 7 (by decide) (hts _ tw_834) (fun _ h9 => h9) rfl dX7_nextOfWay_8 ?_
    refine lv_aload_n hx hb dX7_nextOfWay_11 rfl (lv_at hl 0 rfl) ?_
    refine va_get (D := (dC, dI)) (ws := [(L 15 v, .inr (7, [.int ((a 15 v) 0), .int ((a 15 v) 1), .int ((a 15 v) 2), .int ((a 15 v) 3), .int ((a 15 v) 4), .int ((a 15 v) 5), .int ((a 15 v) 6), .int ((a 15 v) 7), .int ((a 15 v) 8), .int ((a 15 v) 9), .int ((a 15 v) 10), .int ((a 15 v) 11), .ref (L 16 v)]))]) (ci := 7) (v := .int ((a 15 v) 11)) (C := RX7) (T := TX7) (N := 13) hx hb hts tl_X7 hown hK (hP.one (tw_mem (f := 15) (i := v) hi rfl)) 0 rfl rfl 11 (by decide) (hts _ tw_844) (fun _ h9 => h9) rfl dX7_nextOfWay_12 ?_
    refine lv_icmp_ge (tgt := 30) hx hb dX7_nextOfWay_15 (by decide) (fun c_2 => ?_) (fun c_2 => ?_)
    · refine lv_iconst (v := -1) hx hb dX7_nextOfWay_30 (by decide) ?_
      refine W.widen (k := 0) (n := 0) (Nat.le_of_ble_eq_true rfl) (Nat.le_of_ble_eq_true rfl) ?_
      have g_2 : ((-1)) = V_next a v := by
        first | rfl | assumption | (simp only [V_next, if_neg c_1, if_pos c_2])
      exact W.iret (v := (-1)) hx hb hr (fun t ht hW => ⟨⟨((-1)), ((-1)), rfl, rfl, ⟨g_2, by show mw _ _ _ _ t.heap; rw [ht]; exact hP⟩⟩, hS.F ht⟩) hS.2.2 dX7_nextOfWay_31
    · refine lv_aload_n hx hb dX7_nextOfWay_18 rfl (lv_at hl 0 rfl) ?_
      refine va_get (D := (dC, dI)) (ws := [(L 15 v, .inr (7, [.int ((a 15 v) 0), .int ((a 15 v) 1), .int ((a 15 v) 2), .int ((a 15 v) 3), .int ((a 15 v) 4), .int ((a 15 v) 5), .int ((a 15 v) 6), .int ((a 15 v) 7), .int ((a 15 v) 8), .int ((a 15 v) 9), .int ((a 15 v) 10), .int ((a 15 v) 11), .ref (L 16 v)]))]) (ci := 7) (v := .ref (L 16 v)) (C := RX7) (T := TX7) (N := 13) hx hb hts tl_X7 hown hK (hP.one (tw_mem (f := 15) (i := v) hi rfl)) 0 rfl rfl 12 (by decide) (hts _ tw_845) (fun _ h9 => h9) rfl dX7_nextOfWay_19 ?_
      refine lv_aload_n hx hb dX7_nextOfWay_22 rfl (lv_at hl 0 rfl) ?_
      refine va_get (D := (dC, dI)) (ws := [(L 15 v, .inr (7, [.int ((a 15 v) 0), .int ((a 15 v) 1), .int ((a 15 v) 2), .int ((a 15 v) 3), .int ((a 15 v) 4), .int ((a 15 v) 5), .int ((a 15 v) 6), .int ((a 15 v) 7), .int ((a 15 v) 8), .int ((a 15 v) 9), .int ((a 15 v) 10), .int ((a 15 v) 11), .ref (L 16 v)]))]) (ci := 7) (v := .int ((a 15 v) 7)) (C := RX7) (T := TX7) (N := 13) hx hb hts tl_X7 hown hK (hP.one (tw_mem (f := 15) (i := v) hi rfl)) 0 rfl rfl 7 (by decide) (hts _ tw_834) (fun _ h9 => h9) rfl dX7_nextOfWay_23 ?_
      have j_1 : ((a 15 v) 7 : Int32).toNatClampNeg = ((a 15 v) 7).toNatClampNeg := m_cl (m_nI c_1) (m_lt c_1 c_2 hw2) (by decide)
      refine va_iald hx hb hK (ws := [(L 16 v, .inl (cy 0, 11, .inl (a 16 v)))]) (hP.one (tw_mem (f := 16) (i := v) hi rfl)) 0 0 rfl rfl (m_in (m_nI c_1) (m_lt c_1 c_2 hw2) (by decide)) dX7_nextOfWay_26 ?_
      refine W.eq (g2 := F0 m 27 ls [.int ((a 16 v) (((a 15 v) 7).toNatClampNeg))]) (by first | (rw [j_1]; done) | (rw [j_1]; rfl)) ?_
      refine lv_goto (tgt := 31) hx hb dX7_nextOfWay_27 (by decide) ?_
      refine W.widen (k := 0) (n := 0) (Nat.le_of_ble_eq_true rfl) (Nat.le_of_ble_eq_true rfl) ?_
      have g_3 : ((a 16 v) (((a 15 v) 7).toNatClampNeg)) = V_next a v := by
        first | rfl | assumption | (simp only [V_next, if_neg c_1, if_neg c_2])
      exact W.iret (v := (a 16 v) (((a 15 v) 7).toNatClampNeg)) hx hb hr (fun t ht hW => ⟨⟨((a 16 v) (((a 15 v) 7).toNatClampNeg)), ((a 16 v) (((a 15 v) 7).toNatClampNeg)), rfl, rfl, ⟨g_3, by show mw _ _ _ _ t.heap; rw [ht]; exact hP⟩⟩, hS.F ht⟩) hS.2.2 dX7_nextOfWay_31
set_option maxRecDepth 100000 in
set_option maxHeartbeats 4000000 in
/-- Vehicle.goOnto -/
theorem c_Vehicle_goOnto (l : Launch) (dC : Nat → ClassId) (dI : Nat → Nat → Nat) (cy : Nat → ClassId) (L : Lay) (tr : Option Nat) (a : St) (κ : Kap) (τ : Tau) (v : Nat) (nx : Int32) (tm : Int32) (tk : Int32) (sz : Nat) (hT : TL L tr τ) (hi : v < 200) : Met l yX7_goOnto (tp_w yX7_goOnto cX7_goOnto 4 none) ({ frames := 0, cells := 0, slots := 0, locals := 0 }) (va_Pc [.ref (L 15 v), .int nx, .int tm, .int tk] (mPre dC dI cy (TW cy L tr a κ τ) sz)) (va_Qv (fun _ : Unit => True) (fun (_ : Unit) (t : State) => mw (dC, dI) vwCl (mA (TW cy L tr a κ τ) sz) (TW cy L tr (V_onto a v nx tm tk) κ τ) t.heap) (mA (TW cy L tr a κ τ) sz)) (0) (0) (mA (TW cy L tr a κ τ) sz) := by
  refine Met.ofW (cc := cX7_goOnto) (maxL := 4) (ret := none) (by decide) rfl ?_
  intro p e s m args below meth c s₁ B hml hv
  obtain ⟨rfl, hsz, hP, hK, hE⟩ := hv
  have hx := B.exec
  have hb := B.bytes
  have hr := B.returns
  have hts0 := atoms_spec (ws := tp_w yX7_goOnto cX7_goOnto 4 none) B.pre
  have hts : ∀ w ∈ tp_all, w.before _ s = true := fun w h => hts0 w (List.mem_cons_of_mem _ h)
  have hown : s.vm.findClass RX7 = some m.cls := findClass_of_methodNamed B.named
  have hlocks := B.notSynchronized
  subst hsz
  have hP := hP.self s.heap.size
  generalize hAe : mA (TW cy L tr a κ τ) s.heap.size = A at hP ⊢
  have hA : ∀ q : Nat, s.heap.size ≤ q → A q := fun q h => by rw [← hAe]; exact Or.inr h
  have hS : va_S A s.heap s.heap [] := va_S.rf
  have hl9 := lv_entry ([.ref (L 15 v), .int nx, .int tm, .int tk]) (n := 4) (Nat.le_of_ble_eq_true rfl)
  rw [lg_entry_eq]
  generalize (lg_sl ([.ref (L 15 v), .int nx, .int tm, .int tk]) ++ List.replicate (4 - (lg_sl ([.ref (L 15 v), .int nx, .int tm, .int tk])).length) Slot.unset).toArray = ls at hl9 ⊢
  have hl : lv_has ls 4 [(0, .ref (L 15 v)), (1, .int nx), (2, .int tm), (3, .int tk)] := hl9
  refine lv_aload_n hx hb dX7_goOnto_0 rfl (lv_at hl 0 rfl) ?_
  refine lv_iconst (v := 1) hx hb dX7_goOnto_1 (by decide) ?_
  obtain ⟨ws9, k9, hPw, hDw, hk9, -, hbk⟩ := hP.cut (e := .inr (7, [.int ((a 15 v) 0), .int ((a 15 v) 1), .int ((a 15 v) 2), .int ((a 15 v) 3), .int ((a 15 v) 4), .int ((a 15 v) 5), .int ((a 15 v) 6), .int ((a 15 v) 7), .int ((a 15 v) 8), .int ((a 15 v) 9), .int ((a 15 v) 10), .int ((a 15 v) 11), .ref (L 16 v)])) (tw_mem (f := 15) (i := v) hi rfl)
  refine va_put (D := (dC, dI)) (ci := 7) (v := .int 1) (ty := .int) (C := RX7) (T := TX7) (N := 13) hx hb hts tl_X7 tyX7 tyX7_ok nmX7 hown hK hPw hDw hS k9 hk9 rfl 3 (by decide) (hts _ tw_825) (fun _ h9 => h9) rfl (by decide +kernel) rfl rfl (Nat.le_of_ble_eq_true rfl) dX7_goOnto_2 (fun H locs hPw hDw hS => ?_)
  have hP : mw (dC, dI) vwCl A (TW cy L tr (S2 a 15 v (upd (a 15 v) 3 1)) κ τ) H := (hbk _ _ hPw hDw).sub (tw_set (b := S2 a 15 v (upd (a 15 v) 3 1)) (f := 15) (i := v) (x := upd (a 15 v) 3 1) hT hi (by decide) rfl)
  clear hbk hPw hDw hk9
  refine lv_aload_n hx hb dX7_goOnto_5 rfl (lv_at hl 0 rfl) ?_
  refine lv_iload_n hx hb dX7_goOnto_6 rfl (lv_at hl 1 rfl) ?_
  obtain ⟨ws9, k9, hPw, hDw, hk9, -, hbk⟩ := hP.cut (e := .inr (7, [.int ((a 15 v) 0), .int ((a 15 v) 1), .int ((a 15 v) 2), .int 1, .int ((a 15 v) 4), .int ((a 15 v) 5), .int ((a 15 v) 6), .int ((a 15 v) 7), .int ((a 15 v) 8), .int ((a 15 v) 9), .int ((a 15 v) 10), .int ((a 15 v) 11), .ref (L 16 v)])) (tw_mem (f := 15) (i := v) hi S2_eq)
  refine va_put (D := (dC, dI)) (ci := 7) (v := .int nx) (ty := .int) (C := RX7) (T := TX7) (N := 13) hx hb hts tl_X7 tyX7 tyX7_ok nmX7 hown hK hPw hDw hS k9 hk9 rfl 5 (by decide) (hts _ tw_829) (fun _ h9 => h9) rfl (by decide +kernel) rfl rfl (Nat.le_of_ble_eq_true rfl) dX7_goOnto_7 (fun H locs hPw hDw hS => ?_)
  have hP : mw (dC, dI) vwCl A (TW cy L tr (S2 a 15 v (upd (upd (a 15 v) 3 1) 5 nx)) κ τ) H := (hbk _ _ hPw hDw).sub (tw_set (b := S2 a 15 v (upd (upd (a 15 v) 3 1) 5 nx)) (f := 15) (i := v) (x := upd (upd (a 15 v) 3 1) 5 nx) hT hi (by decide) S2_S2.symm)
  clear hbk hPw hDw hk9
  refine lv_aload_n hx hb dX7_goOnto_10 rfl (lv_at hl 0 rfl) ?_
  refine lv_iload_n hx hb dX7_goOnto_11 rfl (lv_at hl 3 rfl) ?_
  refine lv_iload_n hx hb dX7_goOnto_12 rfl (lv_at hl 2 rfl) ?_
  refine lv_iadd hx hb dX7_goOnto_13 ?_
  obtain ⟨ws9, k9, hPw, hDw, hk9, -, hbk⟩ := hP.cut (e := .inr (7, [.int ((a 15 v) 0), .int ((a 15 v) 1), .int ((a 15 v) 2), .int 1, .int ((a 15 v) 4), .int nx, .int ((a 15 v) 6), .int ((a 15 v) 7), .int ((a 15 v) 8), .int ((a 15 v) 9), .int ((a 15 v) 10), .int ((a 15 v) 11), .ref (L 16 v)])) (tw_mem (f := 15) (i := v) hi S2_eq)
  refine va_put (D := (dC, dI)) (ci := 7) (v := .int (tk + tm)) (ty := .int) (C := RX7) (T := TX7) (N := 13) hx hb hts tl_X7 tyX7 tyX7_ok nmX7 hown hK hPw hDw hS k9 hk9 rfl 6 (by decide) (hts _ tw_831) (fun _ h9 => h9) rfl (by decide +kernel) rfl rfl (Nat.le_of_ble_eq_true rfl) dX7_goOnto_14 (fun H locs hPw hDw hS => ?_)
  have hP : mw (dC, dI) vwCl A (TW cy L tr (S2 a 15 v (upd (upd (upd (a 15 v) 3 1) 5 nx) 6 (tk + tm))) κ τ) H := (hbk _ _ hPw hDw).sub (tw_set (b := S2 a 15 v (upd (upd (upd (a 15 v) 3 1) 5 nx) 6 (tk + tm))) (f := 15) (i := v) (x := upd (upd (upd (a 15 v) 3 1) 5 nx) 6 (tk + tm)) hT hi (by decide) S2_S2.symm)
  clear hbk hPw hDw hk9
  refine lv_aload_n hx hb dX7_goOnto_17 rfl (lv_at hl 0 rfl) ?_
  refine lv_dup hx hb dX7_goOnto_18 rfl ?_
  refine va_get (D := (dC, dI)) (ws := [(L 15 v, .inr (7, [.int ((a 15 v) 0), .int ((a 15 v) 1), .int ((a 15 v) 2), .int 1, .int ((a 15 v) 4), .int nx, .int (tk + tm), .int ((a 15 v) 7), .int ((a 15 v) 8), .int ((a 15 v) 9), .int ((a 15 v) 10), .int ((a 15 v) 11), .ref (L 16 v)]))]) (ci := 7) (v := .int ((a 15 v) 7)) (C := RX7) (T := TX7) (N := 13) hx hb hts tl_X7 hown hK (hP.one (tw_mem (f := 15) (i := v) hi S2_eq)) 0 rfl rfl 7 (by decide) (hts _ tw_834) (fun _ h9 => h9) rfl dX7_goOnto_19 ?_
  refine lv_iconst (v := 1) hx hb dX7_goOnto_22 (by decide) ?_
  refine lv_iadd hx hb dX7_goOnto_23 ?_
  obtain ⟨ws9, k9, hPw, hDw, hk9, -, hbk⟩ := hP.cut (e := .inr (7, [.int ((a 15 v) 0), .int ((a 15 v) 1), .int ((a 15 v) 2), .int 1, .int ((a 15 v) 4), .int nx, .int (tk + tm), .int ((a 15 v) 7), .int ((a 15 v) 8), .int ((a 15 v) 9), .int ((a 15 v) 10), .int ((a 15 v) 11), .ref (L 16 v)])) (tw_mem (f := 15) (i := v) hi S2_eq)
  refine va_put (D := (dC, dI)) (ci := 7) (v := .int (((a 15 v) 7) + 1)) (ty := .int) (C := RX7) (T := TX7) (N := 13) hx hb hts tl_X7 tyX7 tyX7_ok nmX7 hown hK hPw hDw hS k9 hk9 rfl 7 (by decide) (hts _ tw_834) (fun _ h9 => h9) rfl (by decide +kernel) rfl rfl (Nat.le_of_ble_eq_true rfl) dX7_goOnto_24 (fun H locs hPw hDw hS => ?_)
  have hP : mw (dC, dI) vwCl A (TW cy L tr (S2 a 15 v (upd (upd (upd (upd (a 15 v) 3 1) 5 nx) 6 (tk + tm)) 7 (((a 15 v) 7) + 1))) κ τ) H := (hbk _ _ hPw hDw).sub (tw_set (b := S2 a 15 v (upd (upd (upd (upd (a 15 v) 3 1) 5 nx) 6 (tk + tm)) 7 (((a 15 v) 7) + 1))) (f := 15) (i := v) (x := upd (upd (upd (upd (a 15 v) 3 1) 5 nx) 6 (tk + tm)) 7 (((a 15 v) 7) + 1)) hT hi (by decide) S2_S2.symm)
  clear hbk hPw hDw hk9
  refine lv_aload_n hx hb dX7_goOnto_27 rfl (lv_at hl 0 rfl) ?_
  refine lv_dup hx hb dX7_goOnto_28 rfl ?_
  refine va_get (D := (dC, dI)) (ws := [(L 15 v, .inr (7, [.int ((a 15 v) 0), .int ((a 15 v) 1), .int ((a 15 v) 2), .int 1, .int ((a 15 v) 4), .int nx, .int (tk + tm), .int (((a 15 v) 7) + 1), .int ((a 15 v) 8), .int ((a 15 v) 9), .int ((a 15 v) 10), .int ((a 15 v) 11), .ref (L 16 v)]))]) (ci := 7) (v := .int ((a 15 v) 8)) (C := RX7) (T := TX7) (N := 13) hx hb hts tl_X7 hown hK (hP.one (tw_mem (f := 15) (i := v) hi S2_eq)) 0 rfl rfl 8 (by decide) (hts _ tw_837) (fun _ h9 => h9) rfl dX7_goOnto_29 ?_
  refine lv_iload_n hx hb dX7_goOnto_32 rfl (lv_at hl 2 rfl) ?_
  refine lv_iadd hx hb dX7_goOnto_33 ?_
  obtain ⟨ws9, k9, hPw, hDw, hk9, -, hbk⟩ := hP.cut (e := .inr (7, [.int ((a 15 v) 0), .int ((a 15 v) 1), .int ((a 15 v) 2), .int 1, .int ((a 15 v) 4), .int nx, .int (tk + tm), .int (((a 15 v) 7) + 1), .int ((a 15 v) 8), .int ((a 15 v) 9), .int ((a 15 v) 10), .int ((a 15 v) 11), .ref (L 16 v)])) (tw_mem (f := 15) (i := v) hi S2_eq)
  refine va_put (D := (dC, dI)) (ci := 7) (v := .int (((a 15 v) 8) + tm)) (ty := .int) (C := RX7) (T := TX7) (N := 13) hx hb hts tl_X7 tyX7 tyX7_ok nmX7 hown hK hPw hDw hS k9 hk9 rfl 8 (by decide) (hts _ tw_837) (fun _ h9 => h9) rfl (by decide +kernel) rfl rfl (Nat.le_of_ble_eq_true rfl) dX7_goOnto_34 (fun H locs hPw hDw hS => ?_)
  have hP : mw (dC, dI) vwCl A (TW cy L tr (S2 a 15 v (upd (upd (upd (upd (upd (a 15 v) 3 1) 5 nx) 6 (tk + tm)) 7 (((a 15 v) 7) + 1)) 8 (((a 15 v) 8) + tm))) κ τ) H := (hbk _ _ hPw hDw).sub (tw_set (b := S2 a 15 v (upd (upd (upd (upd (upd (a 15 v) 3 1) 5 nx) 6 (tk + tm)) 7 (((a 15 v) 7) + 1)) 8 (((a 15 v) 8) + tm))) (f := 15) (i := v) (x := upd (upd (upd (upd (upd (a 15 v) 3 1) 5 nx) 6 (tk + tm)) 7 (((a 15 v) 7) + 1)) 8 (((a 15 v) 8) + tm)) hT hi (by decide) S2_S2.symm)
  clear hbk hPw hDw hk9
  refine W.widen (k := 0) (n := 0) (Nat.le_of_ble_eq_true rfl) (Nat.le_of_ble_eq_true rfl) ?_
  have s_1 : S2 a 15 v (upd (upd (upd (upd (upd (a 15 v) 3 1) 5 nx) 6 (tk + tm)) 7 (((a 15 v) 7) + 1)) 8 (((a 15 v) 8) + tm)) = V_onto a v nx tm tk := by
    first | rfl | (simp only [V_onto, X_onto])
  rw [s_1] at hP
  exact W.vret hx hb hr (fun t ht hW => ⟨⟨(), rfl, trivial, (by show mw _ _ _ _ t.heap; rw [ht]; exact hP)⟩, hS.F ht⟩) hS.2.2 dX7_goOnto_37
set_option maxRecDepth 100000 in
set_option maxHeartbeats 4000000 in
/-- Vehicle.arrive -/
theorem c_Vehicle_arrive (l : Launch) (dC : Nat → ClassId) (dI : Nat → Nat → Nat) (cy : Nat → ClassId) (L : Lay) (tr : Option Nat) (a : St) (κ : Kap) (τ : Tau) (v : Nat) (tk : Int32) (sz : Nat) (hT : TL L tr τ) (hi : v < 200) : Met l yX7_arrive (tp_w yX7_arrive cX7_arrive 2 none) ({ frames := 0, cells := 0, slots := 0, locals := 0 }) (va_Pc [.ref (L 15 v), .int tk] (mPre dC dI cy (TW cy L tr a κ τ) sz)) (va_Qv (fun _ : Unit => True) (fun (_ : Unit) (t : State) => mw (dC, dI) vwCl (mA (TW cy L tr a κ τ) sz) (TW cy L tr (V_arr a v tk) κ τ) t.heap) (mA (TW cy L tr a κ τ) sz)) (0) (0) (mA (TW cy L tr a κ τ) sz) := by
  refine Met.ofW (cc := cX7_arrive) (maxL := 2) (ret := none) (by decide) rfl ?_
  intro p e s m args below meth c s₁ B hml hv
  obtain ⟨rfl, hsz, hP, hK, hE⟩ := hv
  have hx := B.exec
  have hb := B.bytes
  have hr := B.returns
  have hts0 := atoms_spec (ws := tp_w yX7_arrive cX7_arrive 2 none) B.pre
  have hts : ∀ w ∈ tp_all, w.before _ s = true := fun w h => hts0 w (List.mem_cons_of_mem _ h)
  have hown : s.vm.findClass RX7 = some m.cls := findClass_of_methodNamed B.named
  have hlocks := B.notSynchronized
  subst hsz
  have hP := hP.self s.heap.size
  generalize hAe : mA (TW cy L tr a κ τ) s.heap.size = A at hP ⊢
  have hA : ∀ q : Nat, s.heap.size ≤ q → A q := fun q h => by rw [← hAe]; exact Or.inr h
  have hS : va_S A s.heap s.heap [] := va_S.rf
  have hl9 := lv_entry ([.ref (L 15 v), .int tk]) (n := 2) (Nat.le_of_ble_eq_true rfl)
  rw [lg_entry_eq]
  generalize (lg_sl ([.ref (L 15 v), .int tk]) ++ List.replicate (2 - (lg_sl ([.ref (L 15 v), .int tk])).length) Slot.unset).toArray = ls at hl9 ⊢
  have hl : lv_has ls 2 [(0, .ref (L 15 v)), (1, .int tk)] := hl9
  refine lv_aload_n hx hb dX7_arrive_0 rfl (lv_at hl 0 rfl) ?_
  refine lv_iconst (v := 2) hx hb dX7_arrive_1 (by decide) ?_
  obtain ⟨ws9, k9, hPw, hDw, hk9, -, hbk⟩ := hP.cut (e := .inr (7, [.int ((a 15 v) 0), .int ((a 15 v) 1), .int ((a 15 v) 2), .int ((a 15 v) 3), .int ((a 15 v) 4), .int ((a 15 v) 5), .int ((a 15 v) 6), .int ((a 15 v) 7), .int ((a 15 v) 8), .int ((a 15 v) 9), .int ((a 15 v) 10), .int ((a 15 v) 11), .ref (L 16 v)])) (tw_mem (f := 15) (i := v) hi rfl)
  refine va_put (D := (dC, dI)) (ci := 7) (v := .int 2) (ty := .int) (C := RX7) (T := TX7) (N := 13) hx hb hts tl_X7 tyX7 tyX7_ok nmX7 hown hK hPw hDw hS k9 hk9 rfl 3 (by decide) (hts _ tw_825) (fun _ h9 => h9) rfl (by decide +kernel) rfl rfl (Nat.le_of_ble_eq_true rfl) dX7_arrive_2 (fun H locs hPw hDw hS => ?_)
  have hP : mw (dC, dI) vwCl A (TW cy L tr (S2 a 15 v (upd (a 15 v) 3 2)) κ τ) H := (hbk _ _ hPw hDw).sub (tw_set (b := S2 a 15 v (upd (a 15 v) 3 2)) (f := 15) (i := v) (x := upd (a 15 v) 3 2) hT hi (by decide) rfl)
  clear hbk hPw hDw hk9
  refine lv_aload_n hx hb dX7_arrive_5 rfl (lv_at hl 0 rfl) ?_
  refine lv_iconst (v := -1) hx hb dX7_arrive_6 (by decide) ?_
  obtain ⟨ws9, k9, hPw, hDw, hk9, -, hbk⟩ := hP.cut (e := .inr (7, [.int ((a 15 v) 0), .int ((a 15 v) 1), .int ((a 15 v) 2), .int 2, .int ((a 15 v) 4), .int ((a 15 v) 5), .int ((a 15 v) 6), .int ((a 15 v) 7), .int ((a 15 v) 8), .int ((a 15 v) 9), .int ((a 15 v) 10), .int ((a 15 v) 11), .ref (L 16 v)])) (tw_mem (f := 15) (i := v) hi S2_eq)
  refine va_put (D := (dC, dI)) (ci := 7) (v := .int ((-1))) (ty := .int) (C := RX7) (T := TX7) (N := 13) hx hb hts tl_X7 tyX7 tyX7_ok nmX7 hown hK hPw hDw hS k9 hk9 rfl 5 (by decide) (hts _ tw_829) (fun _ h9 => h9) rfl (by decide +kernel) rfl rfl (Nat.le_of_ble_eq_true rfl) dX7_arrive_7 (fun H locs hPw hDw hS => ?_)
  have hP : mw (dC, dI) vwCl A (TW cy L tr (S2 a 15 v (upd (upd (a 15 v) 3 2) 5 ((-1)))) κ τ) H := (hbk _ _ hPw hDw).sub (tw_set (b := S2 a 15 v (upd (upd (a 15 v) 3 2) 5 ((-1)))) (f := 15) (i := v) (x := upd (upd (a 15 v) 3 2) 5 ((-1))) hT hi (by decide) S2_S2.symm)
  clear hbk hPw hDw hk9
  refine lv_aload_n hx hb dX7_arrive_10 rfl (lv_at hl 0 rfl) ?_
  refine lv_iconst (v := -1) hx hb dX7_arrive_11 (by decide) ?_
  obtain ⟨ws9, k9, hPw, hDw, hk9, -, hbk⟩ := hP.cut (e := .inr (7, [.int ((a 15 v) 0), .int ((a 15 v) 1), .int ((a 15 v) 2), .int 2, .int ((a 15 v) 4), .int ((-1)), .int ((a 15 v) 6), .int ((a 15 v) 7), .int ((a 15 v) 8), .int ((a 15 v) 9), .int ((a 15 v) 10), .int ((a 15 v) 11), .ref (L 16 v)])) (tw_mem (f := 15) (i := v) hi S2_eq)
  refine va_put (D := (dC, dI)) (ci := 7) (v := .int ((-1))) (ty := .int) (C := RX7) (T := TX7) (N := 13) hx hb hts tl_X7 tyX7 tyX7_ok nmX7 hown hK hPw hDw hS k9 hk9 rfl 6 (by decide) (hts _ tw_831) (fun _ h9 => h9) rfl (by decide +kernel) rfl rfl (Nat.le_of_ble_eq_true rfl) dX7_arrive_12 (fun H locs hPw hDw hS => ?_)
  have hP : mw (dC, dI) vwCl A (TW cy L tr (S2 a 15 v (upd (upd (upd (a 15 v) 3 2) 5 ((-1))) 6 ((-1)))) κ τ) H := (hbk _ _ hPw hDw).sub (tw_set (b := S2 a 15 v (upd (upd (upd (a 15 v) 3 2) 5 ((-1))) 6 ((-1)))) (f := 15) (i := v) (x := upd (upd (upd (a 15 v) 3 2) 5 ((-1))) 6 ((-1))) hT hi (by decide) S2_S2.symm)
  clear hbk hPw hDw hk9
  refine lv_aload_n hx hb dX7_arrive_15 rfl (lv_at hl 0 rfl) ?_
  refine lv_iload_n hx hb dX7_arrive_16 rfl (lv_at hl 1 rfl) ?_
  refine lv_aload_n hx hb dX7_arrive_17 rfl (lv_at hl 0 rfl) ?_
  refine va_get (D := (dC, dI)) (ws := [(L 15 v, .inr (7, [.int ((a 15 v) 0), .int ((a 15 v) 1), .int ((a 15 v) 2), .int 2, .int ((a 15 v) 4), .int ((-1)), .int ((-1)), .int ((a 15 v) 7), .int ((a 15 v) 8), .int ((a 15 v) 9), .int ((a 15 v) 10), .int ((a 15 v) 11), .ref (L 16 v)]))]) (ci := 7) (v := .int ((a 15 v) 4)) (C := RX7) (T := TX7) (N := 13) hx hb hts tl_X7 hown hK (hP.one (tw_mem (f := 15) (i := v) hi S2_eq)) 0 rfl rfl 4 (by decide) (hts _ tw_828) (fun _ h9 => h9) rfl dX7_arrive_18 ?_
  refine lv_isub hx hb dX7_arrive_21 ?_
  obtain ⟨ws9, k9, hPw, hDw, hk9, -, hbk⟩ := hP.cut (e := .inr (7, [.int ((a 15 v) 0), .int ((a 15 v) 1), .int ((a 15 v) 2), .int 2, .int ((a 15 v) 4), .int ((-1)), .int ((-1)), .int ((a 15 v) 7), .int ((a 15 v) 8), .int ((a 15 v) 9), .int ((a 15 v) 10), .int ((a 15 v) 11), .ref (L 16 v)])) (tw_mem (f := 15) (i := v) hi S2_eq)
  refine va_put (D := (dC, dI)) (ci := 7) (v := .int (tk - ((a 15 v) 4))) (ty := .int) (C := RX7) (T := TX7) (N := 13) hx hb hts tl_X7 tyX7 tyX7_ok nmX7 hown hK hPw hDw hS k9 hk9 rfl 9 (by decide) (hts _ tw_838) (fun _ h9 => h9) rfl (by decide +kernel) rfl rfl (Nat.le_of_ble_eq_true rfl) dX7_arrive_22 (fun H locs hPw hDw hS => ?_)
  have hP : mw (dC, dI) vwCl A (TW cy L tr (S2 a 15 v (upd (upd (upd (upd (a 15 v) 3 2) 5 ((-1))) 6 ((-1))) 9 (tk - ((a 15 v) 4)))) κ τ) H := (hbk _ _ hPw hDw).sub (tw_set (b := S2 a 15 v (upd (upd (upd (upd (a 15 v) 3 2) 5 ((-1))) 6 ((-1))) 9 (tk - ((a 15 v) 4)))) (f := 15) (i := v) (x := upd (upd (upd (upd (a 15 v) 3 2) 5 ((-1))) 6 ((-1))) 9 (tk - ((a 15 v) 4))) hT hi (by decide) S2_S2.symm)
  clear hbk hPw hDw hk9
  refine lv_aload_n hx hb dX7_arrive_25 rfl (lv_at hl 0 rfl) ?_
  refine lv_aload_n hx hb dX7_arrive_26 rfl (lv_at hl 0 rfl) ?_
  refine va_get (D := (dC, dI)) (ws := [(L 15 v, .inr (7, [.int ((a 15 v) 0), .int ((a 15 v) 1), .int ((a 15 v) 2), .int 2, .int ((a 15 v) 4), .int ((-1)), .int ((-1)), .int ((a 15 v) 7), .int ((a 15 v) 8), .int (tk - ((a 15 v) 4)), .int ((a 15 v) 10), .int ((a 15 v) 11), .ref (L 16 v)]))]) (ci := 7) (v := .int (tk - ((a 15 v) 4))) (C := RX7) (T := TX7) (N := 13) hx hb hts tl_X7 hown hK (hP.one (tw_mem (f := 15) (i := v) hi S2_eq)) 0 rfl rfl 9 (by decide) (hts _ tw_838) (fun _ h9 => h9) rfl dX7_arrive_27 ?_
  refine lv_aload_n hx hb dX7_arrive_30 rfl (lv_at hl 0 rfl) ?_
  refine va_get (D := (dC, dI)) (ws := [(L 15 v, .inr (7, [.int ((a 15 v) 0), .int ((a 15 v) 1), .int ((a 15 v) 2), .int 2, .int ((a 15 v) 4), .int ((-1)), .int ((-1)), .int ((a 15 v) 7), .int ((a 15 v) 8), .int (tk - ((a 15 v) 4)), .int ((a 15 v) 10), .int ((a 15 v) 11), .ref (L 16 v)]))]) (ci := 7) (v := .int ((a 15 v) 8)) (C := RX7) (T := TX7) (N := 13) hx hb hts tl_X7 hown hK (hP.one (tw_mem (f := 15) (i := v) hi S2_eq)) 0 rfl rfl 8 (by decide) (hts _ tw_837) (fun _ h9 => h9) rfl dX7_arrive_31 ?_
  refine lv_isub hx hb dX7_arrive_34 ?_
  obtain ⟨ws9, k9, hPw, hDw, hk9, -, hbk⟩ := hP.cut (e := .inr (7, [.int ((a 15 v) 0), .int ((a 15 v) 1), .int ((a 15 v) 2), .int 2, .int ((a 15 v) 4), .int ((-1)), .int ((-1)), .int ((a 15 v) 7), .int ((a 15 v) 8), .int (tk - ((a 15 v) 4)), .int ((a 15 v) 10), .int ((a 15 v) 11), .ref (L 16 v)])) (tw_mem (f := 15) (i := v) hi S2_eq)
  refine va_put (D := (dC, dI)) (ci := 7) (v := .int ((tk - ((a 15 v) 4)) - ((a 15 v) 8))) (ty := .int) (C := RX7) (T := TX7) (N := 13) hx hb hts tl_X7 tyX7 tyX7_ok nmX7 hown hK hPw hDw hS k9 hk9 rfl 10 (by decide) (hts _ tw_841) (fun _ h9 => h9) rfl (by decide +kernel) rfl rfl (Nat.le_of_ble_eq_true rfl) dX7_arrive_35 (fun H locs hPw hDw hS => ?_)
  have hP : mw (dC, dI) vwCl A (TW cy L tr (S2 a 15 v (upd (upd (upd (upd (upd (a 15 v) 3 2) 5 ((-1))) 6 ((-1))) 9 (tk - ((a 15 v) 4))) 10 ((tk - ((a 15 v) 4)) - ((a 15 v) 8)))) κ τ) H := (hbk _ _ hPw hDw).sub (tw_set (b := S2 a 15 v (upd (upd (upd (upd (upd (a 15 v) 3 2) 5 ((-1))) 6 ((-1))) 9 (tk - ((a 15 v) 4))) 10 ((tk - ((a 15 v) 4)) - ((a 15 v) 8)))) (f := 15) (i := v) (x := upd (upd (upd (upd (upd (a 15 v) 3 2) 5 ((-1))) 6 ((-1))) 9 (tk - ((a 15 v) 4))) 10 ((tk - ((a 15 v) 4)) - ((a 15 v) 8))) hT hi (by decide) S2_S2.symm)
  clear hbk hPw hDw hk9
  refine W.widen (k := 0) (n := 0) (Nat.le_of_ble_eq_true rfl) (Nat.le_of_ble_eq_true rfl) ?_
  have s_1 : S2 a 15 v (upd (upd (upd (upd (upd (a 15 v) 3 2) 5 ((-1))) 6 ((-1))) 9 (tk - ((a 15 v) 4))) 10 ((tk - ((a 15 v) 4)) - ((a 15 v) 8))) = V_arr a v tk := by
    first | rfl | (simp only [V_arr, X_arr])
  rw [s_1] at hP
  exact W.vret hx hb hr (fun t ht hW => ⟨⟨(), rfl, trivial, (by show mw _ _ _ _ t.heap; rw [ht]; exact hP)⟩, hS.F ht⟩) hS.2.2 dX7_arrive_38
end
section
/-! what the roads' methods do, in numbers; what is told of the ways; what keeps the machine from throwing -/
/-- g for 0, 1 .. below n -/
def itN (g : Nat → St → St) : Nat → St → St
  | 0, a => a
  | n + 1, a => g n (itN g n a)
theorem itN_keep {g : Nat → St → St} {P : St → Prop} {a : St} (h0 : P a) (hs : ∀ i b, P b → P (g i b)) : ∀ n, P (itN g n a)
  | 0 => h0
  | n + 1 => hs n _ (itN_keep h0 hs n)
theorem itN_keepB {g : Nat → St → St} {P : St → Prop} {a : St} {N : Nat} (h0 : P a) (hs : ∀ i b, i < N → P b → P (g i b)) : ∀ n, n ≤ N → P (itN g n a)
  | 0, _ => h0
  | n + 1, h => hs n _ (by omega) (itN_keepB h0 hs n (by omega))
abbrev in_ (x : Int32) (n : Nat) : Prop := 0 ≤ x.toInt ∧ x.toInt ≤ n
def Wlink (a : St) (i : Nat) : Prop := in_ (a 2 i 0) 11 ∧ in_ (a 2 i 1) 11 ∧ (a 2 i 4).toInt ≤ 3 ∧ (a 2 i 5).toInt ≤ 3 ∧ in_ (a 3 i 0) 30 ∧ in_ (a 5 i 0) 30
def Wveh (M : Nat) (a : St) (v : Nat) : Prop := in_ (a 15 v 11) 11 ∧ in_ (a 15 v 1) 11 ∧ in_ (a 15 v 7) M
def Wnode (a : St) (n : Nat) : Prop := in_ (a 8 n 0) 4 ∧ in_ (a 12 n 0) 200
def Wflow (a : St) (f : Nat) : Prop := in_ (a 14 f 0) 11 ∧ in_ (a 14 f 1) 11
def Wnum (a : St) : Prop := in_ (a 1 0 0) 24 ∧ in_ (a 0 0 2) 12 ∧ in_ (a 0 0 3) 10 ∧ in_ (a 0 0 4) 200
/-- all numbers that the machine wants within bounds; M: over how many links a vehicle may have gone -/
def Wf (M : Nat) (a : St) : Prop := Wnum a ∧ (∀ i, i < 24 → Wlink a i) ∧ (∀ n, n < 12 → Wnode a n) ∧ (∀ f, f < 10 → Wflow a f) ∧ ∀ v, v < 200 → Wveh M a v
theorem in_lt {x : Int32} {n : Nat} (h : in_ x n) : x.toNatClampNeg < n + 1 := m_ltI h.1 (by have := h.2; omega)
theorem in_le {x : Int32} {n : Nat} (h : in_ x n) : x.toNatClampNeg ≤ n := Nat.le_of_lt_succ (in_lt h)
theorem in_nI {x : Int32} {n : Nat} (h : in_ x n) : x = nI x.toNatClampNeg := m_n0 h.1
abbrev nL (a : St) : Nat := (a 1 0 0).toNatClampNeg
/-- the links' data that ways are reckoned of: from, to, shut, cost -/
def sameR (a b : St) : Prop := a 1 0 0 = b 1 0 0 ∧ ∀ i, i < 24 → a 2 i 0 = b 2 i 0 ∧ a 2 i 1 = b 2 i 1 ∧ a 2 i 7 = b 2 i 7 ∧ a 2 i 8 = b 2 i 8
theorem sameR.refl (a : St) : sameR a a := ⟨rfl, fun _ _ => ⟨rfl, rfl, rfl, rfl⟩⟩
theorem sameR.trans {a b c : St} (h : sameR a b) (g : sameR b c) : sameR a c := ⟨h.1.trans g.1, fun i hi => ⟨(h.2 i hi).1.trans (g.2 i hi).1, (h.2 i hi).2.1.trans (g.2 i hi).2.1, (h.2 i hi).2.2.1.trans (g.2 i hi).2.2.1, (h.2 i hi).2.2.2.trans (g.2 i hi).2.2.2⟩⟩
theorem sameR.symm {a b : St} (h : sameR a b) : sameR b a := ⟨h.1.symm, fun i hi => ⟨(h.2 i hi).1.symm, (h.2 i hi).2.1.symm, (h.2 i hi).2.2.1.symm, (h.2 i hi).2.2.2.symm⟩⟩
theorem sameR.of {a b : St} (h1 : a 1 = b 1) (h2 : a 2 = b 2) : sameR a b := ⟨by rw [h1], fun i _ => by rw [h2]; exact ⟨rfl, rfl, rfl, rfl⟩⟩
/-- a link looked at once: the row of costs, and whether it became better -/
def B_one (a : St) (i : Nat) (z : (Nat → Int32) × Int32) : (Nat → Int32) × Int32 :=
  if a 2 i 7 = 0 then
    if z.1 (a 2 i 1).toNatClampNeg = -1 then z
    else if z.1 (a 2 i 0).toNatClampNeg = -1 then (upd z.1 (a 2 i 0).toNatClampNeg (a 2 i 8 + z.1 (a 2 i 1).toNatClampNeg), 1)
    else if z.1 (a 2 i 0).toNatClampNeg ≤ a 2 i 8 + z.1 (a 2 i 1).toNatClampNeg then z
    else (upd z.1 (a 2 i 0).toNatClampNeg (a 2 i 8 + z.1 (a 2 i 1).toNatClampNeg), 1)
  else z
def B_in (a : St) : Nat → (Nat → Int32) × Int32 → (Nat → Int32) × Int32
  | 0, z => z
  | n + 1, z => B_one a n (B_in a n z)
def B_out (a : St) : Nat → (Nat → Int32) → Nat → Int32
  | 0, g => g
  | d + 1, g => if (B_in a (nL a) (g, 0)).2 = 0 then (B_in a (nL a) (g, 0)).1 else B_out a d (B_in a (nL a) (g, 0)).1
/-- the least costs to a node -/
def bf (a : St) (to : Nat) : Nat → Int32 := B_out a 12 (upd (fun _ => -1) to 0)
theorem B_one_same {a b : St} (h : sameR a b) {i : Nat} (hi : i < 24) (z : (Nat → Int32) × Int32) : B_one a i z = B_one b i z := by
  obtain ⟨h0, h1, h7, h8⟩ := h.2 i hi
  unfold B_one
  rw [h0, h1, h7, h8]
theorem B_in_same {a b : St} (h : sameR a b) : ∀ (n : Nat), n ≤ 24 → ∀ z, B_in a n z = B_in b n z
  | 0, _, _ => rfl
  | n + 1, hn, z => by
    show B_one a n (B_in a n z) = B_one b n (B_in b n z)
    rw [B_in_same h n (by omega), B_one_same h (by omega)]
theorem B_out_same {a b : St} (h : sameR a b) (hn : nL a ≤ 24) : ∀ (d : Nat) (g : Nat → Int32), B_out a d g = B_out b d g
  | 0, _ => rfl
  | d + 1, g => by
    have e : nL a = nL b := by show (a 1 0 0).toNatClampNeg = _; rw [h.1]
    show (if _ then _ else _) = if _ then _ else _
    rw [B_in_same h (nL a) hn, e, B_out_same h hn d]
theorem bf_same {a b : St} (h : sameR a b) (hn : nL a ≤ 24) (to : Nat) : bf a to = bf b to := B_out_same h hn 12 _
def bitA (x : Int32) (k : Int32) : Prop := (x >>> (k &&& 31)) &&& 1 = 1
/-- what is reckoned holds -/
def CV (a : St) (κ : Kap) : Prop := ∀ to : Nat, to < 12 → bitA κ.1 (nI to) → κ.2 to = bf a to
theorem CV.same {a b : St} {κ : Kap} (h : sameR a b) (hn : nL a ≤ 24) (hc : CV a κ) : CV b κ := fun to ht hb => by rw [← bf_same h hn]; exact hc to ht hb
theorem bit0 : ∀ to : Nat, to < 12 → ¬ bitA 0 (nI to) := by
  unfold bitA
  decide +kernel
theorem CV.none {a : St} {g : Nat → Nat → Int32} : CV a ((0 : Int32), g) := fun to ht hb => absurd hb (bit0 to ht)
/-- Roads.find -/
abbrev G_no (a : St) (n : Int32) : Prop := n < 0 ∨ a 1 0 0 ≤ n
def G_bit (x : Int32) (k : Nat) : Int32 := (x >>> (nI k &&& 31)) &&& 1
/-- is there a queue at a link of a set, from the link i on -/
def G_any (a : St) (tk x : Int32) : Nat → Nat → Int32
  | 0, _ => 0
  | d + 1, i => if G_bit x i = 1 then (if L_has a i tk = 0 then G_any a tk x d (i + 1) else 1) else G_any a tk x d (i + 1)
def L_reck (tk : Int32) (i : Nat) (b : St) : St := S2 b 2 i (upd (b 2 i) 8 (L_cost b i tk))
def G_slow (a : St) : St := itN (fun i b => L_slow b i) (nL a) a
def G_reck (a : St) (tk : Int32) : St := itN (L_reck tk) (nL a) a
def G_cq (a : St) (tk : Int32) : St := itN (fun i b => L_cq b i tk) (nL a) a
/-- the link over which a way goes first, looked for from the link i on -/
def G_scan (a : St) (g : Nat → Int32) (fr : Int32) : Nat → Nat → Int32
  | 0, _ => -1
  | d + 1, i => if a 2 i 0 = fr then (if a 2 i 7 = 0 then (if g (a 2 i 1).toNatClampNeg = -1 then G_scan a g fr d (i + 1) else if a 2 i 8 + g (a 2 i 1).toNatClampNeg = g fr.toNatClampNeg then nI i else G_scan a g fr d (i + 1)) else G_scan a g fr d (i + 1)) else G_scan a g fr d (i + 1)
def G_first (a : St) (fr to : Int32) : Int32 := if fr = to then -1 else if bf a to.toNatClampNeg fr.toNatClampNeg = -1 then -1 else G_scan a (bf a to.toNatClampNeg) fr (nL a) 0
/-- a way planned -/
def P_way (v : Nat) (to : Int32) : Nat → Int32 → St → St × Int32
  | 0, nd, b => (b, if nd = to then 1 else 0)
  | d + 1, nd, b => if nd = to then (b, 1) else if G_no b (G_first b nd to) then (b, 0) else P_way v to d ((V_plan b v (G_first b nd to)) 2 (G_first b nd to).toNatClampNeg 1) (V_plan b v (G_first b nd to))
theorem upd_id {f : Nat → Int32} {k : Nat} {x : Int32} (h : x = f k) : upd f k x = f := by
  funext j
  unfold upd
  split
  · rename_i hj
    rw [hj, h]
  · rfl
theorem L_slow_off {a : St} {i g j : Nat} (h : g ≠ 2) : L_slow a i g j = a g j := S2_nf h
theorem L_reck_off {a : St} {i g j : Nat} {tk : Int32} (h : g ≠ 2) : L_reck tk i a g j = a g j := S2_nf h
theorem L_cq_off {a : St} {i g j : Nat} {tk : Int32} (h : g ≠ 2) : L_cq a i tk g j = a g j := S2_nf h
theorem m_succ {x : Int32} {n : Nat} (h : in_ x n) (hx : x.toInt < n) (hn : n < 1000000) : (x + 1).toInt = x.toInt + 1 := by
  have h1 := h.1
  rw [Int32.toInt_add, Int.bmod_eq_of_le] <;> simp <;> omega
theorem in_succ {x : Int32} {n : Nat} (h : in_ x n) (hx : x.toInt < n) (hn : n < 1000000) : in_ (x + 1) n := by
  have h1 := h.1
  have h2 := m_succ h hx hn
  exact ⟨by omega, by omega⟩
theorem V_plan_off {a : St} {v : Nat} {n : Int32} {g j : Nat} (h1 : g ≠ 15) (h2 : g ≠ 16) : V_plan a v n g j = a g j := by
  unfold V_plan
  split
  · rfl
  · rw [S2_nf h1, S2_nf h2]
theorem upd_ne {f : Nat → Int32} {k j : Nat} {x : Int32} (h : j ≠ k) : upd f k x j = f j := by simp [upd, h]
theorem upd_eq {f : Nat → Int32} {k : Nat} {x : Int32} : upd f k x k = x := by simp [upd]
theorem V_plan_15 {a : St} {v w : Nat} {n : Int32} {k : Nat} (h : k ≠ 11) : V_plan a v n 15 w k = a 15 w k := by
  unfold V_plan
  split
  · rfl
  · by_cases hw : w = v
    · subst hw
      rw [S2_eq, upd_ne h]
    · rw [S2_ni hw, S2_nf (by decide)]
theorem V_plan_Wf {M : Nat} {a : St} {v : Nat} {n : Int32} (hv : v < 200) (h : Wf M a) : Wf M (V_plan a v n) := by
  have o := @V_plan_off a v n
  refine ⟨?_, fun i hi => ?_, fun i hi => ?_, fun i hi => ?_, fun w hw => ?_⟩
  · unfold Wnum
    rw [o (by decide) (by decide), o (by decide) (by decide)]
    exact h.1
  · unfold Wlink
    rw [o (by decide) (by decide), o (by decide) (by decide), o (by decide) (by decide)]
    exact h.2.1 i hi
  · unfold Wnode
    rw [o (by decide) (by decide), o (by decide) (by decide)]
    exact h.2.2.1 i hi
  · unfold Wflow
    rw [o (by decide) (by decide)]
    exact h.2.2.2.1 i hi
  · obtain ⟨h1, h2, h3⟩ := h.2.2.2.2 w hw
    unfold Wveh
    rw [V_plan_15 (k := 1) (by decide), V_plan_15 (k := 7) (by decide)]
    refine ⟨?_, h2, h3⟩
    unfold V_plan
    split
    · exact h1
    · rename_i hn
      by_cases hwv : w = v
      · subst hwv
        rw [S2_eq, upd_eq]
        exact in_succ h1 (m_ge hn) (by decide)
      · rw [S2_ni hwv, S2_nf (by decide)]
        exact h1
/-- an array's content told anew where it is the same -/
theorem arr_same {c : ClassId} {n : Nat} {f g : Nat → Int32} (h : ∀ j, j < n → f j = g j) : vp_cell c (n, .inl f) = vp_cell c (n, .inl g) := by
  rw [vp_cell_i, vp_cell_i]
  unfold arrV
  congr 2
  funext j
  show Value.int (f j.val) = Value.int (g j.val)
  rw [h j.val j.isLt]
/-- what stands at a place, told anew -/
theorem mw.swap {D : va_G} {cl : List vw_C} {A : Nat → Prop} {P : mP} {H : Heap} {a : Nat} {e x : va_E} (h : mw D cl A P H) (he : P a e) (hx : va_at D cl (a, e) H → va_at D cl (a, x) H) : mw D cl A (mset P a x) H := by
  obtain ⟨ws, k, h1, h2, h3, -, h5⟩ := h.cut he
  exact h5 x H (va_P.set h1 h2 h3 (hx (h.at he)) (fun _ _ => rfl)) (h2.set h3)
theorem mw.fill {D : va_G} {cl : List vw_C} {A : Nat → Prop} {P : mP} {H : Heap} {a n : Nat} {c : ClassId} {f g : Nat → Int32} (h : mw D cl A P H) (he : P a (.inl (c, n, .inl f))) (hx : ∀ j, j < n → f j = g j) : mw D cl A (mset P a (.inl (c, n, .inl g))) H := h.swap he fun h9 => by
  show H[a]? = some (vp_cell c (n, .inl g))
  rw [← arr_same hx]
  exact h9
end
section
theorem tw_701 : Cond.fieldLink RX2 66 "Turnpike$Roads" "reckoned" "I" ∈ tp_all := tp_mem 701 (by decide +kernel) rfl
theorem tw_697 : Cond.fieldLink RX2 23 "Turnpike$Roads" "links" "I" ∈ tp_all := tp_mem 697 (by decide +kernel) rfl
theorem tw_695 : Cond.fieldLink RX2 11 "Turnpike$Roads" "link" "[LTurnpike$Link;" ∈ tp_all := tp_mem 695 (by decide +kernel) rfl
theorem tw_173 : Cond.code yX1_playSlowTick cX1_playSlowTick 1 none ∈ tp_all := tp_mem 173 (by decide +kernel) rfl
theorem tw_170 : Cond.methodLink RX2 55 yX1_playSlowTick ∈ tp_all := tp_mem 170 (by decide +kernel) rfl
theorem tw_171 : Cond.instanceMethod yX1_playSlowTick ∈ tp_all := tp_mem 171 (by decide +kernel) rfl
theorem tw_172 : Cond.selects RX1 yX1_playSlowTick yX1_playSlowTick ∈ tp_all := tp_mem 172 (by decide +kernel) rfl
theorem tw_368 : Cond.code yX1_countQueueIn cX1_countQueueIn 3 none ∈ tp_all := tp_mem 368 (by decide +kernel) rfl
theorem tw_365 : Cond.methodLink RX2 62 yX1_countQueueIn ∈ tp_all := tp_mem 365 (by decide +kernel) rfl
theorem tw_366 : Cond.instanceMethod yX1_countQueueIn ∈ tp_all := tp_mem 366 (by decide +kernel) rfl
theorem tw_367 : Cond.selects RX1 yX1_countQueueIn yX1_countQueueIn ∈ tp_all := tp_mem 367 (by decide +kernel) rfl
theorem tw_252 : Cond.code yX1_hasQueueIn cX1_hasQueueIn 2 (some .boolean) ∈ tp_all := tp_mem 252 (by decide +kernel) rfl
theorem tw_249 : Cond.methodLink RX2 51 yX1_hasQueueIn ∈ tp_all := tp_mem 249 (by decide +kernel) rfl
theorem tw_250 : Cond.instanceMethod yX1_hasQueueIn ∈ tp_all := tp_mem 250 (by decide +kernel) rfl
theorem tw_251 : Cond.selects RX1 yX1_hasQueueIn yX1_hasQueueIn ∈ tp_all := tp_mem 251 (by decide +kernel) rfl
theorem dX2_forgetWays_0 : decode cX2_forgetWays 0 = .ok (.aload_n 0, 1) := by decide +kernel
theorem dX2_forgetWays_1 : decode cX2_forgetWays 1 = .ok (.iconst 0, 1) := by decide +kernel
theorem dX2_forgetWays_2 : decode cX2_forgetWays 2 = .ok (.putfield 66, 3) := by decide +kernel
theorem dX2_forgetWays_5 : decode cX2_forgetWays 5 = .ok (.return_, 1) := by decide +kernel
theorem dX2_find_0 : decode cX2_find 0 = .ok (.iload_n 1, 1) := by decide +kernel
theorem dX2_find_1 : decode cX2_find 1 = .ok (.ifCond .lt 20, 3) := by decide +kernel
theorem dX2_find_21 : decode cX2_find 21 = .ok (.aconst_null, 1) := by decide +kernel
theorem dX2_find_22 : decode cX2_find 22 = .ok (.areturn, 1) := by decide +kernel
theorem dX2_find_4 : decode cX2_find 4 = .ok (.iload_n 1, 1) := by decide +kernel
theorem dX2_find_5 : decode cX2_find 5 = .ok (.aload_n 0, 1) := by decide +kernel
theorem dX2_find_6 : decode cX2_find 6 = .ok (.getfield 23, 3) := by decide +kernel
theorem dX2_find_9 : decode cX2_find 9 = .ok (.if_icmp .ge 12, 3) := by decide +kernel
theorem dX2_find_12 : decode cX2_find 12 = .ok (.aload_n 0, 1) := by decide +kernel
theorem dX2_find_13 : decode cX2_find 13 = .ok (.getfield 11, 3) := by decide +kernel
theorem dX2_find_16 : decode cX2_find 16 = .ok (.iload_n 1, 1) := by decide +kernel
theorem dX2_find_17 : decode cX2_find 17 = .ok (.aaload, 1) := by decide +kernel
theorem dX2_find_18 : decode cX2_find 18 = .ok (.goto 4, 3) := by decide +kernel
theorem dX2_playSlowTick_0 : decode cX2_playSlowTick 0 = .ok (.iconst 0, 1) := by decide +kernel
theorem dX2_playSlowTick_1 : decode cX2_playSlowTick 1 = .ok (.istore_n 1, 1) := by decide +kernel
theorem dX2_playSlowTick_2 : decode cX2_playSlowTick 2 = .ok (.iload_n 1, 1) := by decide +kernel
theorem dX2_playSlowTick_3 : decode cX2_playSlowTick 3 = .ok (.aload_n 0, 1) := by decide +kernel
theorem dX2_playSlowTick_4 : decode cX2_playSlowTick 4 = .ok (.getfield 23, 3) := by decide +kernel
theorem dX2_playSlowTick_7 : decode cX2_playSlowTick 7 = .ok (.if_icmp .ge 18, 3) := by decide +kernel
theorem dX2_playSlowTick_25 : decode cX2_playSlowTick 25 = .ok (.return_, 1) := by decide +kernel
theorem dX2_playSlowTick_10 : decode cX2_playSlowTick 10 = .ok (.aload_n 0, 1) := by decide +kernel
theorem dX2_playSlowTick_11 : decode cX2_playSlowTick 11 = .ok (.getfield 11, 3) := by decide +kernel
theorem dX2_playSlowTick_14 : decode cX2_playSlowTick 14 = .ok (.iload_n 1, 1) := by decide +kernel
theorem dX2_playSlowTick_15 : decode cX2_playSlowTick 15 = .ok (.aaload, 1) := by decide +kernel
theorem dX2_playSlowTick_16 : decode cX2_playSlowTick 16 = .ok (.invokevirtual 55, 3) := by decide +kernel
theorem dX2_playSlowTick_19 : decode cX2_playSlowTick 19 = .ok (.iinc 1 1, 3) := by decide +kernel
theorem dX2_playSlowTick_22 : decode cX2_playSlowTick 22 = .ok (.goto (-20), 3) := by decide +kernel
theorem dX2_countQueuesIn_0 : decode cX2_countQueuesIn 0 = .ok (.iconst 0, 1) := by decide +kernel
theorem dX2_countQueuesIn_1 : decode cX2_countQueuesIn 1 = .ok (.istore_n 2, 1) := by decide +kernel
theorem dX2_countQueuesIn_2 : decode cX2_countQueuesIn 2 = .ok (.iload_n 2, 1) := by decide +kernel
theorem dX2_countQueuesIn_3 : decode cX2_countQueuesIn 3 = .ok (.aload_n 0, 1) := by decide +kernel
theorem dX2_countQueuesIn_4 : decode cX2_countQueuesIn 4 = .ok (.getfield 23, 3) := by decide +kernel
theorem dX2_countQueuesIn_7 : decode cX2_countQueuesIn 7 = .ok (.if_icmp .ge 19, 3) := by decide +kernel
theorem dX2_countQueuesIn_26 : decode cX2_countQueuesIn 26 = .ok (.return_, 1) := by decide +kernel
theorem dX2_countQueuesIn_10 : decode cX2_countQueuesIn 10 = .ok (.aload_n 0, 1) := by decide +kernel
theorem dX2_countQueuesIn_11 : decode cX2_countQueuesIn 11 = .ok (.getfield 11, 3) := by decide +kernel
theorem dX2_countQueuesIn_14 : decode cX2_countQueuesIn 14 = .ok (.iload_n 2, 1) := by decide +kernel
theorem dX2_countQueuesIn_15 : decode cX2_countQueuesIn 15 = .ok (.aaload, 1) := by decide +kernel
theorem dX2_countQueuesIn_16 : decode cX2_countQueuesIn 16 = .ok (.iload_n 1, 1) := by decide +kernel
theorem dX2_countQueuesIn_17 : decode cX2_countQueuesIn 17 = .ok (.invokevirtual 62, 3) := by decide +kernel
theorem dX2_countQueuesIn_20 : decode cX2_countQueuesIn 20 = .ok (.iinc 2 1, 3) := by decide +kernel
theorem dX2_countQueuesIn_23 : decode cX2_countQueuesIn 23 = .ok (.goto (-21), 3) := by decide +kernel
theorem dX2_anyHasQueueIn_0 : decode cX2_anyHasQueueIn 0 = .ok (.iconst 0, 1) := by decide +kernel
theorem dX2_anyHasQueueIn_1 : decode cX2_anyHasQueueIn 1 = .ok (.istore_n 3, 1) := by decide +kernel
theorem dX2_anyHasQueueIn_2 : decode cX2_anyHasQueueIn 2 = .ok (.iload_n 3, 1) := by decide +kernel
theorem dX2_anyHasQueueIn_3 : decode cX2_anyHasQueueIn 3 = .ok (.aload_n 0, 1) := by decide +kernel
theorem dX2_anyHasQueueIn_4 : decode cX2_anyHasQueueIn 4 = .ok (.getfield 23, 3) := by decide +kernel
theorem dX2_anyHasQueueIn_7 : decode cX2_anyHasQueueIn 7 = .ok (.if_icmp .ge 33, 3) := by decide +kernel
theorem dX2_anyHasQueueIn_40 : decode cX2_anyHasQueueIn 40 = .ok (.iconst 0, 1) := by decide +kernel
theorem dX2_anyHasQueueIn_41 : decode cX2_anyHasQueueIn 41 = .ok (.ireturn, 1) := by decide +kernel
theorem dX2_anyHasQueueIn_10 : decode cX2_anyHasQueueIn 10 = .ok (.iload_n 2, 1) := by decide +kernel
theorem dX2_anyHasQueueIn_11 : decode cX2_anyHasQueueIn 11 = .ok (.iload_n 3, 1) := by decide +kernel
theorem dX2_anyHasQueueIn_12 : decode cX2_anyHasQueueIn 12 = .ok (.ishr, 1) := by decide +kernel
theorem dX2_anyHasQueueIn_13 : decode cX2_anyHasQueueIn 13 = .ok (.iconst 1, 1) := by decide +kernel
theorem dX2_anyHasQueueIn_14 : decode cX2_anyHasQueueIn 14 = .ok (.iand, 1) := by decide +kernel
theorem dX2_anyHasQueueIn_15 : decode cX2_anyHasQueueIn 15 = .ok (.iconst 1, 1) := by decide +kernel
theorem dX2_anyHasQueueIn_16 : decode cX2_anyHasQueueIn 16 = .ok (.if_icmp .ne 18, 3) := by decide +kernel
theorem dX2_anyHasQueueIn_34 : decode cX2_anyHasQueueIn 34 = .ok (.iinc 3 1, 3) := by decide +kernel
theorem dX2_anyHasQueueIn_37 : decode cX2_anyHasQueueIn 37 = .ok (.goto (-35), 3) := by decide +kernel
theorem dX2_anyHasQueueIn_19 : decode cX2_anyHasQueueIn 19 = .ok (.aload_n 0, 1) := by decide +kernel
theorem dX2_anyHasQueueIn_20 : decode cX2_anyHasQueueIn 20 = .ok (.getfield 11, 3) := by decide +kernel
theorem dX2_anyHasQueueIn_23 : decode cX2_anyHasQueueIn 23 = .ok (.iload_n 3, 1) := by decide +kernel
theorem dX2_anyHasQueueIn_24 : decode cX2_anyHasQueueIn 24 = .ok (.aaload, 1) := by decide +kernel
theorem dX2_anyHasQueueIn_25 : decode cX2_anyHasQueueIn 25 = .ok (.iload_n 1, 1) := by decide +kernel
theorem dX2_anyHasQueueIn_26 : decode cX2_anyHasQueueIn 26 = .ok (.invokevirtual 51, 3) := by decide +kernel
theorem dX2_anyHasQueueIn_29 : decode cX2_anyHasQueueIn 29 = .ok (.ifCond .eq 5, 3) := by decide +kernel
theorem dX2_anyHasQueueIn_32 : decode cX2_anyHasQueueIn 32 = .ok (.iconst 1, 1) := by decide +kernel
theorem dX2_anyHasQueueIn_33 : decode cX2_anyHasQueueIn 33 = .ok (.ireturn, 1) := by decide +kernel
set_option maxRecDepth 100000 in
set_option maxHeartbeats 4000000 in
/-- Roads.forgetWays -/
theorem c_Roads_forgetWays (l : Launch) (dC : Nat → ClassId) (dI : Nat → Nat → Nat) (cy : Nat → ClassId) (L : Lay) (tr : Option Nat) (a : St) (κ : Kap) (τ : Tau) (sz : Nat) (hT : TL L tr τ) : Met l yX2_forgetWays (tp_w yX2_forgetWays cX2_forgetWays 1 none) ({ frames := 0, cells := 0, slots := 0, locals := 0 }) (va_Pc [.ref (L 1 0)] (mPre dC dI cy (TW cy L tr a κ τ) sz)) (va_Qv (fun _ : Unit => True) (fun (_ : Unit) (t : State) => mw (dC, dI) vwCl (mA (TW cy L tr a κ τ) sz) (TW cy L tr a ((0, κ.2)) τ) t.heap) (mA (TW cy L tr a κ τ) sz)) (0) (0) (mA (TW cy L tr a κ τ) sz) := by
  refine Met.ofW (cc := cX2_forgetWays) (maxL := 1) (ret := none) (by decide) rfl ?_
  intro p e s m args below meth c s₁ B hml hv
  obtain ⟨rfl, hsz, hP, hK, hE⟩ := hv
  have hx := B.exec
  have hb := B.bytes
  have hr := B.returns
  have hts0 := atoms_spec (ws := tp_w yX2_forgetWays cX2_forgetWays 1 none) B.pre
  have hts : ∀ w ∈ tp_all, w.before _ s = true := fun w h => hts0 w (List.mem_cons_of_mem _ h)
  have hown : s.vm.findClass RX2 = some m.cls := findClass_of_methodNamed B.named
  have hlocks := B.notSynchronized
  subst hsz
  have hP := hP.self s.heap.size
  generalize hAe : mA (TW cy L tr a κ τ) s.heap.size = A at hP ⊢
  have hA : ∀ q : Nat, s.heap.size ≤ q → A q := fun q h => by rw [← hAe]; exact Or.inr h
  have hS : va_S A s.heap s.heap [] := va_S.rf
  have hl9 := lv_entry ([.ref (L 1 0)]) (n := 1) (Nat.le_of_ble_eq_true rfl)
  rw [lg_entry_eq]
  generalize (lg_sl ([.ref (L 1 0)]) ++ List.replicate (1 - (lg_sl ([.ref (L 1 0)])).length) Slot.unset).toArray = ls at hl9 ⊢
  have hl : lv_has ls 1 [(0, .ref (L 1 0))] := hl9
  refine lv_aload_n hx hb dX2_forgetWays_0 rfl (lv_at hl 0 rfl) ?_
  refine lv_iconst (v := 0) hx hb dX2_forgetWays_1 (by decide) ?_
  obtain ⟨ws9, k9, hPw, hDw, hk9, -, hbk⟩ := hP.cut (e := .inr (2, [.ref (L 24 0), .int ((a 1 0) 0), .ref (L 25 0), .int κ.1])) (tw_mem (f := 1) (i := 0) (by decide) rfl)
  refine va_put (D := (dC, dI)) (ci := 2) (v := .int 0) (ty := .int) (C := RX2) (T := TX2) (N := 4) hx hb hts tl_X2 tyX2 tyX2_ok nmX2 hown hK hPw hDw hS k9 hk9 rfl 3 (by decide) (hts _ tw_701) (fun _ h9 => h9) rfl (by decide +kernel) rfl rfl (Nat.le_of_ble_eq_true rfl) dX2_forgetWays_2 (fun H locs hPw hDw hS => ?_)
  have hP : mw (dC, dI) vwCl A (TW cy L tr a ((0, κ.2)) τ) H := (hbk _ _ hPw hDw).sub (tw_set1 (b := a) (x := a 1 0) (r := 0) hT S2_id.symm rfl)
  clear hbk hPw hDw hk9
  refine W.widen (k := 0) (n := 0) (Nat.le_of_ble_eq_true rfl) (Nat.le_of_ble_eq_true rfl) ?_
  exact W.vret hx hb hr (fun t ht hW => ⟨⟨(), rfl, trivial, (by show mw _ _ _ _ t.heap; rw [ht]; exact hP)⟩, hS.F ht⟩) hS.2.2 dX2_forgetWays_5
set_option maxRecDepth 100000 in
set_option maxHeartbeats 4000000 in
/-- Roads.find: none -/
theorem c_Roads_find_none (l : Launch) (dC : Nat → ClassId) (dI : Nat → Nat → Nat) (cy : Nat → ClassId) (L : Lay) (tr : Option Nat) (a : St) (κ : Kap) (τ : Tau) (n : Int32) (sz : Nat) (hT : TL L tr τ) (hf : G_no a n) : Met l yX2_find (tp_w yX2_find cX2_find 2 (some (.object "Turnpike$Link"))) ({ frames := 0, cells := 0, slots := 0, locals := 0 }) (va_Pc [.ref (L 1 0), .int n] (mPre dC dI cy (TW cy L tr a κ τ) sz)) (va_Qq (fun (r u : Option Nat) => r = u) (fun (u : Option Nat) (t : State) => (u = (none : Option Nat)) ∧ mw (dC, dI) vwCl (mA (TW cy L tr a κ τ) sz) (TW cy L tr a κ τ) t.heap) (mA (TW cy L tr a κ τ) sz)) (0) (0) (mA (TW cy L tr a κ τ) sz) := by
  refine Met.ofW (cc := cX2_find) (maxL := 2) (ret := (some (.object "Turnpike$Link"))) (by decide) rfl ?_
  intro p e s m args below meth c s₁ B hml hv
  obtain ⟨rfl, hsz, hP, hK, hE⟩ := hv
  have hx := B.exec
  have hb := B.bytes
  have hr := B.returns
  have hts0 := atoms_spec (ws := tp_w yX2_find cX2_find 2 (some (.object "Turnpike$Link"))) B.pre
  have hts : ∀ w ∈ tp_all, w.before _ s = true := fun w h => hts0 w (List.mem_cons_of_mem _ h)
  have hown : s.vm.findClass RX2 = some m.cls := findClass_of_methodNamed B.named
  have hlocks := B.notSynchronized
  subst hsz
  have hP := hP.self s.heap.size
  generalize hAe : mA (TW cy L tr a κ τ) s.heap.size = A at hP ⊢
  have hA : ∀ q : Nat, s.heap.size ≤ q → A q := fun q h => by rw [← hAe]; exact Or.inr h
  have hS : va_S A s.heap s.heap [] := va_S.rf
  have hl9 := lv_entry ([.ref (L 1 0), .int n]) (n := 2) (Nat.le_of_ble_eq_true rfl)
  rw [lg_entry_eq]
  generalize (lg_sl ([.ref (L 1 0), .int n]) ++ List.replicate (2 - (lg_sl ([.ref (L 1 0), .int n])).length) Slot.unset).toArray = ls at hl9 ⊢
  have hl : lv_has ls 2 [(0, .ref (L 1 0)), (1, .int n)] := hl9
  refine lv_iload_n hx hb dX2_find_0 rfl (lv_at hl 1 rfl) ?_
  refine lv_if_lt (tgt := 21) hx hb dX2_find_1 (by decide) (fun c_1 => ?_) (fun c_1 => ?_)
  · refine lv_null hx hb dX2_find_21 ?_
    refine W.widen (k := 0) (n := 0) (Nat.le_of_ble_eq_true rfl) (Nat.le_of_ble_eq_true rfl) ?_
    have g_1 : none = (none : Option Nat) := by
      first | rfl | assumption | (simp only [if_pos c_1])
    exact W.aret (v := .null) hx hb hr (Or.inl ⟨_, rfl⟩) (Or.inl rfl) (fun t ht hW => ⟨⟨none, none, rfl, rfl, ⟨g_1, by show mw _ _ _ _ t.heap; rw [ht]; exact hP⟩⟩, hS.F ht⟩) hS.2.2 dX2_find_22
  · refine lv_iload_n hx hb dX2_find_4 rfl (lv_at hl 1 rfl) ?_
    refine lv_aload_n hx hb dX2_find_5 rfl (lv_at hl 0 rfl) ?_
    refine va_get (D := (dC, dI)) (ws := [(L 1 0, .inr (2, [.ref (L 24 0), .int ((a 1 0) 0), .ref (L 25 0), .int κ.1]))]) (ci := 2) (v := .int ((a 1 0) 0)) (C := RX2) (T := TX2) (N := 4) hx hb hts tl_X2 hown hK (hP.one (tw_mem (f := 1) (i := 0) (by decide) rfl)) 0 rfl rfl 1 (by decide) (hts _ tw_697) (fun _ h9 => h9) rfl dX2_find_6 ?_
    refine lv_icmp_ge (tgt := 21) hx hb dX2_find_9 (by decide) (fun c_2 => ?_) (fun c_2 => ?_)
    · refine lv_null hx hb dX2_find_21 ?_
      refine W.widen (k := 0) (n := 0) (Nat.le_of_ble_eq_true rfl) (Nat.le_of_ble_eq_true rfl) ?_
      have g_2 : none = (none : Option Nat) := by
        first | rfl | assumption | (simp only [if_neg c_1, if_pos c_2])
      exact W.aret (v := .null) hx hb hr (Or.inl ⟨_, rfl⟩) (Or.inl rfl) (fun t ht hW => ⟨⟨none, none, rfl, rfl, ⟨g_2, by show mw _ _ _ _ t.heap; rw [ht]; exact hP⟩⟩, hS.F ht⟩) hS.2.2 dX2_find_22
    · exact absurd hf (fun h => h.elim c_1 c_2)
set_option maxRecDepth 100000 in
set_option maxHeartbeats 4000000 in
/-- Roads.find: a link -/
theorem c_Roads_find_some (l : Launch) (dC : Nat → ClassId) (dI : Nat → Nat → Nat) (cy : Nat → ClassId) (L : Lay) (tr : Option Nat) (a : St) (κ : Kap) (τ : Tau) (M : Nat) (n : Int32) (sz : Nat) (hT : TL L tr τ) (hw : Wf M a) (hf : ¬ G_no a n) : Met l yX2_find (tp_w yX2_find cX2_find 2 (some (.object "Turnpike$Link"))) ({ frames := 0, cells := 0, slots := 0, locals := 0 }) (va_Pc [.ref (L 1 0), .int n] (mPre dC dI cy (TW cy L tr a κ τ) sz)) (va_Qr (fun _ : Unit => True) (fun (_ : Unit) (rv : Nat) (t : State) => (rv = L 2 n.toNatClampNeg) ∧ mw (dC, dI) vwCl (mA (TW cy L tr a κ τ) sz) (TW cy L tr a κ τ) t.heap) (mA (TW cy L tr a κ τ) sz)) (0) (0) (mA (TW cy L tr a κ τ) sz) := by
  refine Met.ofW (cc := cX2_find) (maxL := 2) (ret := (some (.object "Turnpike$Link"))) (by decide) rfl ?_
  intro p e s m args below meth c s₁ B hml hv
  obtain ⟨rfl, hsz, hP, hK, hE⟩ := hv
  have hx := B.exec
  have hb := B.bytes
  have hr := B.returns
  have hts0 := atoms_spec (ws := tp_w yX2_find cX2_find 2 (some (.object "Turnpike$Link"))) B.pre
  have hts : ∀ w ∈ tp_all, w.before _ s = true := fun w h => hts0 w (List.mem_cons_of_mem _ h)
  have hown : s.vm.findClass RX2 = some m.cls := findClass_of_methodNamed B.named
  have hlocks := B.notSynchronized
  subst hsz
  have hP := hP.self s.heap.size
  generalize hAe : mA (TW cy L tr a κ τ) s.heap.size = A at hP ⊢
  have hA : ∀ q : Nat, s.heap.size ≤ q → A q := fun q h => by rw [← hAe]; exact Or.inr h
  have hS : va_S A s.heap s.heap [] := va_S.rf
  have hl9 := lv_entry ([.ref (L 1 0), .int n]) (n := 2) (Nat.le_of_ble_eq_true rfl)
  rw [lg_entry_eq]
  generalize (lg_sl ([.ref (L 1 0), .int n]) ++ List.replicate (2 - (lg_sl ([.ref (L 1 0), .int n])).length) Slot.unset).toArray = ls at hl9 ⊢
  have hl : lv_has ls 2 [(0, .ref (L 1 0)), (1, .int n)] := hl9
  refine lv_iload_n hx hb dX2_find_0 rfl (lv_at hl 1 rfl) ?_
  refine lv_if_lt (tgt := 21) hx hb dX2_find_1 (by decide) (fun c_1 => absurd c_1 (fun h => hf (Or.inl h))) (fun _ => ?_)
  refine lv_iload_n hx hb dX2_find_4 rfl (lv_at hl 1 rfl) ?_
  refine lv_aload_n hx hb dX2_find_5 rfl (lv_at hl 0 rfl) ?_
  refine va_get (D := (dC, dI)) (ws := [(L 1 0, .inr (2, [.ref (L 24 0), .int ((a 1 0) 0), .ref (L 25 0), .int κ.1]))]) (ci := 2) (v := .int ((a 1 0) 0)) (C := RX2) (T := TX2) (N := 4) hx hb hts tl_X2 hown hK (hP.one (tw_mem (f := 1) (i := 0) (by decide) rfl)) 0 rfl rfl 1 (by decide) (hts _ tw_697) (fun _ h9 => h9) rfl dX2_find_6 ?_
  refine lv_icmp_ge (tgt := 21) hx hb dX2_find_9 (by decide) (fun c_2 => absurd c_2 (fun h => hf (Or.inr h))) (fun _ => ?_)
  refine lv_aload_n hx hb dX2_find_12 rfl (lv_at hl 0 rfl) ?_
  refine va_get (D := (dC, dI)) (ws := [(L 1 0, .inr (2, [.ref (L 24 0), .int ((a 1 0) 0), .ref (L 25 0), .int κ.1]))]) (ci := 2) (v := .ref (L 24 0)) (C := RX2) (T := TX2) (N := 4) hx hb hts tl_X2 hown hK (hP.one (tw_mem (f := 1) (i := 0) (by decide) rfl)) 0 rfl rfl 0 (by decide) (hts _ tw_695) (fun _ h9 => h9) rfl dX2_find_13 ?_
  refine lv_iload_n hx hb dX2_find_16 rfl (lv_at hl 1 rfl) ?_
  have j_1 : (n : Int32).toNatClampNeg = n.toNatClampNeg := m_cl (m_nI (fun h => hf (Or.inl h))) (m_lt (n := 24) (fun h => hf (Or.inl h)) (fun h => hf (Or.inr h)) hw.1.1.2) (by decide)
  refine va_aldq hx hb hK (ws := [(L 24 0, .inl (cy 3, 24, .inr (.inr (.inr (.inr (fun j => some (L 2 j)))))))]) (hP.one (tw_mem (f := 24) (i := 0) (by decide) rfl)) 0 3 rfl rfl (m_in (m_nI (fun h => hf (Or.inl h))) (m_lt (n := 24) (fun h => hf (Or.inl h)) (fun h => hf (Or.inr h)) hw.1.1.2) (by decide)) dX2_find_17 ?_
  refine W.eq (g2 := F0 m 18 ls [.ref (L 2 n.toNatClampNeg)]) (by first | (rw [j_1]; done) | (rw [j_1]; rfl)) ?_
  refine lv_goto (tgt := 22) hx hb dX2_find_18 (by decide) ?_
  refine W.widen (k := 0) (n := 0) (Nat.le_of_ble_eq_true rfl) (Nat.le_of_ble_eq_true rfl) ?_
  have g_1 : (L 2 n.toNatClampNeg) = L 2 n.toNatClampNeg := by
    first | rfl | assumption | (simp only [])
  exact W.aret (v := .ref (L 2 n.toNatClampNeg)) hx hb hr (Or.inl ⟨_, rfl⟩) (Or.inr ⟨_, rfl⟩) (fun t ht hW => ⟨⟨(), L 2 n.toNatClampNeg, rfl, trivial, ⟨g_1, by show mw _ _ _ _ t.heap; rw [ht]; exact hP⟩⟩, hS.F ht⟩) hS.2.2 dX2_find_22
set_option maxRecDepth 100000 in
set_option maxHeartbeats 4000000 in
/-- Roads.playSlowTick -/
theorem c_Roads_playSlowTick (l : Launch) (dC : Nat → ClassId) (dI : Nat → Nat → Nat) (cy : Nat → ClassId) (L : Lay) (tr : Option Nat) (a : St) (κ : Kap) (τ : Tau) (M : Nat) (sz : Nat) (hT : TL L tr τ) (hw : Wf M a) : Met l yX2_playSlowTick (tp_w yX2_playSlowTick cX2_playSlowTick 2 none) ({ frames := 1, cells := 0, slots := 0, locals := 20 }) (va_Pc [.ref (L 1 0)] (mPre dC dI cy (TW cy L tr a κ τ) sz)) (va_Qv (fun _ : Unit => True) (fun (_ : Unit) (t : State) => mw (dC, dI) vwCl (mA (TW cy L tr a κ τ) sz) (TW cy L tr (G_slow a) κ τ) t.heap) (mA (TW cy L tr a κ τ) sz)) (0) (0) (mA (TW cy L tr a κ τ) sz) := by
  refine Met.ofW (cc := cX2_playSlowTick) (maxL := 2) (ret := none) (by decide) rfl ?_
  intro p e s m args below meth c s₁ B hml hv
  obtain ⟨rfl, hsz, hP, hK, hE⟩ := hv
  have hx := B.exec
  have hb := B.bytes
  have hr := B.returns
  have hts0 := atoms_spec (ws := tp_w yX2_playSlowTick cX2_playSlowTick 2 none) B.pre
  have hts : ∀ w ∈ tp_all, w.before _ s = true := fun w h => hts0 w (List.mem_cons_of_mem _ h)
  have hown : s.vm.findClass RX2 = some m.cls := findClass_of_methodNamed B.named
  have hlocks := B.notSynchronized
  subst hsz
  have hP := hP.self s.heap.size
  generalize hAe : mA (TW cy L tr a κ τ) s.heap.size = A at hP ⊢
  have hA : ∀ q : Nat, s.heap.size ≤ q → A q := fun q h => by rw [← hAe]; exact Or.inr h
  have hS : va_S A s.heap s.heap [] := va_S.rf
  have hl9 := lv_entry ([.ref (L 1 0)]) (n := 2) (Nat.le_of_ble_eq_true rfl)
  rw [lg_entry_eq]
  generalize (lg_sl ([.ref (L 1 0)]) ++ List.replicate (2 - (lg_sl ([.ref (L 1 0)])).length) Slot.unset).toArray = ls at hl9 ⊢
  have hl : lv_has ls 2 [(0, .ref (L 1 0))] := hl9
  refine lv_iconst (v := 0) hx hb dX2_playSlowTick_0 (by decide) ?_
  refine lv_istore_n (lv' := [(1, .int 0), (0, .ref (L 1 0))]) hx hb dX2_playSlowTick_1 rfl hl (by decide) rfl (fun ls hl => ?_)
  have hN : nL a ≤ 24 := in_le hw.1.1
  refine W.widen (k := (fun i => 0 + 0 * i) 0) (n := (fun i => 0 + 0 * i) 0) (Nat.le_refl _) (Nat.le_refl _) ?_
  refine tp_for (σ := Unit) (nL a) (fun i => 0 + 0 * i) (fun i => 0 + 0 * i) (fun (i : Nat) (x : Unit) (H : Heap) (locs : List Loc) (ls : Array Slot) => mw (dC, dI) vwCl A (TW cy L tr (itN (fun i b => L_slow b i) i a) κ τ) H ∧ va_S A s.heap H locs ∧ lv_has ls 2 [(1, .int (nI i)), (0, .ref (L 1 0))]) ?_ ?_ (nL a) 0 (Nat.zero_add _) (()) _ _ ls ⟨hP, hS, lv_sub hl [0, 1] rfl⟩
  · rintro _ H locs ls ⟨hP, hS, hl⟩
    have hl : lv_has ls 2 [(1, .int (nI (nL a))), (0, .ref (L 1 0))] := hl
    obtain ⟨b1, eb1⟩ : ∃ z : St, z = itN (fun i b => L_slow b i) (nL a) a := ⟨_, rfl⟩
    rw [← eb1] at hP
    have h1b1 : b1 1 0 0 = a 1 0 0 := by rw [eb1]; exact itN_keep (P := fun b => b 1 0 0 = a 1 0 0) rfl (fun i b h => by rw [L_slow_off (by decide)]; exact h) _
    refine lv_iload_n hx hb dX2_playSlowTick_2 rfl (lv_at hl 0 rfl) ?_
    refine lv_aload_n hx hb dX2_playSlowTick_3 rfl (lv_at hl 1 rfl) ?_
    refine va_get (D := (dC, dI)) (ws := [(L 1 0, .inr (2, [.ref (L 24 0), .int ((b1 1 0) 0), .ref (L 25 0), .int κ.1]))]) (ci := 2) (v := .int ((b1 1 0) 0)) (C := RX2) (T := TX2) (N := 4) hx hb hts tl_X2 hown hK (hP.one (tw_mem (f := 1) (i := 0) (by decide) rfl)) 0 rfl rfl 1 (by decide) (hts _ tw_697) (fun _ h9 => h9) rfl dX2_playSlowTick_4 ?_
    refine W.eq (g2 := F0 m 7 ls [.int (nI (nL a)), .int (nI (nL a))]) (by rw [h1b1, in_nI hw.1.1]) ?_
    refine lv_icmp_ge (tgt := 25) hx hb dX2_playSlowTick_7 (by decide) (fun _ => ?_) (fun c_1 => absurd (Int32.le_refl _) c_1)
    refine W.widen (k := 0) (n := 0) (by show 0 + 0 * (nL a) + 0 ≤ 0; omega) (by show 0 + 0 * (nL a) + 0 ≤ 0; omega) ?_
    have s_1 : b1 = G_slow a := by
      rw [eb1]
      rfl
    rw [s_1] at hP
    exact W.vret hx hb hr (fun t ht hW => ⟨⟨(), rfl, trivial, (by show mw _ _ _ _ t.heap; rw [ht]; exact hP)⟩, hS.F ht⟩) hS.2.2 dX2_playSlowTick_25
  · rintro i _ H locs ls hi ⟨hP, hS, hl⟩ ih
    have hl : lv_has ls 2 [(1, .int (nI i)), (0, .ref (L 1 0))] := hl
    obtain ⟨b2, eb2⟩ : ∃ z : St, z = itN (fun i b => L_slow b i) i a := ⟨_, rfl⟩
    rw [← eb2] at hP
    have h1b2 : b2 1 0 0 = a 1 0 0 := by rw [eb2]; exact itN_keep (P := fun b => b 1 0 0 = a 1 0 0) rfl (fun i b h => by rw [L_slow_off (by decide)]; exact h) _
    refine lv_iload_n hx hb dX2_playSlowTick_2 rfl (lv_at hl 0 rfl) ?_
    refine lv_aload_n hx hb dX2_playSlowTick_3 rfl (lv_at hl 1 rfl) ?_
    refine va_get (D := (dC, dI)) (ws := [(L 1 0, .inr (2, [.ref (L 24 0), .int ((b2 1 0) 0), .ref (L 25 0), .int κ.1]))]) (ci := 2) (v := .int ((b2 1 0) 0)) (C := RX2) (T := TX2) (N := 4) hx hb hts tl_X2 hown hK (hP.one (tw_mem (f := 1) (i := 0) (by decide) rfl)) 0 rfl rfl 1 (by decide) (hts _ tw_697) (fun _ h9 => h9) rfl dX2_playSlowTick_4 ?_
    refine W.eq (g2 := F0 m 7 ls [.int (nI (nL a)), .int (nI i)]) (by rw [h1b2, in_nI hw.1.1]) ?_
    refine lv_icmp_ge (tgt := 25) hx hb dX2_playSlowTick_7 (by decide) (fun c_2 => absurd c_2 (nI_ge hi (by omega))) (fun _ => ?_)
    refine lv_aload_n hx hb dX2_playSlowTick_10 rfl (lv_at hl 1 rfl) ?_
    refine va_get (D := (dC, dI)) (ws := [(L 1 0, .inr (2, [.ref (L 24 0), .int ((b2 1 0) 0), .ref (L 25 0), .int κ.1]))]) (ci := 2) (v := .ref (L 24 0)) (C := RX2) (T := TX2) (N := 4) hx hb hts tl_X2 hown hK (hP.one (tw_mem (f := 1) (i := 0) (by decide) rfl)) 0 rfl rfl 0 (by decide) (hts _ tw_695) (fun _ h9 => h9) rfl dX2_playSlowTick_11 ?_
    refine lv_iload_n hx hb dX2_playSlowTick_14 rfl (lv_at hl 0 rfl) ?_
    have j_1 : (nI i : Int32).toNatClampNeg = i := m_cl rfl (Nat.lt_of_lt_of_le hi hN) (by decide)
    refine va_aldq hx hb hK (ws := [(L 24 0, .inl (cy 3, 24, .inr (.inr (.inr (.inr (fun j => some (L 2 j)))))))]) (hP.one (tw_mem (f := 24) (i := 0) (by decide) rfl)) 0 3 rfl rfl (m_in rfl (Nat.lt_of_lt_of_le hi hN) (by decide)) dX2_playSlowTick_15 ?_
    refine W.eq (g2 := F0 m 16 ls [.ref (L 2 i)]) (by first | (rw [j_1]; done) | (rw [j_1]; rfl)) ?_
    have hFc := m_free (C := (TW cy L tr b2 κ τ)) hP hS hA (fun _ _ h => h)
    refine va_callv (va_runV (As := []) (rest := []) ⟨hx, hb, hml, hown, hts⟩ (c_Link_playSlowTick l dC dI cy L tr b2 κ τ i H.size hT (Nat.lt_of_lt_of_le hi hN)) (tp_cwV 0 hts tw_170 tw_171 tw_172 tw_23 tw_173 rfl rfl (by decide +kernel) ⟨Nat.le_of_ble_eq_true rfl, Nat.le_of_ble_eq_true rfl⟩) ⟨m_blind, va_recv hK (hP.one (e := .inr (1, [.int ((b2 2 i) 0), .int ((b2 2 i) 1), .int ((b2 2 i) 2), .int ((b2 2 i) 3), .int ((b2 2 i) 4), .int ((b2 2 i) 5), .int ((b2 2 i) 6), .int ((b2 2 i) 7), .int ((b2 2 i) 8), .ref (L 3 i), .ref (L 5 i), .int ((b2 2 i) 9), .int ((b2 2 i) 10), .int ((b2 2 i) 11), .int ((b2 2 i) 12), .ref (L 7 i)])) (tw_mem (f := 2) (i := i) (Nat.lt_of_lt_of_le hi hN) rfl)) (ci := 1) (q0 := 0) rfl rfl, fun U hU hW => ⟨rfl, m_pay hK hP hE (fun _ _ h => h) U hU hW⟩⟩ rfl rfl hl.1 rfl (lv_room (Nat.le_of_ble_eq_true rfl)) dX2_playSlowTick_16 ⟨(by show 0 + 0 * i + 0 ≤ 0; omega), (by show 0 + 0 * i + 0 ≤ 0; omega)⟩) hS (fun q _ h => hFc q h) hFc (fun u t H1 locs ht hvm hw hB hz1 hk1 hS => ?_)
    have hP1 := hB
    rw [ht] at hP1
    have hP : mw (dC, dI) vwCl A (TW cy L tr (L_slow b2 i) κ τ) H1 := hP.join (fun _ _ h => h) hk1 hFc hP1 (fun _ _ h => Or.inl h)
    generalize H1 = H at hP hS ⊢
    clear hP1 hk1 hFc
    obtain ⟨b3, eb3⟩ : ∃ z : St, z = L_slow b2 i := ⟨_, rfl⟩
    rw [← eb3] at hP
    refine lv_iinc (v := nI (i + 1)) (lv' := [(1, .int (nI (i + 1))), (0, .ref (L 1 0))]) hx hb dX2_playSlowTick_19 hl (k := 0) rfl (nI_1 i) (by decide) rfl (fun ls hl => ?_)
    refine lv_goto (tgt := 2) hx hb dX2_playSlowTick_22 (by decide) ?_
    have e9 : b3 = itN (fun i b => L_slow b i) (i + 1) a := by
      rw [eb3, eb2]
      rfl
    rw [e9] at hP
    refine W.widen (k := (fun i => 0 + 0 * i) (i + 1)) (n := (fun i => 0 + 0 * i) (i + 1)) (by show _ ≤ 0 + 0 * (i + 1); omega) (by show _ ≤ 0 + 0 * (i + 1); omega) ?_
    exact ih () _ _ ls ⟨hP, hS, lv_sub hl [0, 1] rfl⟩
set_option maxRecDepth 100000 in
set_option maxHeartbeats 4000000 in
/-- Roads.countQueuesIn -/
theorem c_Roads_countQueuesIn (l : Launch) (dC : Nat → ClassId) (dI : Nat → Nat → Nat) (cy : Nat → ClassId) (L : Lay) (tr : Option Nat) (a : St) (κ : Kap) (τ : Tau) (M : Nat) (tk : Int32) (sz : Nat) (hT : TL L tr τ) (hw : Wf M a) : Met l yX2_countQueuesIn (tp_w yX2_countQueuesIn cX2_countQueuesIn 3 none) ({ frames := 3, cells := 0, slots := 0, locals := 65 }) (va_Pc [.ref (L 1 0), .int tk] (mPre dC dI cy (TW cy L tr a κ τ) sz)) (va_Qv (fun _ : Unit => True) (fun (_ : Unit) (t : State) => mw (dC, dI) vwCl (mA (TW cy L tr a κ τ) sz) (TW cy L tr (G_cq a tk) κ τ) t.heap) (mA (TW cy L tr a κ τ) sz)) (0) (0) (mA (TW cy L tr a κ τ) sz) := by
  refine Met.ofW (cc := cX2_countQueuesIn) (maxL := 3) (ret := none) (by decide) rfl ?_
  intro p e s m args below meth c s₁ B hml hv
  obtain ⟨rfl, hsz, hP, hK, hE⟩ := hv
  have hx := B.exec
  have hb := B.bytes
  have hr := B.returns
  have hts0 := atoms_spec (ws := tp_w yX2_countQueuesIn cX2_countQueuesIn 3 none) B.pre
  have hts : ∀ w ∈ tp_all, w.before _ s = true := fun w h => hts0 w (List.mem_cons_of_mem _ h)
  have hown : s.vm.findClass RX2 = some m.cls := findClass_of_methodNamed B.named
  have hlocks := B.notSynchronized
  subst hsz
  have hP := hP.self s.heap.size
  generalize hAe : mA (TW cy L tr a κ τ) s.heap.size = A at hP ⊢
  have hA : ∀ q : Nat, s.heap.size ≤ q → A q := fun q h => by rw [← hAe]; exact Or.inr h
  have hS : va_S A s.heap s.heap [] := va_S.rf
  have hl9 := lv_entry ([.ref (L 1 0), .int tk]) (n := 3) (Nat.le_of_ble_eq_true rfl)
  rw [lg_entry_eq]
  generalize (lg_sl ([.ref (L 1 0), .int tk]) ++ List.replicate (3 - (lg_sl ([.ref (L 1 0), .int tk])).length) Slot.unset).toArray = ls at hl9 ⊢
  have hl : lv_has ls 3 [(0, .ref (L 1 0)), (1, .int tk)] := hl9
  refine lv_iconst (v := 0) hx hb dX2_countQueuesIn_0 (by decide) ?_
  refine lv_istore_n (lv' := [(2, .int 0), (0, .ref (L 1 0)), (1, .int tk)]) hx hb dX2_countQueuesIn_1 rfl hl (by decide) rfl (fun ls hl => ?_)
  have hN : nL a ≤ 24 := in_le hw.1.1
  refine W.widen (k := (fun i => 0 + 0 * i) 0) (n := (fun i => 0 + 0 * i) 0) (Nat.le_refl _) (Nat.le_refl _) ?_
  refine tp_for (σ := Unit) (nL a) (fun i => 0 + 0 * i) (fun i => 0 + 0 * i) (fun (i : Nat) (x : Unit) (H : Heap) (locs : List Loc) (ls : Array Slot) => mw (dC, dI) vwCl A (TW cy L tr (itN (fun i b => L_cq b i tk) i a) κ τ) H ∧ va_S A s.heap H locs ∧ lv_has ls 3 [(2, .int (nI i)), (0, .ref (L 1 0)), (1, .int tk)]) ?_ ?_ (nL a) 0 (Nat.zero_add _) (()) _ _ ls ⟨hP, hS, lv_sub hl [0, 1, 2] rfl⟩
  · rintro _ H locs ls ⟨hP, hS, hl⟩
    have hl : lv_has ls 3 [(2, .int (nI (nL a))), (0, .ref (L 1 0)), (1, .int tk)] := hl
    obtain ⟨b1, eb1⟩ : ∃ z : St, z = itN (fun i b => L_cq b i tk) (nL a) a := ⟨_, rfl⟩
    rw [← eb1] at hP
    have h1b1 : b1 1 0 0 = a 1 0 0 := by rw [eb1]; exact itN_keep (P := fun b => b 1 0 0 = a 1 0 0) rfl (fun i b h => by rw [L_cq_off (by decide)]; exact h) _
    refine lv_iload_n hx hb dX2_countQueuesIn_2 rfl (lv_at hl 0 rfl) ?_
    refine lv_aload_n hx hb dX2_countQueuesIn_3 rfl (lv_at hl 1 rfl) ?_
    refine va_get (D := (dC, dI)) (ws := [(L 1 0, .inr (2, [.ref (L 24 0), .int ((b1 1 0) 0), .ref (L 25 0), .int κ.1]))]) (ci := 2) (v := .int ((b1 1 0) 0)) (C := RX2) (T := TX2) (N := 4) hx hb hts tl_X2 hown hK (hP.one (tw_mem (f := 1) (i := 0) (by decide) rfl)) 0 rfl rfl 1 (by decide) (hts _ tw_697) (fun _ h9 => h9) rfl dX2_countQueuesIn_4 ?_
    refine W.eq (g2 := F0 m 7 ls [.int (nI (nL a)), .int (nI (nL a))]) (by rw [h1b1, in_nI hw.1.1]) ?_
    refine lv_icmp_ge (tgt := 26) hx hb dX2_countQueuesIn_7 (by decide) (fun _ => ?_) (fun c_1 => absurd (Int32.le_refl _) c_1)
    refine W.widen (k := 0) (n := 0) (by show 0 + 0 * (nL a) + 0 ≤ 0; omega) (by show 0 + 0 * (nL a) + 0 ≤ 0; omega) ?_
    have s_1 : b1 = G_cq a tk := by
      rw [eb1]
      rfl
    rw [s_1] at hP
    exact W.vret hx hb hr (fun t ht hW => ⟨⟨(), rfl, trivial, (by show mw _ _ _ _ t.heap; rw [ht]; exact hP)⟩, hS.F ht⟩) hS.2.2 dX2_countQueuesIn_26
  · rintro i _ H locs ls hi ⟨hP, hS, hl⟩ ih
    have hl : lv_has ls 3 [(2, .int (nI i)), (0, .ref (L 1 0)), (1, .int tk)] := hl
    obtain ⟨b2, eb2⟩ : ∃ z : St, z = itN (fun i b => L_cq b i tk) i a := ⟨_, rfl⟩
    rw [← eb2] at hP
    have h1b2 : b2 1 0 0 = a 1 0 0 := by rw [eb2]; exact itN_keep (P := fun b => b 1 0 0 = a 1 0 0) rfl (fun i b h => by rw [L_cq_off (by decide)]; exact h) _
    have h5b2 : in_ (b2 5 i 0) 30 := by rw [eb2]; exact itN_keep (P := fun b => in_ (b 5 i 0) 30) (hw.2.1 i (Nat.lt_of_lt_of_le hi hN)).2.2.2.2.2 (fun j b h => by rw [L_cq_off (by decide)]; exact h) _
    refine lv_iload_n hx hb dX2_countQueuesIn_2 rfl (lv_at hl 0 rfl) ?_
    refine lv_aload_n hx hb dX2_countQueuesIn_3 rfl (lv_at hl 1 rfl) ?_
    refine va_get (D := (dC, dI)) (ws := [(L 1 0, .inr (2, [.ref (L 24 0), .int ((b2 1 0) 0), .ref (L 25 0), .int κ.1]))]) (ci := 2) (v := .int ((b2 1 0) 0)) (C := RX2) (T := TX2) (N := 4) hx hb hts tl_X2 hown hK (hP.one (tw_mem (f := 1) (i := 0) (by decide) rfl)) 0 rfl rfl 1 (by decide) (hts _ tw_697) (fun _ h9 => h9) rfl dX2_countQueuesIn_4 ?_
    refine W.eq (g2 := F0 m 7 ls [.int (nI (nL a)), .int (nI i)]) (by rw [h1b2, in_nI hw.1.1]) ?_
    refine lv_icmp_ge (tgt := 26) hx hb dX2_countQueuesIn_7 (by decide) (fun c_2 => absurd c_2 (nI_ge hi (by omega))) (fun _ => ?_)
    refine lv_aload_n hx hb dX2_countQueuesIn_10 rfl (lv_at hl 1 rfl) ?_
    refine va_get (D := (dC, dI)) (ws := [(L 1 0, .inr (2, [.ref (L 24 0), .int ((b2 1 0) 0), .ref (L 25 0), .int κ.1]))]) (ci := 2) (v := .ref (L 24 0)) (C := RX2) (T := TX2) (N := 4) hx hb hts tl_X2 hown hK (hP.one (tw_mem (f := 1) (i := 0) (by decide) rfl)) 0 rfl rfl 0 (by decide) (hts _ tw_695) (fun _ h9 => h9) rfl dX2_countQueuesIn_11 ?_
    refine lv_iload_n hx hb dX2_countQueuesIn_14 rfl (lv_at hl 0 rfl) ?_
    have j_1 : (nI i : Int32).toNatClampNeg = i := m_cl rfl (Nat.lt_of_lt_of_le hi hN) (by decide)
    refine va_aldq hx hb hK (ws := [(L 24 0, .inl (cy 3, 24, .inr (.inr (.inr (.inr (fun j => some (L 2 j)))))))]) (hP.one (tw_mem (f := 24) (i := 0) (by decide) rfl)) 0 3 rfl rfl (m_in rfl (Nat.lt_of_lt_of_le hi hN) (by decide)) dX2_countQueuesIn_15 ?_
    refine W.eq (g2 := F0 m 16 ls [.ref (L 2 i)]) (by first | (rw [j_1]; done) | (rw [j_1]; rfl)) ?_
    refine lv_iload_n hx hb dX2_countQueuesIn_16 rfl (lv_at hl 2 rfl) ?_
    have hFc := m_free (C := (TW cy L tr b2 κ τ)) hP hS hA (fun _ _ h => h)
    refine va_callv (va_runV (As := [.int tk]) (rest := []) ⟨hx, hb, hml, hown, hts⟩ (c_Link_countQueueIn l dC dI cy L tr b2 κ τ i tk H.size hT (Nat.lt_of_lt_of_le hi hN) h5b2.1 h5b2.2) (tp_cwV 1 hts tw_365 tw_366 tw_367 tw_23 tw_368 rfl rfl (by decide +kernel) ⟨Nat.le_of_ble_eq_true rfl, Nat.le_of_ble_eq_true rfl⟩) ⟨m_blind, va_recv hK (hP.one (e := .inr (1, [.int ((b2 2 i) 0), .int ((b2 2 i) 1), .int ((b2 2 i) 2), .int ((b2 2 i) 3), .int ((b2 2 i) 4), .int ((b2 2 i) 5), .int ((b2 2 i) 6), .int ((b2 2 i) 7), .int ((b2 2 i) 8), .ref (L 3 i), .ref (L 5 i), .int ((b2 2 i) 9), .int ((b2 2 i) 10), .int ((b2 2 i) 11), .int ((b2 2 i) 12), .ref (L 7 i)])) (tw_mem (f := 2) (i := i) (Nat.lt_of_lt_of_le hi hN) rfl)) (ci := 1) (q0 := 0) rfl rfl, fun U hU hW => ⟨rfl, m_pay hK hP hE (fun _ _ h => h) U hU hW⟩⟩ rfl rfl hl.1 rfl (lv_room (Nat.le_of_ble_eq_true rfl)) dX2_countQueuesIn_17 ⟨(by show 0 + 0 * i + 0 ≤ 0; omega), (by show 0 + 0 * i + 0 ≤ 0; omega)⟩) hS (fun q _ h => hFc q h) hFc (fun u t H1 locs ht hvm hw hB hz1 hk1 hS => ?_)
    have hP1 := hB
    rw [ht] at hP1
    have hP : mw (dC, dI) vwCl A (TW cy L tr (L_cq b2 i tk) κ τ) H1 := hP.join (fun _ _ h => h) hk1 hFc hP1 (fun _ _ h => Or.inl h)
    generalize H1 = H at hP hS ⊢
    clear hP1 hk1 hFc
    obtain ⟨b3, eb3⟩ : ∃ z : St, z = L_cq b2 i tk := ⟨_, rfl⟩
    rw [← eb3] at hP
    refine lv_iinc (v := nI (i + 1)) (lv' := [(2, .int (nI (i + 1))), (0, .ref (L 1 0)), (1, .int tk)]) hx hb dX2_countQueuesIn_20 hl (k := 0) rfl (nI_1 i) (by decide) rfl (fun ls hl => ?_)
    refine lv_goto (tgt := 2) hx hb dX2_countQueuesIn_23 (by decide) ?_
    have e9 : b3 = itN (fun i b => L_cq b i tk) (i + 1) a := by
      rw [eb3, eb2]
      rfl
    rw [e9] at hP
    refine W.widen (k := (fun i => 0 + 0 * i) (i + 1)) (n := (fun i => 0 + 0 * i) (i + 1)) (by show _ ≤ 0 + 0 * (i + 1); omega) (by show _ ≤ 0 + 0 * (i + 1); omega) ?_
    exact ih () _ _ ls ⟨hP, hS, lv_sub hl [0, 1, 2] rfl⟩
set_option maxRecDepth 100000 in
set_option maxHeartbeats 4000000 in
/-- Roads.anyHasQueueIn -/
theorem c_Roads_anyHasQueueIn (l : Launch) (dC : Nat → ClassId) (dI : Nat → Nat → Nat) (cy : Nat → ClassId) (L : Lay) (tr : Option Nat) (a : St) (κ : Kap) (τ : Tau) (M : Nat) (tk : Int32) (x : Int32) (sz : Nat) (hT : TL L tr τ) (hw : Wf M a) : Met l yX2_anyHasQueueIn (tp_w yX2_anyHasQueueIn cX2_anyHasQueueIn 4 (some .boolean)) ({ frames := 2, cells := 0, slots := 0, locals := 42 }) (va_Pc [.ref (L 1 0), .int tk, .int x] (mPre dC dI cy (TW cy L tr a κ τ) sz)) (va_Qi (fun (r u : Int32) => r = u) (fun (u : Int32) (t : State) => (u = G_any a tk x (nL a) 0) ∧ mw (dC, dI) vwCl (mA (TW cy L tr a κ τ) sz) (TW cy L tr a κ τ) t.heap) (mA (TW cy L tr a κ τ) sz)) (0) (0) (mA (TW cy L tr a κ τ) sz) := by
  refine Met.ofW (cc := cX2_anyHasQueueIn) (maxL := 4) (ret := (some .boolean)) (by decide) rfl ?_
  intro p e s m args below meth c s₁ B hml hv
  obtain ⟨rfl, hsz, hP, hK, hE⟩ := hv
  have hx := B.exec
  have hb := B.bytes
  have hr := B.returns
  have hts0 := atoms_spec (ws := tp_w yX2_anyHasQueueIn cX2_anyHasQueueIn 4 (some .boolean)) B.pre
  have hts : ∀ w ∈ tp_all, w.before _ s = true := fun w h => hts0 w (List.mem_cons_of_mem _ h)
  have hown : s.vm.findClass RX2 = some m.cls := findClass_of_methodNamed B.named
  have hlocks := B.notSynchronized
  subst hsz
  have hP := hP.self s.heap.size
  generalize hAe : mA (TW cy L tr a κ τ) s.heap.size = A at hP ⊢
  have hA : ∀ q : Nat, s.heap.size ≤ q → A q := fun q h => by rw [← hAe]; exact Or.inr h
  have hS : va_S A s.heap s.heap [] := va_S.rf
  have hl9 := lv_entry ([.ref (L 1 0), .int tk, .int x]) (n := 4) (Nat.le_of_ble_eq_true rfl)
  rw [lg_entry_eq]
  generalize (lg_sl ([.ref (L 1 0), .int tk, .int x]) ++ List.replicate (4 - (lg_sl ([.ref (L 1 0), .int tk, .int x])).length) Slot.unset).toArray = ls at hl9 ⊢
  have hl : lv_has ls 4 [(0, .ref (L 1 0)), (1, .int tk), (2, .int x)] := hl9
  refine lv_iconst (v := 0) hx hb dX2_anyHasQueueIn_0 (by decide) ?_
  refine lv_istore_n (lv' := [(3, .int 0), (0, .ref (L 1 0)), (1, .int tk), (2, .int x)]) hx hb dX2_anyHasQueueIn_1 rfl hl (by decide) rfl (fun ls hl => ?_)
  have hN : nL a ≤ 24 := in_le hw.1.1
  suffices hloop : ∀ (d k : Nat), k + d = (nL a) → G_any a tk x d k = G_any a tk x (nL a) 0 → ∀ ls : Array Slot, lv_has ls 4 [(3, .int (nI k)), (0, .ref (L 1 0)), (1, .int tk), (2, .int x)] → ∀ (H : Heap) (locs : List Loc), mw (dC, dI) vwCl A (TW cy L tr a κ τ) H → va_S A s.heap H locs → W p l e _ s m _ below meth c H locs (0) (0) _ (F0 m 2 ls []) from hloop (nL a) 0 (by omega)  rfl ls (lv_sub hl [0, 1, 2, 3] rfl) _ _ hP hS
  clear hP hS hl ls hl9
  intro d
  induction d with
  | zero =>
    intro k hk  hq ls hl H locs hP hS
    refine lv_iload_n hx hb dX2_anyHasQueueIn_2 rfl (lv_at hl 0 rfl) ?_
    refine lv_aload_n hx hb dX2_anyHasQueueIn_3 rfl (lv_at hl 1 rfl) ?_
    refine va_get (D := (dC, dI)) (ws := [(L 1 0, .inr (2, [.ref (L 24 0), .int ((a 1 0) 0), .ref (L 25 0), .int κ.1]))]) (ci := 2) (v := .int ((a 1 0) 0)) (C := RX2) (T := TX2) (N := 4) hx hb hts tl_X2 hown hK (hP.one (tw_mem (f := 1) (i := 0) (by decide) rfl)) 0 rfl rfl 1 (by decide) (hts _ tw_697) (fun _ h9 => h9) rfl dX2_anyHasQueueIn_4 ?_
    refine W.eq (g2 := F0 m 7 ls [.int (nI (nL a)), .int (nI k)]) (by rw [in_nI hw.1.1]) ?_
    have e9 : k = nL a := by omega
    refine lv_icmp_ge (tgt := 40) hx hb dX2_anyHasQueueIn_7 (by decide) (fun _ => ?_) (fun c_1 => absurd (by rw [e9]; exact Int32.le_refl _) c_1)
    refine lv_iconst (v := 0) hx hb dX2_anyHasQueueIn_40 (by decide) ?_
    refine W.widen (k := 0) (n := 0) (Nat.le_of_ble_eq_true rfl) (Nat.le_of_ble_eq_true rfl) ?_
    have g_1 : 0 = G_any a tk x (nL a) 0 := by
      rw [← hq]
      rfl
    exact W.zret (v := 0) hx hb hr rfl (fun t ht hW => ⟨⟨0, 0, rfl, rfl, ⟨g_1, by show mw _ _ _ _ t.heap; rw [ht]; exact hP⟩⟩, hS.F ht⟩) hS.2.2 dX2_anyHasQueueIn_41
  | succ d ih =>
    intro k hk  hq ls hl H locs hP hS
    refine lv_iload_n hx hb dX2_anyHasQueueIn_2 rfl (lv_at hl 0 rfl) ?_
    refine lv_aload_n hx hb dX2_anyHasQueueIn_3 rfl (lv_at hl 1 rfl) ?_
    refine va_get (D := (dC, dI)) (ws := [(L 1 0, .inr (2, [.ref (L 24 0), .int ((a 1 0) 0), .ref (L 25 0), .int κ.1]))]) (ci := 2) (v := .int ((a 1 0) 0)) (C := RX2) (T := TX2) (N := 4) hx hb hts tl_X2 hown hK (hP.one (tw_mem (f := 1) (i := 0) (by decide) rfl)) 0 rfl rfl 1 (by decide) (hts _ tw_697) (fun _ h9 => h9) rfl dX2_anyHasQueueIn_4 ?_
    refine W.eq (g2 := F0 m 7 ls [.int (nI (nL a)), .int (nI k)]) (by rw [in_nI hw.1.1]) ?_
    refine lv_icmp_ge (tgt := 40) hx hb dX2_anyHasQueueIn_7 (by decide) (fun c_2 => absurd c_2 (nI_ge (by omega : k < nL a) (by omega))) (fun _ => ?_)
    refine lv_iload_n hx hb dX2_anyHasQueueIn_10 rfl (lv_at hl 3 rfl) ?_
    refine lv_iload_n hx hb dX2_anyHasQueueIn_11 rfl (lv_at hl 0 rfl) ?_
    refine lv_ishr hx hb dX2_anyHasQueueIn_12 ?_
    refine lv_iconst (v := 1) hx hb dX2_anyHasQueueIn_13 (by decide) ?_
    refine lv_iand hx hb dX2_anyHasQueueIn_14 ?_
    refine lv_iconst (v := 1) hx hb dX2_anyHasQueueIn_15 (by decide) ?_
    refine lv_icmp_ne (tgt := 34) hx hb dX2_anyHasQueueIn_16 (by decide) (fun c_3 => ?_) (fun c_3 => ?_)
    · refine lv_iinc (v := nI (k + 1)) (lv' := [(3, .int (nI (k + 1))), (0, .ref (L 1 0)), (1, .int tk), (2, .int x)]) hx hb dX2_anyHasQueueIn_34 hl (k := 0) rfl (nI_1 k) (by decide) rfl (fun ls hl => ?_)
      refine lv_goto (tgt := 2) hx hb dX2_anyHasQueueIn_37 (by decide) ?_
      exact ih (k + 1) (by omega)  (by rw [← hq]; show _ = (if (x >>> (nI k &&& 31)) &&& 1 = 1 then (if L_has a k tk = 0 then _ else _) else _); rw [if_neg c_3]) ls (lv_sub hl [0, 1, 2, 3] rfl) H locs hP hS
    · refine lv_aload_n hx hb dX2_anyHasQueueIn_19 rfl (lv_at hl 1 rfl) ?_
      refine va_get (D := (dC, dI)) (ws := [(L 1 0, .inr (2, [.ref (L 24 0), .int ((a 1 0) 0), .ref (L 25 0), .int κ.1]))]) (ci := 2) (v := .ref (L 24 0)) (C := RX2) (T := TX2) (N := 4) hx hb hts tl_X2 hown hK (hP.one (tw_mem (f := 1) (i := 0) (by decide) rfl)) 0 rfl rfl 0 (by decide) (hts _ tw_695) (fun _ h9 => h9) rfl dX2_anyHasQueueIn_20 ?_
      refine lv_iload_n hx hb dX2_anyHasQueueIn_23 rfl (lv_at hl 0 rfl) ?_
      have j_1 : (nI k : Int32).toNatClampNeg = k := m_cl rfl (by omega : k < 24) (by decide)
      refine va_aldq hx hb hK (ws := [(L 24 0, .inl (cy 3, 24, .inr (.inr (.inr (.inr (fun j => some (L 2 j)))))))]) (hP.one (tw_mem (f := 24) (i := 0) (by decide) rfl)) 0 3 rfl rfl (m_in rfl (by omega : k < 24) (by decide)) dX2_anyHasQueueIn_24 ?_
      refine W.eq (g2 := F0 m 25 ls [.ref (L 2 k)]) (by first | (rw [j_1]; done) | (rw [j_1]; rfl)) ?_
      refine lv_iload_n hx hb dX2_anyHasQueueIn_25 rfl (lv_at hl 2 rfl) ?_
      have hFc := m_free (C := (TW cy L tr a κ τ)) hP hS hA (fun _ _ h => h)
      refine va_calli (va_runV (As := [.int tk]) (rest := []) ⟨hx, hb, hml, hown, hts⟩ (c_Link_hasQueueIn l dC dI cy L tr a κ τ k tk H.size hT (by omega : k < 24) (hw.2.1 k (by omega)).2.2.2.2.2.2) (tp_cwV 1 hts tw_249 tw_250 tw_251 tw_23 tw_252 rfl rfl (by decide +kernel) ⟨Nat.le_of_ble_eq_true rfl, Nat.le_of_ble_eq_true rfl⟩) ⟨m_blind, va_recv hK (hP.one (e := .inr (1, [.int ((a 2 k) 0), .int ((a 2 k) 1), .int ((a 2 k) 2), .int ((a 2 k) 3), .int ((a 2 k) 4), .int ((a 2 k) 5), .int ((a 2 k) 6), .int ((a 2 k) 7), .int ((a 2 k) 8), .ref (L 3 k), .ref (L 5 k), .int ((a 2 k) 9), .int ((a 2 k) 10), .int ((a 2 k) 11), .int ((a 2 k) 12), .ref (L 7 k)])) (tw_mem (f := 2) (i := k) (by omega : k < 24) rfl)) (ci := 1) (q0 := 0) rfl rfl, fun U hU hW => ⟨rfl, m_pay hK hP hE (fun _ _ h => h) U hU hW⟩⟩ rfl rfl hl.1 rfl (lv_room (Nat.le_of_ble_eq_true rfl)) dX2_anyHasQueueIn_26 ⟨(Nat.le_of_ble_eq_true rfl), (Nat.le_of_ble_eq_true rfl)⟩) hS (fun q _ h => hFc q h) hFc (fun r_1 u t H1 locs ht hvm hw hB hz1 hk1 hS => ?_)
      obtain rfl := hw
      obtain ⟨f_1, hP1⟩ := hB
      subst f_1
      rw [ht] at hP1
      have hP : mw (dC, dI) vwCl A (TW cy L tr a κ τ) H1 := hP.join (fun _ _ h => h) hk1 hFc hP1 (fun _ _ h => Or.inl h)
      generalize H1 = H at hP hS ⊢
      clear hP1 hk1 hFc
      refine lv_if_eq (tgt := 34) hx hb dX2_anyHasQueueIn_29 (by decide) (fun c_4 => ?_) (fun c_4 => ?_)
      · refine lv_iinc (v := nI (k + 1)) (lv' := [(3, .int (nI (k + 1))), (0, .ref (L 1 0)), (1, .int tk), (2, .int x)]) hx hb dX2_anyHasQueueIn_34 hl (k := 0) rfl (nI_1 k) (by decide) rfl (fun ls hl => ?_)
        refine lv_goto (tgt := 2) hx hb dX2_anyHasQueueIn_37 (by decide) ?_
        exact ih (k + 1) (by omega)  (by rw [← hq]; show _ = (if (x >>> (nI k &&& 31)) &&& 1 = 1 then (if L_has a k tk = 0 then _ else _) else _); rw [if_pos c_3, if_pos c_4]) ls (lv_sub hl [0, 1, 2, 3] rfl) H locs hP hS
      · refine lv_iconst (v := 1) hx hb dX2_anyHasQueueIn_32 (by decide) ?_
        refine W.widen (k := 0) (n := 0) (Nat.le_of_ble_eq_true rfl) (Nat.le_of_ble_eq_true rfl) ?_
        have g_2 : 1 = G_any a tk x (nL a) 0 := by
          rw [← hq]
          show _ = (if (x >>> (nI k &&& 31)) &&& 1 = 1 then (if L_has a k tk = 0 then _ else _) else _)
          rw [if_pos c_3, if_neg c_4]
        exact W.zret (v := 1) hx hb hr rfl (fun t ht hW => ⟨⟨1, 1, rfl, rfl, ⟨g_2, by show mw _ _ _ _ t.heap; rw [ht]; exact hP⟩⟩, hS.F ht⟩) hS.2.2 dX2_anyHasQueueIn_33
end
section
/-! ===== Int32 by its bits: bt x i ===== -/
def bt (x : Int32) (i : Nat) : Bool := x.toBitVec.getLsbD i
theorem b_ext {x y : Int32} (h : ∀ i, i < 32 → bt x i = bt y i) : x = y := Int32.toBitVec_inj.mp (BitVec.eq_of_getLsbD_eq (fun i hi => h i hi))
theorem b_or (x y : Int32) (i : Nat) : bt (x ||| y) i = (bt x i || bt y i) := by unfold bt; rw [Int32.toBitVec_or, BitVec.getLsbD_or]
theorem b_and (x y : Int32) (i : Nat) : bt (x &&& y) i = (bt x i && bt y i) := by unfold bt; rw [Int32.toBitVec_and, BitVec.getLsbD_and]
theorem b_xor (x y : Int32) (i : Nat) : bt (x ^^^ y) i = (bt x i ^^ bt y i) := by unfold bt; rw [Int32.toBitVec_xor, BitVec.getLsbD_xor]
theorem b_big {x : Int32} {i : Nat} (h : 32 ≤ i) : bt x i = false := BitVec.getLsbD_of_ge _ _ h
theorem b_255 (i : Nat) : bt 255 i = decide (i < 8) := by
  rcases Nat.lt_or_ge i 32 with h | h
  · exact (by decide +kernel : ∀ i, i < 32 → bt 255 i = decide (i < 8)) i h
  · rw [b_big h, decide_eq_false (by omega)]
theorem b_65535 (i : Nat) : bt 65535 i = decide (i < 16) := by
  rcases Nat.lt_or_ge i 32 with h | h
  · exact (by decide +kernel : ∀ i, i < 32 → bt 65535 i = decide (i < 16)) i h
  · rw [b_big h, decide_eq_false (by omega)]
theorem b_m1 : ∀ i, i < 32 → bt (-1) i = true := by decide +kernel
theorem b_0 (i : Nat) : bt 0 i = false := BitVec.getLsbD_zero
theorem s_l : ∀ n, n < 32 → ((nI n &&& 31).toBitVec.smod 32).toNat = n := by decide +kernel
theorem s_u : ∀ n, n < 32 → (((nI n).toUInt32 &&& Int32.toUInt32 31).toBitVec % 32).toNat = n := by decide +kernel
theorem b_shl (n : Nat) (hn : n < 32) (x : Int32) {i : Nat} (hi : i < 32) : bt (x <<< (nI n &&& 31)) i = (decide (n ≤ i) && bt x (i - n)) := by
  unfold bt
  rw [Int32.toBitVec_shiftLeft]
  show (x.toBitVec <<< ((nI n &&& 31).toBitVec.smod 32).toNat).getLsbD i = _
  rw [s_l n hn, BitVec.getLsbD_shiftLeft]
  rcases Nat.lt_or_ge i n with h | h
  · simp [h, Nat.not_le.mpr h]
  · simp [hi, h, Nat.not_lt.mpr h]
theorem b_ushr (n : Nat) (hn : n < 32) (x : Int32) (i : Nat) : bt ((x.toUInt32 >>> ((nI n).toUInt32 &&& Int32.toUInt32 31)).toInt32) i = bt x (n + i) := by
  show (x.toUInt32 >>> ((nI n).toUInt32 &&& Int32.toUInt32 31)).toBitVec.getLsbD i = x.toUInt32.toBitVec.getLsbD (n + i)
  rw [UInt32.toBitVec_shiftRight]
  show (x.toUInt32.toBitVec >>> (((nI n).toUInt32 &&& Int32.toUInt32 31).toBitVec % 32).toNat).getLsbD i = _
  rw [s_u n hn, BitVec.getLsbD_ushiftRight]
theorem b_sshr (n : Nat) (hn : n < 32) (x : Int32) {i : Nat} (hi : i < 32) : bt (x >>> (nI n &&& 31)) i = if n + i < 32 then bt x (n + i) else bt x 31 := by
  unfold bt
  rw [Int32.toBitVec_shiftRight]
  show (x.toBitVec.sshiftRight ((nI n &&& 31).toBitVec.smod 32).toNat).getLsbD i = _
  rw [s_l n hn, BitVec.getLsbD_sshiftRight, BitVec.msb_eq_getLsbD_last]
  simp [hi]
theorem b_1 : ∀ i, i < 32 → bt 1 i = decide (i = 0) := by decide +kernel
theorem bit_iff {x : Int32} {k : Nat} (hk : k < 32) : (x >>> (nI k &&& 31)) &&& 1 = 1 ↔ bt x k = true := by
  constructor
  · intro h
    have h1 := congrArg (fun y => bt y 0) h
    simp only [b_and, b_1 0 (by decide), b_sshr k hk x (by decide : 0 < 32)] at h1
    simpa [hk] using h1
  · intro h
    refine b_ext fun i hi => ?_
    rw [b_and, b_1 i hi, b_sshr k hk x hi]
    by_cases h0 : i = 0
    · subst h0
      simp [hk, h]
    · simp [h0]
theorem bitA_iff {x : Int32} {k : Nat} (hk : k < 32) : bitA x (nI k) ↔ bt x k = true := bit_iff hk
theorem bitA_or {x : Int32} {j t : Nat} (hj : j < 12) (ht : t < 12) (hn : t ≠ j) (h : bitA (x ||| (1 <<< (nI j &&& 31))) (nI t)) : bitA x (nI t) := by
  rw [bitA_iff (by omega)] at h ⊢
  rw [b_or, b_shl j (by omega) 1 (by omega : t < 32)] at h
  rcases Nat.lt_or_ge t j with hl | hl
  · rw [decide_eq_false (by omega), Bool.false_and, Bool.or_false] at h
    exact h
  · rw [b_1 _ (by omega), decide_eq_false (by omega : ¬ t - j = 0), Bool.and_false, Bool.or_false] at h
    exact h
/-- the rows of costs, that of the node j being z, what is reckoned being r -/
def KR (r : Int32) (κ : Kap) (j : Nat) (z : Nat → Int32) : Kap := (r, fun q => if q = j then z else κ.2 q)
theorem KR_at {r : Int32} {κ : Kap} {j : Nat} {z : Nat → Int32} : (KR r κ j z).2 j = z := by simp [KR]
theorem KR_KR {r : Int32} {κ : Kap} {j : Nat} {z y : Nat → Int32} : KR r (KR r κ j z) j y = KR r κ j y := by
  unfold KR
  congr 1
  funext q
  by_cases h : q = j <;> simp [h]
theorem KR_put {r : Int32} {κ κ' : Kap} {j k : Nat} {z : Nat → Int32} {v : Int32} (h : κ' = ((KR r κ j z).1, fun q => if q = j then upd ((KR r κ j z).2 j) k v else (KR r κ j z).2 q)) : κ' = KR r κ j (upd z k v) := by
  rw [h, KR_at]
  unfold KR
  congr 1
  funext q
  by_cases hq : q = j <;> simp [hq]
theorem KR_id {κ : Kap} {j : Nat} : KR κ.1 κ j (κ.2 j) = κ := by
  unfold KR
  refine Prod.ext rfl ?_
  funext q
  by_cases hq : q = j
  · simp [hq]
  · simp [hq]
theorem CV.put {a : St} {κ : Kap} {j : Nat} {z : Nat → Int32} (hj : j < 12) (hz : z = bf a j) (h : CV a κ) : CV a (KR (κ.1 ||| (1 <<< (nI j &&& 31))) κ j z) := fun t ht hb => by
  by_cases hq : t = j
  · subst hq
    rw [KR_at]
    exact hz
  · have h1 : (KR (κ.1 ||| (1 <<< (nI j &&& 31))) κ j z).2 t = κ.2 t := by simp [KR, hq]
    rw [h1]
    exact h t ht (bitA_or hj ht hq hb)
/-- what Arrays.fill has written so far -/
def fillN (g : Nat → Int32) (v : Int32) (k : Nat) : Nat → Int32 := fun q => if q < k then v else g q
theorem fillN_0 {g : Nat → Int32} {v : Int32} : fillN g v 0 = g := by
  funext q
  simp [fillN]
theorem fillN_s {g : Nat → Int32} {v : Int32} {k : Nat} : upd (fillN g v k) k v = fillN g v (k + 1) := by
  funext q
  unfold upd fillN
  by_cases h : q = k
  · rw [if_pos h, if_pos (by omega)]
  · rw [if_neg h]
    by_cases h2 : q < k
    · rw [if_pos h2, if_pos (by omega)]
    · rw [if_neg h2, if_neg (by omega)]
theorem B_out_done {a : St} {d : Nat} {g z : Nat → Int32} {b : Int32} (h : B_in a (nL a) (g, 0) = (z, b)) : B_out a (d + 1) g = if b = 0 then z else B_out a d z := by
  show (if (B_in a (nL a) (g, 0)).2 = 0 then (B_in a (nL a) (g, 0)).1 else B_out a d (B_in a (nL a) (g, 0)).1) = _
  rw [h]
end
section
theorem tw_181 : Cond.code yX1_costIn cX1_costIn 3 (some .int) ∈ tp_all := tp_mem 181 (by decide +kernel) rfl
theorem tw_178 : Cond.methodLink RX2 58 yX1_costIn ∈ tp_all := tp_mem 178 (by decide +kernel) rfl
theorem tw_179 : Cond.instanceMethod yX1_costIn ∈ tp_all := tp_mem 179 (by decide +kernel) rfl
theorem tw_180 : Cond.selects RX1 yX1_costIn yX1_costIn ∈ tp_all := tp_mem 180 (by decide +kernel) rfl
theorem tw_150 : Cond.code yX2_forgetWays cX2_forgetWays 1 none ∈ tp_all := tp_mem 150 (by decide +kernel) rfl
theorem tw_190 : Cond.methodLink RX2 48 yX2_forgetWays ∈ tp_all := tp_mem 190 (by decide +kernel) rfl
theorem tw_148 : Cond.instanceMethod yX2_forgetWays ∈ tp_all := tp_mem 148 (by decide +kernel) rfl
theorem tw_149 : Cond.selects RX2 yX2_forgetWays yX2_forgetWays ∈ tp_all := tp_mem 149 (by decide +kernel) rfl
theorem tw_22 : Cond.initialized RX2 ∈ tp_all := tp_mem 22 (by decide +kernel) rfl
theorem tw_700 : Cond.fieldLink RX2 19 "Turnpike$Roads" "costs" "[[I" ∈ tp_all := tp_mem 700 (by decide +kernel) rfl
theorem tw_222 : Cond.code yJ7_fill_53178 cJ7_fill_53178 4 none ∈ tp_all := tp_mem 222 (by decide +kernel) rfl
theorem tw_220 : Cond.methodLink RX2 69 yJ7_fill_53178 ∈ tp_all := tp_mem 220 (by decide +kernel) rfl
theorem tw_221 : Cond.static yJ7_fill_53178 ∈ tp_all := tp_mem 221 (by decide +kernel) rfl
theorem tw_37 : Cond.initialized RJ7 ∈ tp_all := tp_mem 37 (by decide +kernel) rfl
theorem te_f15 {U : State} (h : tp_E U) : va_Nw (.fieldLinkNest "Turnpike$Roads" 45 "Turnpike$Link" "cost" "I" "Turnpike") U := h.1 _ (List.mem_of_getElem? (i := 15) rfl)
theorem te_f3 {U : State} (h : tp_E U) : va_Nw (.fieldLinkNest "Turnpike$Roads" 30 "Turnpike$Link" "to" "I" "Turnpike") U := h.1 _ (List.mem_of_getElem? (i := 3) rfl)
theorem te_f2 {U : State} (h : tp_E U) : va_Nw (.fieldLinkNest "Turnpike$Roads" 27 "Turnpike$Link" "from" "I" "Turnpike") U := h.1 _ (List.mem_of_getElem? (i := 2) rfl)
theorem te_f14 {U : State} (h : tp_E U) : va_Nw (.fieldLinkNest "Turnpike$Roads" 75 "Turnpike$Link" "shut" "Z" "Turnpike") U := h.1 _ (List.mem_of_getElem? (i := 14) rfl)
theorem dX2_reckonCostsIn_0 : decode cX2_reckonCostsIn 0 = .ok (.iconst 0, 1) := by decide +kernel
theorem dX2_reckonCostsIn_1 : decode cX2_reckonCostsIn 1 = .ok (.istore_n 2, 1) := by decide +kernel
theorem dX2_reckonCostsIn_2 : decode cX2_reckonCostsIn 2 = .ok (.iload_n 2, 1) := by decide +kernel
theorem dX2_reckonCostsIn_3 : decode cX2_reckonCostsIn 3 = .ok (.aload_n 0, 1) := by decide +kernel
theorem dX2_reckonCostsIn_4 : decode cX2_reckonCostsIn 4 = .ok (.getfield 23, 3) := by decide +kernel
theorem dX2_reckonCostsIn_7 : decode cX2_reckonCostsIn 7 = .ok (.if_icmp .ge 47, 3) := by decide +kernel
theorem dX2_reckonCostsIn_54 : decode cX2_reckonCostsIn 54 = .ok (.return_, 1) := by decide +kernel
theorem dX2_reckonCostsIn_10 : decode cX2_reckonCostsIn 10 = .ok (.aload_n 0, 1) := by decide +kernel
theorem dX2_reckonCostsIn_11 : decode cX2_reckonCostsIn 11 = .ok (.getfield 11, 3) := by decide +kernel
theorem dX2_reckonCostsIn_14 : decode cX2_reckonCostsIn 14 = .ok (.iload_n 2, 1) := by decide +kernel
theorem dX2_reckonCostsIn_15 : decode cX2_reckonCostsIn 15 = .ok (.aaload, 1) := by decide +kernel
theorem dX2_reckonCostsIn_16 : decode cX2_reckonCostsIn 16 = .ok (.iload_n 1, 1) := by decide +kernel
theorem dX2_reckonCostsIn_17 : decode cX2_reckonCostsIn 17 = .ok (.invokevirtual 58, 3) := by decide +kernel
theorem dX2_reckonCostsIn_20 : decode cX2_reckonCostsIn 20 = .ok (.istore_n 3, 1) := by decide +kernel
theorem dX2_reckonCostsIn_21 : decode cX2_reckonCostsIn 21 = .ok (.iload_n 3, 1) := by decide +kernel
theorem dX2_reckonCostsIn_22 : decode cX2_reckonCostsIn 22 = .ok (.aload_n 0, 1) := by decide +kernel
theorem dX2_reckonCostsIn_23 : decode cX2_reckonCostsIn 23 = .ok (.getfield 11, 3) := by decide +kernel
theorem dX2_reckonCostsIn_26 : decode cX2_reckonCostsIn 26 = .ok (.iload_n 2, 1) := by decide +kernel
theorem dX2_reckonCostsIn_27 : decode cX2_reckonCostsIn 27 = .ok (.aaload, 1) := by decide +kernel
theorem dX2_reckonCostsIn_28 : decode cX2_reckonCostsIn 28 = .ok (.getfield 45, 3) := by decide +kernel
theorem dX2_reckonCostsIn_31 : decode cX2_reckonCostsIn 31 = .ok (.if_icmp .eq 17, 3) := by decide +kernel
theorem dX2_reckonCostsIn_48 : decode cX2_reckonCostsIn 48 = .ok (.iinc 2 1, 3) := by decide +kernel
theorem dX2_reckonCostsIn_51 : decode cX2_reckonCostsIn 51 = .ok (.goto (-49), 3) := by decide +kernel
theorem dX2_reckonCostsIn_34 : decode cX2_reckonCostsIn 34 = .ok (.aload_n 0, 1) := by decide +kernel
theorem dX2_reckonCostsIn_35 : decode cX2_reckonCostsIn 35 = .ok (.getfield 11, 3) := by decide +kernel
theorem dX2_reckonCostsIn_38 : decode cX2_reckonCostsIn 38 = .ok (.iload_n 2, 1) := by decide +kernel
theorem dX2_reckonCostsIn_39 : decode cX2_reckonCostsIn 39 = .ok (.aaload, 1) := by decide +kernel
theorem dX2_reckonCostsIn_40 : decode cX2_reckonCostsIn 40 = .ok (.iload_n 3, 1) := by decide +kernel
theorem dX2_reckonCostsIn_41 : decode cX2_reckonCostsIn 41 = .ok (.putfield 45, 3) := by decide +kernel
theorem dX2_reckonCostsIn_44 : decode cX2_reckonCostsIn 44 = .ok (.aload_n 0, 1) := by decide +kernel
theorem dX2_reckonCostsIn_45 : decode cX2_reckonCostsIn 45 = .ok (.invokevirtual 48, 3) := by decide +kernel
theorem dJ7_fill_53178_0 : decode cJ7_fill_53178 0 = .ok (.iconst 0, 1) := by decide +kernel
theorem dJ7_fill_53178_1 : decode cJ7_fill_53178 1 = .ok (.istore_n 2, 1) := by decide +kernel
theorem dJ7_fill_53178_2 : decode cJ7_fill_53178 2 = .ok (.aload_n 0, 1) := by decide +kernel
theorem dJ7_fill_53178_3 : decode cJ7_fill_53178 3 = .ok (.arraylength, 1) := by decide +kernel
theorem dJ7_fill_53178_4 : decode cJ7_fill_53178 4 = .ok (.istore_n 3, 1) := by decide +kernel
theorem dJ7_fill_53178_5 : decode cJ7_fill_53178 5 = .ok (.iload_n 2, 1) := by decide +kernel
theorem dJ7_fill_53178_6 : decode cJ7_fill_53178 6 = .ok (.iload_n 3, 1) := by decide +kernel
theorem dJ7_fill_53178_7 : decode cJ7_fill_53178 7 = .ok (.if_icmp .ge 13, 3) := by decide +kernel
theorem dJ7_fill_53178_20 : decode cJ7_fill_53178 20 = .ok (.return_, 1) := by decide +kernel
theorem dJ7_fill_53178_10 : decode cJ7_fill_53178 10 = .ok (.aload_n 0, 1) := by decide +kernel
theorem dJ7_fill_53178_11 : decode cJ7_fill_53178 11 = .ok (.iload_n 2, 1) := by decide +kernel
theorem dJ7_fill_53178_12 : decode cJ7_fill_53178 12 = .ok (.iload_n 1, 1) := by decide +kernel
theorem dJ7_fill_53178_13 : decode cJ7_fill_53178 13 = .ok (.iastore, 1) := by decide +kernel
theorem dJ7_fill_53178_14 : decode cJ7_fill_53178 14 = .ok (.iinc 2 1, 3) := by decide +kernel
theorem dJ7_fill_53178_17 : decode cJ7_fill_53178 17 = .ok (.goto (-12), 3) := by decide +kernel
theorem dX2_costsTo_0 : decode cX2_costsTo 0 = .ok (.aload_n 0, 1) := by decide +kernel
theorem dX2_costsTo_1 : decode cX2_costsTo 1 = .ok (.getfield 19, 3) := by decide +kernel
theorem dX2_costsTo_4 : decode cX2_costsTo 4 = .ok (.iload_n 1, 1) := by decide +kernel
theorem dX2_costsTo_5 : decode cX2_costsTo 5 = .ok (.aaload, 1) := by decide +kernel
theorem dX2_costsTo_6 : decode cX2_costsTo 6 = .ok (.astore_n 2, 1) := by decide +kernel
theorem dX2_costsTo_7 : decode cX2_costsTo 7 = .ok (.aload_n 0, 1) := by decide +kernel
theorem dX2_costsTo_8 : decode cX2_costsTo 8 = .ok (.getfield 66, 3) := by decide +kernel
theorem dX2_costsTo_11 : decode cX2_costsTo 11 = .ok (.iload_n 1, 1) := by decide +kernel
theorem dX2_costsTo_12 : decode cX2_costsTo 12 = .ok (.ishr, 1) := by decide +kernel
theorem dX2_costsTo_13 : decode cX2_costsTo 13 = .ok (.iconst 1, 1) := by decide +kernel
theorem dX2_costsTo_14 : decode cX2_costsTo 14 = .ok (.iand, 1) := by decide +kernel
theorem dX2_costsTo_15 : decode cX2_costsTo 15 = .ok (.iconst 1, 1) := by decide +kernel
theorem dX2_costsTo_16 : decode cX2_costsTo 16 = .ok (.if_icmp .ne 5, 3) := by decide +kernel
theorem dX2_costsTo_21 : decode cX2_costsTo 21 = .ok (.aload_n 0, 1) := by decide +kernel
theorem dX2_costsTo_22 : decode cX2_costsTo 22 = .ok (.dup, 1) := by decide +kernel
theorem dX2_costsTo_23 : decode cX2_costsTo 23 = .ok (.getfield 66, 3) := by decide +kernel
theorem dX2_costsTo_26 : decode cX2_costsTo 26 = .ok (.iconst 1, 1) := by decide +kernel
theorem dX2_costsTo_27 : decode cX2_costsTo 27 = .ok (.iload_n 1, 1) := by decide +kernel
theorem dX2_costsTo_28 : decode cX2_costsTo 28 = .ok (.ishl, 1) := by decide +kernel
theorem dX2_costsTo_29 : decode cX2_costsTo 29 = .ok (.ior, 1) := by decide +kernel
theorem dX2_costsTo_30 : decode cX2_costsTo 30 = .ok (.putfield 66, 3) := by decide +kernel
theorem dX2_costsTo_33 : decode cX2_costsTo 33 = .ok (.aload_n 2, 1) := by decide +kernel
theorem dX2_costsTo_34 : decode cX2_costsTo 34 = .ok (.iconst (-1), 1) := by decide +kernel
theorem dX2_costsTo_35 : decode cX2_costsTo 35 = .ok (.invokestatic 69, 3) := by decide +kernel
theorem dX2_costsTo_38 : decode cX2_costsTo 38 = .ok (.aload_n 2, 1) := by decide +kernel
theorem dX2_costsTo_39 : decode cX2_costsTo 39 = .ok (.iload_n 1, 1) := by decide +kernel
theorem dX2_costsTo_40 : decode cX2_costsTo 40 = .ok (.iconst 0, 1) := by decide +kernel
theorem dX2_costsTo_41 : decode cX2_costsTo 41 = .ok (.iastore, 1) := by decide +kernel
theorem dX2_costsTo_42 : decode cX2_costsTo 42 = .ok (.iconst 1, 1) := by decide +kernel
theorem dX2_costsTo_43 : decode cX2_costsTo 43 = .ok (.istore_n 3, 1) := by decide +kernel
theorem dX2_costsTo_44 : decode cX2_costsTo 44 = .ok (.iconst 0, 1) := by decide +kernel
theorem dX2_costsTo_45 : decode cX2_costsTo 45 = .ok (.istore 4, 2) := by decide +kernel
theorem dX2_costsTo_47 : decode cX2_costsTo 47 = .ok (.iload_n 3, 1) := by decide +kernel
theorem dX2_costsTo_48 : decode cX2_costsTo 48 = .ok (.ifCond .eq 113, 3) := by decide +kernel
theorem dX2_costsTo_161 : decode cX2_costsTo 161 = .ok (.aload_n 2, 1) := by decide +kernel
theorem dX2_costsTo_162 : decode cX2_costsTo 162 = .ok (.areturn, 1) := by decide +kernel
theorem dX2_costsTo_51 : decode cX2_costsTo 51 = .ok (.iload 4, 2) := by decide +kernel
theorem dX2_costsTo_53 : decode cX2_costsTo 53 = .ok (.bipush 12, 2) := by decide +kernel
theorem dX2_costsTo_55 : decode cX2_costsTo 55 = .ok (.if_icmp .ge 106, 3) := by decide +kernel
theorem dX2_costsTo_58 : decode cX2_costsTo 58 = .ok (.iconst 0, 1) := by decide +kernel
theorem dX2_costsTo_59 : decode cX2_costsTo 59 = .ok (.istore_n 3, 1) := by decide +kernel
theorem dX2_costsTo_60 : decode cX2_costsTo 60 = .ok (.iconst 0, 1) := by decide +kernel
theorem dX2_costsTo_61 : decode cX2_costsTo 61 = .ok (.istore 5, 2) := by decide +kernel
theorem dX2_costsTo_63 : decode cX2_costsTo 63 = .ok (.iload 5, 2) := by decide +kernel
theorem dX2_costsTo_65 : decode cX2_costsTo 65 = .ok (.aload_n 0, 1) := by decide +kernel
theorem dX2_costsTo_66 : decode cX2_costsTo 66 = .ok (.getfield 23, 3) := by decide +kernel
theorem dX2_costsTo_69 : decode cX2_costsTo 69 = .ok (.if_icmp .ge 86, 3) := by decide +kernel
theorem dX2_costsTo_155 : decode cX2_costsTo 155 = .ok (.iinc 4 1, 3) := by decide +kernel
theorem dX2_costsTo_158 : decode cX2_costsTo 158 = .ok (.goto (-111), 3) := by decide +kernel
theorem dX2_costsTo_72 : decode cX2_costsTo 72 = .ok (.aload_n 0, 1) := by decide +kernel
theorem dX2_costsTo_73 : decode cX2_costsTo 73 = .ok (.getfield 11, 3) := by decide +kernel
theorem dX2_costsTo_76 : decode cX2_costsTo 76 = .ok (.iload 5, 2) := by decide +kernel
theorem dX2_costsTo_78 : decode cX2_costsTo 78 = .ok (.aaload, 1) := by decide +kernel
theorem dX2_costsTo_79 : decode cX2_costsTo 79 = .ok (.astore 6, 2) := by decide +kernel
theorem dX2_costsTo_81 : decode cX2_costsTo 81 = .ok (.aload_n 2, 1) := by decide +kernel
theorem dX2_costsTo_82 : decode cX2_costsTo 82 = .ok (.aload 6, 2) := by decide +kernel
theorem dX2_costsTo_84 : decode cX2_costsTo 84 = .ok (.getfield 30, 3) := by decide +kernel
theorem dX2_costsTo_87 : decode cX2_costsTo 87 = .ok (.iaload, 1) := by decide +kernel
theorem dX2_costsTo_88 : decode cX2_costsTo 88 = .ok (.istore 7, 2) := by decide +kernel
theorem dX2_costsTo_90 : decode cX2_costsTo 90 = .ok (.aload_n 2, 1) := by decide +kernel
theorem dX2_costsTo_91 : decode cX2_costsTo 91 = .ok (.aload 6, 2) := by decide +kernel
theorem dX2_costsTo_93 : decode cX2_costsTo 93 = .ok (.getfield 27, 3) := by decide +kernel
theorem dX2_costsTo_96 : decode cX2_costsTo 96 = .ok (.iaload, 1) := by decide +kernel
theorem dX2_costsTo_97 : decode cX2_costsTo 97 = .ok (.istore 8, 2) := by decide +kernel
theorem dX2_costsTo_99 : decode cX2_costsTo 99 = .ok (.aload 6, 2) := by decide +kernel
theorem dX2_costsTo_101 : decode cX2_costsTo 101 = .ok (.getfield 75, 3) := by decide +kernel
theorem dX2_costsTo_104 : decode cX2_costsTo 104 = .ok (.ifCond .ne 45, 3) := by decide +kernel
theorem dX2_costsTo_149 : decode cX2_costsTo 149 = .ok (.iinc 5 1, 3) := by decide +kernel
theorem dX2_costsTo_152 : decode cX2_costsTo 152 = .ok (.goto (-89), 3) := by decide +kernel
theorem dX2_costsTo_107 : decode cX2_costsTo 107 = .ok (.iload 7, 2) := by decide +kernel
theorem dX2_costsTo_109 : decode cX2_costsTo 109 = .ok (.iconst (-1), 1) := by decide +kernel
theorem dX2_costsTo_110 : decode cX2_costsTo 110 = .ok (.if_icmp .eq 39, 3) := by decide +kernel
theorem dX2_costsTo_113 : decode cX2_costsTo 113 = .ok (.iload 8, 2) := by decide +kernel
theorem dX2_costsTo_115 : decode cX2_costsTo 115 = .ok (.iconst (-1), 1) := by decide +kernel
theorem dX2_costsTo_116 : decode cX2_costsTo 116 = .ok (.if_icmp .eq 16, 3) := by decide +kernel
theorem dX2_costsTo_132 : decode cX2_costsTo 132 = .ok (.aload_n 2, 1) := by decide +kernel
theorem dX2_costsTo_133 : decode cX2_costsTo 133 = .ok (.aload 6, 2) := by decide +kernel
theorem dX2_costsTo_135 : decode cX2_costsTo 135 = .ok (.getfield 27, 3) := by decide +kernel
theorem dX2_costsTo_138 : decode cX2_costsTo 138 = .ok (.aload 6, 2) := by decide +kernel
theorem dX2_costsTo_140 : decode cX2_costsTo 140 = .ok (.getfield 45, 3) := by decide +kernel
theorem dX2_costsTo_143 : decode cX2_costsTo 143 = .ok (.iload 7, 2) := by decide +kernel
theorem dX2_costsTo_145 : decode cX2_costsTo 145 = .ok (.iadd, 1) := by decide +kernel
theorem dX2_costsTo_146 : decode cX2_costsTo 146 = .ok (.iastore, 1) := by decide +kernel
theorem dX2_costsTo_147 : decode cX2_costsTo 147 = .ok (.iconst 1, 1) := by decide +kernel
theorem dX2_costsTo_148 : decode cX2_costsTo 148 = .ok (.istore_n 3, 1) := by decide +kernel
theorem dX2_costsTo_119 : decode cX2_costsTo 119 = .ok (.aload 6, 2) := by decide +kernel
theorem dX2_costsTo_121 : decode cX2_costsTo 121 = .ok (.getfield 45, 3) := by decide +kernel
theorem dX2_costsTo_124 : decode cX2_costsTo 124 = .ok (.iload 7, 2) := by decide +kernel
theorem dX2_costsTo_126 : decode cX2_costsTo 126 = .ok (.iadd, 1) := by decide +kernel
theorem dX2_costsTo_127 : decode cX2_costsTo 127 = .ok (.iload 8, 2) := by decide +kernel
theorem dX2_costsTo_129 : decode cX2_costsTo 129 = .ok (.if_icmp .ge 20, 3) := by decide +kernel
theorem dX2_costsTo_19 : decode cX2_costsTo 19 = .ok (.aload_n 2, 1) := by decide +kernel
theorem dX2_costsTo_20 : decode cX2_costsTo 20 = .ok (.areturn, 1) := by decide +kernel
set_option maxRecDepth 100000 in
set_option maxHeartbeats 4000000 in
/-- Roads.reckonCostsIn -/
theorem c_Roads_reckonCostsIn (l : Launch) (dC : Nat → ClassId) (dI : Nat → Nat → Nat) (cy : Nat → ClassId) (L : Lay) (tr : Option Nat) (a : St) (κ : Kap) (τ : Tau) (M : Nat) (tk : Int32) (sz : Nat) (hT : TL L tr τ) (hw : Wf M a) (hκ : CV a κ) : Met l yX2_reckonCostsIn (tp_w yX2_reckonCostsIn cX2_reckonCostsIn 4 none) ({ frames := 3, cells := 0, slots := 0, locals := 65 }) (va_Pc [.ref (L 1 0), .int tk] (mPre dC dI cy (TW cy L tr a κ τ) sz)) (va_Qv (fun _ : Unit => True) (fun (_ : Unit) (t : State) => ∃ (κ2 : Kap), (CV (G_reck a tk) κ2) ∧ mw (dC, dI) vwCl (mA (TW cy L tr a κ τ) sz) (TW cy L tr (G_reck a tk) κ2 τ) t.heap) (mA (TW cy L tr a κ τ) sz)) (0) (0) (mA (TW cy L tr a κ τ) sz) := by
  refine Met.ofW (cc := cX2_reckonCostsIn) (maxL := 4) (ret := none) (by decide) rfl ?_
  intro p e s m args below meth c s₁ B hml hv
  obtain ⟨rfl, hsz, hP, hK, hE⟩ := hv
  have hx := B.exec
  have hb := B.bytes
  have hr := B.returns
  have hts0 := atoms_spec (ws := tp_w yX2_reckonCostsIn cX2_reckonCostsIn 4 none) B.pre
  have hts : ∀ w ∈ tp_all, w.before _ s = true := fun w h => hts0 w (List.mem_cons_of_mem _ h)
  have hown : s.vm.findClass RX2 = some m.cls := findClass_of_methodNamed B.named
  have hlocks := B.notSynchronized
  subst hsz
  have hP := hP.self s.heap.size
  generalize hAe : mA (TW cy L tr a κ τ) s.heap.size = A at hP ⊢
  have hA : ∀ q : Nat, s.heap.size ≤ q → A q := fun q h => by rw [← hAe]; exact Or.inr h
  have hS : va_S A s.heap s.heap [] := va_S.rf
  have hl9 := lv_entry ([.ref (L 1 0), .int tk]) (n := 4) (Nat.le_of_ble_eq_true rfl)
  rw [lg_entry_eq]
  generalize (lg_sl ([.ref (L 1 0), .int tk]) ++ List.replicate (4 - (lg_sl ([.ref (L 1 0), .int tk])).length) Slot.unset).toArray = ls at hl9 ⊢
  have hl : lv_has ls 4 [(0, .ref (L 1 0)), (1, .int tk)] := hl9
  refine lv_iconst (v := 0) hx hb dX2_reckonCostsIn_0 (by decide) ?_
  refine lv_istore_n (lv' := [(2, .int 0), (0, .ref (L 1 0)), (1, .int tk)]) hx hb dX2_reckonCostsIn_1 rfl hl (by decide) rfl (fun ls hl => ?_)
  have hN : nL a ≤ 24 := in_le hw.1.1
  refine W.widen (k := (fun i => 0 + 0 * i) 0) (n := (fun i => 0 + 0 * i) 0) (Nat.le_refl _) (Nat.le_refl _) ?_
  refine tp_for (σ := Kap) (nL a) (fun i => 0 + 0 * i) (fun i => 0 + 0 * i) (fun (i : Nat) (x : Kap) (H : Heap) (locs : List Loc) (ls : Array Slot) => CV (itN (L_reck tk) i a) x ∧ mw (dC, dI) vwCl A (TW cy L tr (itN (L_reck tk) i a) x τ) H ∧ va_S A s.heap H locs ∧ lv_has ls 4 [(2, .int (nI i)), (0, .ref (L 1 0)), (1, .int tk)]) ?_ ?_ (nL a) 0 (Nat.zero_add _) κ _ _ ls ⟨hκ, hP, hS, lv_sub hl [0, 1, 2] rfl⟩
  · rintro κ9 H locs ls ⟨hκ9, hP, hS, hl⟩
    have hl : lv_has ls 4 [(2, .int (nI (nL a))), (0, .ref (L 1 0)), (1, .int tk)] := hl
    have hκ9 : CV (itN (L_reck tk) (nL a) a) κ9 := hκ9
    obtain ⟨b1, eb1⟩ : ∃ z : St, z = itN (L_reck tk) (nL a) a := ⟨_, rfl⟩
    rw [← eb1] at hP
    rw [← eb1] at hκ9
    have h1b1 : b1 1 0 0 = a 1 0 0 := by rw [eb1]; exact itN_keep (P := fun b => b 1 0 0 = a 1 0 0) rfl (fun i b h => by rw [L_reck_off (by decide)]; exact h) _
    refine lv_iload_n hx hb dX2_reckonCostsIn_2 rfl (lv_at hl 0 rfl) ?_
    refine lv_aload_n hx hb dX2_reckonCostsIn_3 rfl (lv_at hl 1 rfl) ?_
    refine va_get (D := (dC, dI)) (ws := [(L 1 0, .inr (2, [.ref (L 24 0), .int ((b1 1 0) 0), .ref (L 25 0), .int κ9.1]))]) (ci := 2) (v := .int ((b1 1 0) 0)) (C := RX2) (T := TX2) (N := 4) hx hb hts tl_X2 hown hK (hP.one (tw_mem (f := 1) (i := 0) (by decide) rfl)) 0 rfl rfl 1 (by decide) (hts _ tw_697) (fun _ h9 => h9) rfl dX2_reckonCostsIn_4 ?_
    refine W.eq (g2 := F0 m 7 ls [.int (nI (nL a)), .int (nI (nL a))]) (by rw [h1b1, in_nI hw.1.1]) ?_
    refine lv_icmp_ge (tgt := 54) hx hb dX2_reckonCostsIn_7 (by decide) (fun _ => ?_) (fun c_1 => absurd (Int32.le_refl _) c_1)
    refine W.widen (k := 0) (n := 0) (by show 0 + 0 * (nL a) + 0 ≤ 0; omega) (by show 0 + 0 * (nL a) + 0 ≤ 0; omega) ?_
    have s_1 : b1 = G_reck a tk := by
      rw [eb1]
      rfl
    rw [s_1] at hP
    have g_1 : CV (G_reck a tk) κ9 := by
      rw [← s_1]
      exact hκ9
    exact W.vret hx hb hr (fun t ht hW => ⟨⟨(), rfl, trivial, ⟨κ9, g_1, by show mw _ _ _ _ t.heap; rw [ht]; exact hP⟩⟩, hS.F ht⟩) hS.2.2 dX2_reckonCostsIn_54
  · rintro i κ9 H locs ls hi ⟨hκ9, hP, hS, hl⟩ ih
    have hl : lv_has ls 4 [(2, .int (nI i)), (0, .ref (L 1 0)), (1, .int tk)] := hl
    have hκ9 : CV (itN (L_reck tk) i a) κ9 := hκ9
    obtain ⟨b2, eb2⟩ : ∃ z : St, z = itN (L_reck tk) i a := ⟨_, rfl⟩
    rw [← eb2] at hP
    rw [← eb2] at hκ9
    have h1b2 : b2 1 0 0 = a 1 0 0 := by rw [eb2]; exact itN_keep (P := fun b => b 1 0 0 = a 1 0 0) rfl (fun i b h => by rw [L_reck_off (by decide)]; exact h) _
    have h5b2 : in_ (b2 5 i 0) 30 := by rw [eb2]; exact itN_keep (P := fun b => in_ (b 5 i 0) 30) (hw.2.1 i (Nat.lt_of_lt_of_le hi hN)).2.2.2.2.2 (fun j b h => by rw [L_reck_off (by decide)]; exact h) _
    refine lv_iload_n hx hb dX2_reckonCostsIn_2 rfl (lv_at hl 0 rfl) ?_
    refine lv_aload_n hx hb dX2_reckonCostsIn_3 rfl (lv_at hl 1 rfl) ?_
    refine va_get (D := (dC, dI)) (ws := [(L 1 0, .inr (2, [.ref (L 24 0), .int ((b2 1 0) 0), .ref (L 25 0), .int κ9.1]))]) (ci := 2) (v := .int ((b2 1 0) 0)) (C := RX2) (T := TX2) (N := 4) hx hb hts tl_X2 hown hK (hP.one (tw_mem (f := 1) (i := 0) (by decide) rfl)) 0 rfl rfl 1 (by decide) (hts _ tw_697) (fun _ h9 => h9) rfl dX2_reckonCostsIn_4 ?_
    refine W.eq (g2 := F0 m 7 ls [.int (nI (nL a)), .int (nI i)]) (by rw [h1b2, in_nI hw.1.1]) ?_
    refine lv_icmp_ge (tgt := 54) hx hb dX2_reckonCostsIn_7 (by decide) (fun c_2 => absurd c_2 (nI_ge hi (by omega))) (fun _ => ?_)
    refine lv_aload_n hx hb dX2_reckonCostsIn_10 rfl (lv_at hl 1 rfl) ?_
    refine va_get (D := (dC, dI)) (ws := [(L 1 0, .inr (2, [.ref (L 24 0), .int ((b2 1 0) 0), .ref (L 25 0), .int κ9.1]))]) (ci := 2) (v := .ref (L 24 0)) (C := RX2) (T := TX2) (N := 4) hx hb hts tl_X2 hown hK (hP.one (tw_mem (f := 1) (i := 0) (by decide) rfl)) 0 rfl rfl 0 (by decide) (hts _ tw_695) (fun _ h9 => h9) rfl dX2_reckonCostsIn_11 ?_
    refine lv_iload_n hx hb dX2_reckonCostsIn_14 rfl (lv_at hl 0 rfl) ?_
    have j_1 : (nI i : Int32).toNatClampNeg = i := m_cl rfl (Nat.lt_of_lt_of_le hi hN) (by decide)
    refine va_aldq hx hb hK (ws := [(L 24 0, .inl (cy 3, 24, .inr (.inr (.inr (.inr (fun j => some (L 2 j)))))))]) (hP.one (tw_mem (f := 24) (i := 0) (by decide) rfl)) 0 3 rfl rfl (m_in rfl (Nat.lt_of_lt_of_le hi hN) (by decide)) dX2_reckonCostsIn_15 ?_
    refine W.eq (g2 := F0 m 16 ls [.ref (L 2 i)]) (by first | (rw [j_1]; done) | (rw [j_1]; rfl)) ?_
    refine lv_iload_n hx hb dX2_reckonCostsIn_16 rfl (lv_at hl 2 rfl) ?_
    have hFc := m_free (C := (TW cy L tr b2 κ9 τ)) hP hS hA (fun _ _ h => h)
    refine va_calli (va_runV (As := [.int tk]) (rest := []) ⟨hx, hb, hml, hown, hts⟩ (c_Link_costIn l dC dI cy L tr b2 κ9 τ i tk H.size hT (Nat.lt_of_lt_of_le hi hN) h5b2.1 h5b2.2) (tp_cwV 1 hts tw_178 tw_179 tw_180 tw_23 tw_181 rfl rfl (by decide +kernel) ⟨Nat.le_of_ble_eq_true rfl, Nat.le_of_ble_eq_true rfl⟩) ⟨m_blind, va_recv hK (hP.one (e := .inr (1, [.int ((b2 2 i) 0), .int ((b2 2 i) 1), .int ((b2 2 i) 2), .int ((b2 2 i) 3), .int ((b2 2 i) 4), .int ((b2 2 i) 5), .int ((b2 2 i) 6), .int ((b2 2 i) 7), .int ((b2 2 i) 8), .ref (L 3 i), .ref (L 5 i), .int ((b2 2 i) 9), .int ((b2 2 i) 10), .int ((b2 2 i) 11), .int ((b2 2 i) 12), .ref (L 7 i)])) (tw_mem (f := 2) (i := i) (Nat.lt_of_lt_of_le hi hN) rfl)) (ci := 1) (q0 := 0) rfl rfl, fun U hU hW => ⟨rfl, m_pay hK hP hE (fun _ _ h => h) U hU hW⟩⟩ rfl rfl hl.1 rfl (lv_room (Nat.le_of_ble_eq_true rfl)) dX2_reckonCostsIn_17 ⟨(by show 0 + 0 * i + 0 ≤ 0; omega), (by show 0 + 0 * i + 0 ≤ 0; omega)⟩) hS (fun q _ h => hFc q h) hFc (fun r_1 u t H1 locs ht hvm hpo hB hz1 hk1 hS => ?_)
    obtain rfl := hpo
    obtain ⟨f_1, hP1⟩ := hB
    subst f_1
    rw [ht] at hP1
    have hP : mw (dC, dI) vwCl A (TW cy L tr b2 κ9 τ) H1 := hP.join (fun _ _ h => h) hk1 hFc hP1 (fun _ _ h => Or.inl h)
    generalize H1 = H at hP hS ⊢
    clear hP1 hk1 hFc
    refine lv_istore_n (lv' := [(3, .int (L_cost b2 i tk)), (2, .int (nI i)), (0, .ref (L 1 0)), (1, .int tk)]) hx hb dX2_reckonCostsIn_20 rfl hl (by decide) rfl (fun ls hl => ?_)
    refine lv_iload_n hx hb dX2_reckonCostsIn_21 rfl (lv_at hl 0 rfl) ?_
    refine lv_aload_n hx hb dX2_reckonCostsIn_22 rfl (lv_at hl 2 rfl) ?_
    refine va_get (D := (dC, dI)) (ws := [(L 1 0, .inr (2, [.ref (L 24 0), .int ((b2 1 0) 0), .ref (L 25 0), .int κ9.1]))]) (ci := 2) (v := .ref (L 24 0)) (C := RX2) (T := TX2) (N := 4) hx hb hts tl_X2 hown hK (hP.one (tw_mem (f := 1) (i := 0) (by decide) rfl)) 0 rfl rfl 0 (by decide) (hts _ tw_695) (fun _ h9 => h9) rfl dX2_reckonCostsIn_23 ?_
    refine lv_iload_n hx hb dX2_reckonCostsIn_26 rfl (lv_at hl 1 rfl) ?_
    have j_2 : (nI i : Int32).toNatClampNeg = i := m_cl rfl (Nat.lt_of_lt_of_le hi hN) (by decide)
    refine va_aldq hx hb hK (ws := [(L 24 0, .inl (cy 3, 24, .inr (.inr (.inr (.inr (fun j => some (L 2 j)))))))]) (hP.one (tw_mem (f := 24) (i := 0) (by decide) rfl)) 0 3 rfl rfl (m_in rfl (Nat.lt_of_lt_of_le hi hN) (by decide)) dX2_reckonCostsIn_27 ?_
    refine W.eq (g2 := F0 m 28 ls [.ref (L 2 i), .int (L_cost b2 i tk)]) (by first | (rw [j_2]; done) | (rw [j_2]; rfl)) ?_
    refine va_getN (D := (dC, dI)) (ws := [(L 2 i, .inr (1, [.int ((b2 2 i) 0), .int ((b2 2 i) 1), .int ((b2 2 i) 2), .int ((b2 2 i) 3), .int ((b2 2 i) 4), .int ((b2 2 i) 5), .int ((b2 2 i) 6), .int ((b2 2 i) 7), .int ((b2 2 i) 8), .ref (L 3 i), .ref (L 5 i), .int ((b2 2 i) 9), .int ((b2 2 i) 10), .int ((b2 2 i) 11), .int ((b2 2 i) 12), .ref (L 7 i)]))]) (ci := 1) (v := .int ((b2 2 i) 8)) (C := RX1) (T := TX1) (N := 16) hx hb hts tl_X1 hown hK (hP.one (tw_mem (f := 2) (i := i) (Nat.lt_of_lt_of_le hi hN) rfl)) 0 rfl rfl 8 (by decide) (va_Nw.use rfl (te_f15 hE)) (fun _ h9 => h9) rfl dX2_reckonCostsIn_28 ?_
    refine lv_icmp_eq (tgt := 48) hx hb dX2_reckonCostsIn_31 (by decide) (fun c_3 => ?_) (fun c_3 => ?_)
    · refine lv_iinc (v := nI (i + 1)) (lv' := [(2, .int (nI (i + 1))), (3, .int (L_cost b2 i tk)), (0, .ref (L 1 0)), (1, .int tk)]) hx hb dX2_reckonCostsIn_48 hl (k := 1) rfl (nI_1 i) (by decide) rfl (fun ls hl => ?_)
      refine lv_goto (tgt := 2) hx hb dX2_reckonCostsIn_51 (by decide) ?_
      have e9 : b2 = itN (L_reck tk) (i + 1) a := by
        rw [show itN (L_reck tk) (i + 1) a = L_reck tk i b2 from by rw [eb2]; rfl]
        unfold L_reck
        rw [upd_id c_3, S2_id]
      rw [e9] at hP
      refine W.widen (k := (fun i => 0 + 0 * i) (i + 1)) (n := (fun i => 0 + 0 * i) (i + 1)) (by show _ ≤ 0 + 0 * (i + 1); omega) (by show _ ≤ 0 + 0 * (i + 1); omega) ?_
      exact ih κ9 _ _ ls ⟨(by rw [← e9]; exact hκ9), hP, hS, lv_sub hl [0, 2, 3] rfl⟩
    · refine lv_aload_n hx hb dX2_reckonCostsIn_34 rfl (lv_at hl 2 rfl) ?_
      refine va_get (D := (dC, dI)) (ws := [(L 1 0, .inr (2, [.ref (L 24 0), .int ((b2 1 0) 0), .ref (L 25 0), .int κ9.1]))]) (ci := 2) (v := .ref (L 24 0)) (C := RX2) (T := TX2) (N := 4) hx hb hts tl_X2 hown hK (hP.one (tw_mem (f := 1) (i := 0) (by decide) rfl)) 0 rfl rfl 0 (by decide) (hts _ tw_695) (fun _ h9 => h9) rfl dX2_reckonCostsIn_35 ?_
      refine lv_iload_n hx hb dX2_reckonCostsIn_38 rfl (lv_at hl 1 rfl) ?_
      have j_3 : (nI i : Int32).toNatClampNeg = i := m_cl rfl (Nat.lt_of_lt_of_le hi hN) (by decide)
      refine va_aldq hx hb hK (ws := [(L 24 0, .inl (cy 3, 24, .inr (.inr (.inr (.inr (fun j => some (L 2 j)))))))]) (hP.one (tw_mem (f := 24) (i := 0) (by decide) rfl)) 0 3 rfl rfl (m_in rfl (Nat.lt_of_lt_of_le hi hN) (by decide)) dX2_reckonCostsIn_39 ?_
      refine W.eq (g2 := F0 m 40 ls [.ref (L 2 i)]) (by first | (rw [j_3]; done) | (rw [j_3]; rfl)) ?_
      refine lv_iload_n hx hb dX2_reckonCostsIn_40 rfl (lv_at hl 0 rfl) ?_
      obtain ⟨ws9, k9, hPw, hDw, hk9, -, hbk⟩ := hP.cut (e := .inr (1, [.int ((b2 2 i) 0), .int ((b2 2 i) 1), .int ((b2 2 i) 2), .int ((b2 2 i) 3), .int ((b2 2 i) 4), .int ((b2 2 i) 5), .int ((b2 2 i) 6), .int ((b2 2 i) 7), .int ((b2 2 i) 8), .ref (L 3 i), .ref (L 5 i), .int ((b2 2 i) 9), .int ((b2 2 i) 10), .int ((b2 2 i) 11), .int ((b2 2 i) 12), .ref (L 7 i)])) (tw_mem (f := 2) (i := i) (Nat.lt_of_lt_of_le hi hN) rfl)
      refine va_putN (D := (dC, dI)) (ci := 1) (v := .int (L_cost b2 i tk)) (ty := .int) (C := RX1) (T := TX1) (N := 16) hx hb hts tl_X1 tyX1 tyX1_ok nmX1 hown hK hPw hDw hS k9 hk9 rfl 8 (by decide) (va_Nw.use rfl (te_f15 hE)) (fun _ h9 => h9) rfl (by decide +kernel) rfl rfl (Nat.le_of_ble_eq_true rfl) dX2_reckonCostsIn_41 (fun H locs hPw hDw hS => ?_)
      have hP : mw (dC, dI) vwCl A (TW cy L tr (S2 b2 2 i (upd (b2 2 i) 8 (L_cost b2 i tk))) κ9 τ) H := (hbk _ _ hPw hDw).sub (tw_set (b := S2 b2 2 i (upd (b2 2 i) 8 (L_cost b2 i tk))) (f := 2) (i := i) (x := upd (b2 2 i) 8 (L_cost b2 i tk)) hT (Nat.lt_of_lt_of_le hi hN) (by decide) rfl)
      clear hbk hPw hDw hk9
      refine lv_aload_n hx hb dX2_reckonCostsIn_44 rfl (lv_at hl 2 rfl) ?_
      obtain ⟨b3, eb3⟩ : ∃ z : St, z = S2 b2 2 i (upd (b2 2 i) 8 (L_cost b2 i tk)) := ⟨_, rfl⟩
      rw [← eb3] at hP
      have hFc := m_free (C := (TW cy L tr b3 κ9 τ)) hP hS hA (fun _ _ h => h)
      refine va_callv (va_runV (As := []) (rest := []) ⟨hx, hb, hml, hown, hts⟩ (c_Roads_forgetWays l dC dI cy L tr b3 κ9 τ H.size hT) (tp_cwV 0 hts tw_190 tw_148 tw_149 tw_22 tw_150 rfl rfl (by decide +kernel) ⟨Nat.le_of_ble_eq_true rfl, Nat.le_of_ble_eq_true rfl⟩) ⟨m_blind, va_recv hK (hP.one (e := .inr (2, [.ref (L 24 0), .int ((b3 1 0) 0), .ref (L 25 0), .int κ9.1])) (tw_mem (f := 1) (i := 0) (by decide) rfl)) (ci := 2) (q0 := 0) rfl rfl, fun U hU hW => ⟨rfl, m_pay hK hP hE (fun _ _ h => h) U hU hW⟩⟩ rfl rfl hl.1 rfl (lv_room (Nat.le_of_ble_eq_true rfl)) dX2_reckonCostsIn_45 ⟨(by show 0 + 0 * i + 0 + 0 ≤ 0; omega), (by show 0 + 0 * i + 0 + 0 ≤ 0; omega)⟩) hS (fun q _ h => hFc q h) hFc (fun u t H1 locs ht hvm hpo hB hz1 hk1 hS => ?_)
      have hP1 := hB
      rw [ht] at hP1
      have hP : mw (dC, dI) vwCl A (TW cy L tr b3 ((0, κ9.2)) τ) H1 := hP.join (fun _ _ h => h) hk1 hFc hP1 (fun _ _ h => Or.inl h)
      generalize H1 = H at hP hS ⊢
      clear hP1 hk1 hFc
      refine lv_iinc (v := nI (i + 1)) (lv' := [(2, .int (nI (i + 1))), (3, .int (L_cost b2 i tk)), (0, .ref (L 1 0)), (1, .int tk)]) hx hb dX2_reckonCostsIn_48 hl (k := 1) rfl (nI_1 i) (by decide) rfl (fun ls hl => ?_)
      refine lv_goto (tgt := 2) hx hb dX2_reckonCostsIn_51 (by decide) ?_
      have e9 : b3 = itN (L_reck tk) (i + 1) a := by
        rw [eb3, eb2]
        rfl
      rw [e9] at hP
      refine W.widen (k := (fun i => 0 + 0 * i) (i + 1)) (n := (fun i => 0 + 0 * i) (i + 1)) (by show _ ≤ 0 + 0 * (i + 1); omega) (by show _ ≤ 0 + 0 * (i + 1); omega) ?_
      exact ih ((0, κ9.2)) _ _ ls ⟨CV.none, hP, hS, lv_sub hl [0, 2, 3] rfl⟩
set_option maxRecDepth 100000 in
set_option maxHeartbeats 4000000 in
/-- Arrays.fill of a row of costs -/
theorem c_fill (l : Launch) (dC : Nat → ClassId) (dI : Nat → Nat → Nat) (cy : Nat → ClassId) (L : Lay) (tr : Option Nat) (a : St) (κ : Kap) (τ : Tau) (i : Nat) (v : Int32) (sz : Nat) (hT : TL L tr τ) (hi : i < 12) : Met l yJ7_fill_53178 (tp_w yJ7_fill_53178 cJ7_fill_53178 4 none) ({ frames := 0, cells := 0, slots := 0, locals := 0 }) (va_Pc [.ref (L 17 i), .int v] (mPre dC dI cy (TW cy L tr a κ τ) sz)) (va_Qv (fun _ : Unit => True) (fun (_ : Unit) (t : State) => mw (dC, dI) vwCl (mA (TW cy L tr a κ τ) sz) (TW cy L tr a (KR κ.1 κ i (fun _ => v)) τ) t.heap) (mA (TW cy L tr a κ τ) sz)) (0) (0) (mA (TW cy L tr a κ τ) sz) := by
  refine Met.ofW (cc := cJ7_fill_53178) (maxL := 4) (ret := none) (by decide) rfl ?_
  intro p e s m args below meth c s₁ B hml hv
  obtain ⟨rfl, hsz, hP, hK, hE⟩ := hv
  have hx := B.exec
  have hb := B.bytes
  have hr := B.returns
  have hts0 := atoms_spec (ws := tp_w yJ7_fill_53178 cJ7_fill_53178 4 none) B.pre
  have hts : ∀ w ∈ tp_all, w.before _ s = true := fun w h => hts0 w (List.mem_cons_of_mem _ h)
  have hown : s.vm.findClass RJ7 = some m.cls := findClass_of_methodNamed B.named
  have hlocks := B.notSynchronized
  subst hsz
  have hP := hP.self s.heap.size
  generalize hAe : mA (TW cy L tr a κ τ) s.heap.size = A at hP ⊢
  have hA : ∀ q : Nat, s.heap.size ≤ q → A q := fun q h => by rw [← hAe]; exact Or.inr h
  have hS : va_S A s.heap s.heap [] := va_S.rf
  have hl9 := lv_entry ([.ref (L 17 i), .int v]) (n := 4) (Nat.le_of_ble_eq_true rfl)
  rw [lg_entry_eq]
  generalize (lg_sl ([.ref (L 17 i), .int v]) ++ List.replicate (4 - (lg_sl ([.ref (L 17 i), .int v])).length) Slot.unset).toArray = ls at hl9 ⊢
  have hl : lv_has ls 4 [(0, .ref (L 17 i)), (1, .int v)] := hl9
  refine lv_iconst (v := 0) hx hb dJ7_fill_53178_0 (by decide) ?_
  refine lv_istore_n (lv' := [(2, .int 0), (0, .ref (L 17 i)), (1, .int v)]) hx hb dJ7_fill_53178_1 rfl hl (by decide) rfl (fun ls hl => ?_)
  refine lv_aload_n hx hb dJ7_fill_53178_2 rfl (lv_at hl 1 rfl) ?_
  refine va_alen hx hb hK (ws := [(L 17 i, .inl (cy 0, 12, .inl (κ.2 i)))]) (hP.one (tw_mem (f := 17) (i := i) hi rfl)) 0 0 rfl rfl (v := 12) rfl dJ7_fill_53178_3 ?_
  refine lv_istore_n (lv' := [(3, .int 12), (2, .int 0), (0, .ref (L 17 i)), (1, .int v)]) hx hb dJ7_fill_53178_4 rfl hl (by decide) rfl (fun ls hl => ?_)
  have e0 : KR κ.1 κ i (fillN (κ.2 i) v 0) = κ := by rw [fillN_0, KR_id]
  rw [← e0] at hP
  have hN : 12 ≤ 12 := (Nat.le_refl _)
  suffices hloop : ∀ (d k : Nat), k + d = 12 → ∀ ls : Array Slot, lv_has ls 4 [(2, .int (nI k)), (3, .int 12), (0, .ref (L 17 i)), (1, .int v)] → ∀ (H : Heap) (locs : List Loc), mw (dC, dI) vwCl A (TW cy L tr a (KR κ.1 κ i (fillN (κ.2 i) v k)) τ) H → va_S A s.heap H locs → W p l e _ s m _ below meth c H locs (0) (0) _ (F0 m 5 ls []) from hloop 12 0 (by omega)   ls (lv_sub hl [1, 0, 2, 3] rfl) _ _ hP hS
  clear hP hS hl ls hl9
  intro d
  induction d with
  | zero =>
    intro k hk  ls hl H locs hP hS
    refine lv_iload_n hx hb dJ7_fill_53178_5 rfl (lv_at hl 0 rfl) ?_
    refine lv_iload_n hx hb dJ7_fill_53178_6 rfl (lv_at hl 1 rfl) ?_
    have e9 : k = 12 := by omega
    refine lv_icmp_ge (tgt := 20) hx hb dJ7_fill_53178_7 (by decide) (fun _ => ?_) (fun c_1 => absurd (by rw [e9]; exact Int32.le_refl _) c_1)
    have hP := (hP.fill (n := 12) (f := (KR κ.1 κ i (fillN (κ.2 i) v k)).2 i) (g := fun _ => v) (tw_mem (f := 17) (i := i) hi rfl) (fun j hj => by rw [KR_at]; unfold fillN; rw [if_pos (by omega)])).sub (tw_set17 (κ' := KR κ.1 κ i (fun _ => v)) (z := fun _ => v) hT hi KR_KR.symm)
    refine W.widen (k := 0) (n := 0) (Nat.le_of_ble_eq_true rfl) (Nat.le_of_ble_eq_true rfl) ?_
    exact W.vret hx hb hr (fun t ht hW => ⟨⟨(), rfl, trivial, (by show mw _ _ _ _ t.heap; rw [ht]; exact hP)⟩, hS.F ht⟩) hS.2.2 dJ7_fill_53178_20
  | succ d ih =>
    intro k hk  ls hl H locs hP hS
    refine lv_iload_n hx hb dJ7_fill_53178_5 rfl (lv_at hl 0 rfl) ?_
    refine lv_iload_n hx hb dJ7_fill_53178_6 rfl (lv_at hl 1 rfl) ?_
    refine lv_icmp_ge (tgt := 20) hx hb dJ7_fill_53178_7 (by decide) (fun c_2 => absurd c_2 (nI_ge (a := k) (b := 12) (by omega) (by omega))) (fun _ => ?_)
    refine lv_aload_n hx hb dJ7_fill_53178_10 rfl (lv_at hl 2 rfl) ?_
    refine lv_iload_n hx hb dJ7_fill_53178_11 rfl (lv_at hl 0 rfl) ?_
    refine lv_iload_n hx hb dJ7_fill_53178_12 rfl (lv_at hl 3 rfl) ?_
    have j_1 : (nI k : Int32).toNatClampNeg = k := m_cl rfl (by omega : k < 12) (by decide)
    obtain ⟨ws9, k9, hPw, hDw, hk9, -, hbk⟩ := hP.cut (e := .inl (cy 0, 12, .inl ((KR κ.1 κ i (fillN (κ.2 i) v k)).2 i))) (tw_mem (f := 17) (i := i) hi rfl)
    refine va_iast hx hb hK hPw hDw hS k9 0 hk9 rfl (m_in rfl (by omega : k < 12) (by decide)) dJ7_fill_53178_13 (fun H locs hPw hDw hS => ?_)
    rw [j_1] at hPw hDw
    obtain ⟨κ_1, eκ_1⟩ : ∃ y9 : Kap, y9 = ((KR κ.1 κ i (fillN (κ.2 i) v k)).1, fun j => if j = i then upd ((KR κ.1 κ i (fillN (κ.2 i) v k)).2 i) k v else (KR κ.1 κ i (fillN (κ.2 i) v k)).2 j) := ⟨_, rfl⟩
    have hP : mw (dC, dI) vwCl A (TW cy L tr a κ_1 τ) H := (hbk _ _ hPw hDw).sub (tw_set17 (κ' := κ_1) (z := upd ((KR κ.1 κ i (fillN (κ.2 i) v k)).2 i) k v) hT hi eκ_1)
    clear hbk hPw hDw hk9
    rw [show κ_1 = KR κ.1 κ i (fillN (κ.2 i) v (k + 1)) from by rw [KR_put eκ_1, fillN_s]] at hP
    refine lv_iinc (v := nI (k + 1)) (lv' := [(2, .int (nI (k + 1))), (3, .int 12), (0, .ref (L 17 i)), (1, .int v)]) hx hb dJ7_fill_53178_14 hl (k := 0) rfl (nI_1 k) (by decide) rfl (fun ls hl => ?_)
    refine lv_goto (tgt := 5) hx hb dJ7_fill_53178_17 (by decide) ?_
    exact ih (k + 1) (by omega)   ls (lv_sub hl [0, 1, 2, 3] rfl) H locs hP hS
set_option maxRecDepth 100000 in
set_option maxHeartbeats 4000000 in
/-- Roads.costsTo -/
theorem c_Roads_costsTo (l : Launch) (dC : Nat → ClassId) (dI : Nat → Nat → Nat) (cy : Nat → ClassId) (L : Lay) (tr : Option Nat) (a : St) (κ : Kap) (τ : Tau) (M : Nat) (to : Int32) (sz : Nat) (hT : TL L tr τ) (hw : Wf M a) (hto : in_ to 11) (hκ : CV a κ) : Met l yX2_costsTo (tp_w yX2_costsTo cX2_costsTo 9 (some (.array .int))) ({ frames := 1, cells := 0, slots := 0, locals := 23 }) (va_Pc [.ref (L 1 0), .int to] (mPre dC dI cy (TW cy L tr a κ τ) sz)) (va_Qr (fun _ : Unit => True) (fun (_ : Unit) (rv : Nat) (t : State) => ∃ (κ2 : Kap), (rv = L 17 to.toNatClampNeg) ∧ (CV a κ2) ∧ (κ2.2 to.toNatClampNeg = bf a to.toNatClampNeg) ∧ mw (dC, dI) vwCl (mA (TW cy L tr a κ τ) sz) (TW cy L tr a κ2 τ) t.heap) (mA (TW cy L tr a κ τ) sz)) (0) (0) (mA (TW cy L tr a κ τ) sz) := by
  refine Met.ofW (cc := cX2_costsTo) (maxL := 9) (ret := (some (.array .int))) (by decide) rfl ?_
  intro p e s m args below meth c s₁ B hml hv
  obtain ⟨rfl, hsz, hP, hK, hE⟩ := hv
  have hx := B.exec
  have hb := B.bytes
  have hr := B.returns
  have hts0 := atoms_spec (ws := tp_w yX2_costsTo cX2_costsTo 9 (some (.array .int))) B.pre
  have hts : ∀ w ∈ tp_all, w.before _ s = true := fun w h => hts0 w (List.mem_cons_of_mem _ h)
  have hown : s.vm.findClass RX2 = some m.cls := findClass_of_methodNamed B.named
  have hlocks := B.notSynchronized
  subst hsz
  have hP := hP.self s.heap.size
  generalize hAe : mA (TW cy L tr a κ τ) s.heap.size = A at hP ⊢
  have hA : ∀ q : Nat, s.heap.size ≤ q → A q := fun q h => by rw [← hAe]; exact Or.inr h
  have hS : va_S A s.heap s.heap [] := va_S.rf
  have hl9 := lv_entry ([.ref (L 1 0), .int to]) (n := 9) (Nat.le_of_ble_eq_true rfl)
  rw [lg_entry_eq]
  generalize (lg_sl ([.ref (L 1 0), .int to]) ++ List.replicate (9 - (lg_sl ([.ref (L 1 0), .int to])).length) Slot.unset).toArray = ls at hl9 ⊢
  have hl : lv_has ls 9 [(0, .ref (L 1 0)), (1, .int to)] := hl9
  refine lv_aload_n hx hb dX2_costsTo_0 rfl (lv_at hl 0 rfl) ?_
  refine va_get (D := (dC, dI)) (ws := [(L 1 0, .inr (2, [.ref (L 24 0), .int ((a 1 0) 0), .ref (L 25 0), .int κ.1]))]) (ci := 2) (v := .ref (L 25 0)) (C := RX2) (T := TX2) (N := 4) hx hb hts tl_X2 hown hK (hP.one (tw_mem (f := 1) (i := 0) (by decide) rfl)) 0 rfl rfl 2 (by decide) (hts _ tw_700) (fun _ h9 => h9) rfl dX2_costsTo_1 ?_
  refine lv_iload_n hx hb dX2_costsTo_4 rfl (lv_at hl 1 rfl) ?_
  have j_1 : (to : Int32).toNatClampNeg = to.toNatClampNeg := m_cl (in_nI hto) (in_lt hto) (by decide)
  refine m_aldA hx hb hK (ws := [(L 25 0, .inl (cy 8, 12, .inr (.inr (.inr (.inr (fun j => some (L 17 j)))))))]) (hP.one (tw_mem (f := 25) (i := 0) (by decide) rfl)) 0 8 rfl rfl (m_in (in_nI hto) (in_lt hto) (by decide)) dX2_costsTo_5 ?_
  refine W.eq (g2 := F0 m 6 ls [.ref (L 17 to.toNatClampNeg)]) (by first | (rw [j_1]; done) | (rw [j_1]; rfl)) ?_
  refine lv_astore_n (lv' := [(2, .ref (L 17 to.toNatClampNeg)), (0, .ref (L 1 0)), (1, .int to)]) hx hb dX2_costsTo_6 rfl hl (by decide) rfl (fun ls hl => ?_)
  refine lv_aload_n hx hb dX2_costsTo_7 rfl (lv_at hl 1 rfl) ?_
  refine va_get (D := (dC, dI)) (ws := [(L 1 0, .inr (2, [.ref (L 24 0), .int ((a 1 0) 0), .ref (L 25 0), .int κ.1]))]) (ci := 2) (v := .int κ.1) (C := RX2) (T := TX2) (N := 4) hx hb hts tl_X2 hown hK (hP.one (tw_mem (f := 1) (i := 0) (by decide) rfl)) 0 rfl rfl 3 (by decide) (hts _ tw_701) (fun _ h9 => h9) rfl dX2_costsTo_8 ?_
  refine lv_iload_n hx hb dX2_costsTo_11 rfl (lv_at hl 2 rfl) ?_
  refine lv_ishr hx hb dX2_costsTo_12 ?_
  refine lv_iconst (v := 1) hx hb dX2_costsTo_13 (by decide) ?_
  refine lv_iand hx hb dX2_costsTo_14 ?_
  refine lv_iconst (v := 1) hx hb dX2_costsTo_15 (by decide) ?_
  refine lv_icmp_ne (tgt := 21) hx hb dX2_costsTo_16 (by decide) (fun c_1 => ?_) (fun c_1 => ?_)
  · refine lv_aload_n hx hb dX2_costsTo_21 rfl (lv_at hl 1 rfl) ?_
    refine lv_dup hx hb dX2_costsTo_22 rfl ?_
    refine va_get (D := (dC, dI)) (ws := [(L 1 0, .inr (2, [.ref (L 24 0), .int ((a 1 0) 0), .ref (L 25 0), .int κ.1]))]) (ci := 2) (v := .int κ.1) (C := RX2) (T := TX2) (N := 4) hx hb hts tl_X2 hown hK (hP.one (tw_mem (f := 1) (i := 0) (by decide) rfl)) 0 rfl rfl 3 (by decide) (hts _ tw_701) (fun _ h9 => h9) rfl dX2_costsTo_23 ?_
    refine lv_iconst (v := 1) hx hb dX2_costsTo_26 (by decide) ?_
    refine lv_iload_n hx hb dX2_costsTo_27 rfl (lv_at hl 2 rfl) ?_
    refine lv_ishl hx hb dX2_costsTo_28 ?_
    refine lv_ior hx hb dX2_costsTo_29 ?_
    obtain ⟨ws9, k9, hPw, hDw, hk9, -, hbk⟩ := hP.cut (e := .inr (2, [.ref (L 24 0), .int ((a 1 0) 0), .ref (L 25 0), .int κ.1])) (tw_mem (f := 1) (i := 0) (by decide) rfl)
    refine va_put (D := (dC, dI)) (ci := 2) (v := .int (κ.1 ||| (1 <<< (to &&& 31)))) (ty := .int) (C := RX2) (T := TX2) (N := 4) hx hb hts tl_X2 tyX2 tyX2_ok nmX2 hown hK hPw hDw hS k9 hk9 rfl 3 (by decide) (hts _ tw_701) (fun _ h9 => h9) rfl (by decide +kernel) rfl rfl (Nat.le_of_ble_eq_true rfl) dX2_costsTo_30 (fun H locs hPw hDw hS => ?_)
    have hP : mw (dC, dI) vwCl A (TW cy L tr a ((κ.1 ||| (1 <<< (to &&& 31)), κ.2)) τ) H := (hbk _ _ hPw hDw).sub (tw_set1 (b := a) (x := a 1 0) (r := κ.1 ||| (1 <<< (to &&& 31))) hT S2_id.symm rfl)
    clear hbk hPw hDw hk9
    refine lv_aload_n hx hb dX2_costsTo_33 rfl (lv_at hl 0 rfl) ?_
    refine lv_iconst (v := -1) hx hb dX2_costsTo_34 (by decide) ?_
    have hFc := m_free (C := (TW cy L tr a ((κ.1 ||| (1 <<< (to &&& 31)), κ.2)) τ)) hP hS hA (fun _ _ h => h)
    refine va_callv (va_runS (As := [.ref (L 17 to.toNatClampNeg), .int ((-1))]) (rest := []) ⟨hx, hb, hml, hown, hts⟩ (c_fill l dC dI cy L tr a ((κ.1 ||| (1 <<< (to &&& 31)), κ.2)) τ to.toNatClampNeg ((-1)) H.size hT (in_lt hto)) (tp_cwS 2 hts tw_220 tw_221 tw_37 tw_222 rfl rfl (by decide +kernel) ⟨Nat.le_of_ble_eq_true rfl, Nat.le_of_ble_eq_true rfl⟩) ⟨m_blind, fun U hU hW => ⟨rfl, m_pay hK hP hE (fun _ _ h => h) U hU hW⟩⟩ rfl rfl hl.1 rfl (lv_room (Nat.le_of_ble_eq_true rfl)) dX2_costsTo_35 ⟨(Nat.le_of_ble_eq_true rfl), (Nat.le_of_ble_eq_true rfl)⟩) hS (fun q _ h => hFc q h) hFc (fun u t H1 locs ht hvm hpo hB hz1 hk1 hS => ?_)
    have hP1 := hB
    rw [ht] at hP1
    have hP : mw (dC, dI) vwCl A (TW cy L tr a (KR ((κ.1 ||| (1 <<< (to &&& 31)), κ.2)).1 ((κ.1 ||| (1 <<< (to &&& 31)), κ.2)) to.toNatClampNeg (fun _ => ((-1)))) τ) H1 := hP.join (fun _ _ h => h) hk1 hFc hP1 (fun _ _ h => Or.inl h)
    generalize H1 = H at hP hS ⊢
    clear hP1 hk1 hFc
    obtain ⟨r1, er1⟩ : ∃ r : Int32, r = κ.1 ||| (1 <<< (nI to.toNatClampNeg &&& 31)) := ⟨_, rfl⟩
    have hP : mw (dC, dI) vwCl A (TW cy L tr a (KR r1 κ to.toNatClampNeg (fun _ => -1)) τ) H := by rw [er1, ← in_nI hto]; exact hP
    refine lv_aload_n hx hb dX2_costsTo_38 rfl (lv_at hl 0 rfl) ?_
    refine lv_iload_n hx hb dX2_costsTo_39 rfl (lv_at hl 2 rfl) ?_
    refine lv_iconst (v := 0) hx hb dX2_costsTo_40 (by decide) ?_
    have j_2 : (to : Int32).toNatClampNeg = to.toNatClampNeg := m_cl (in_nI hto) (in_lt hto) (by decide)
    obtain ⟨ws9, k9, hPw, hDw, hk9, -, hbk⟩ := hP.cut (e := .inl (cy 0, 12, .inl ((KR r1 κ to.toNatClampNeg (fun _ => -1)).2 to.toNatClampNeg))) (tw_mem (f := 17) (i := to.toNatClampNeg) (in_lt hto) rfl)
    refine va_iast hx hb hK hPw hDw hS k9 0 hk9 rfl (m_in (in_nI hto) (in_lt hto) (by decide)) dX2_costsTo_41 (fun H locs hPw hDw hS => ?_)
    rw [j_2] at hPw hDw
    obtain ⟨κ_1, eκ_1⟩ : ∃ y9 : Kap, y9 = ((KR r1 κ to.toNatClampNeg (fun _ => -1)).1, fun j => if j = to.toNatClampNeg then upd ((KR r1 κ to.toNatClampNeg (fun _ => -1)).2 to.toNatClampNeg) to.toNatClampNeg 0 else (KR r1 κ to.toNatClampNeg (fun _ => -1)).2 j) := ⟨_, rfl⟩
    have hP : mw (dC, dI) vwCl A (TW cy L tr a κ_1 τ) H := (hbk _ _ hPw hDw).sub (tw_set17 (κ' := κ_1) (z := upd ((KR r1 κ to.toNatClampNeg (fun _ => -1)).2 to.toNatClampNeg) to.toNatClampNeg 0) hT (in_lt hto) eκ_1)
    clear hbk hPw hDw hk9
    rw [show κ_1 = KR r1 κ to.toNatClampNeg (upd (fun _ => -1) to.toNatClampNeg 0) from KR_put eκ_1] at hP
    refine lv_iconst (v := 1) hx hb dX2_costsTo_42 (by decide) ?_
    refine lv_istore_n (lv' := [(3, .int 1), (2, .ref (L 17 to.toNatClampNeg)), (0, .ref (L 1 0)), (1, .int to)]) hx hb dX2_costsTo_43 rfl hl (by decide) rfl (fun ls hl => ?_)
    refine lv_iconst (v := 0) hx hb dX2_costsTo_44 (by decide) ?_
    refine lv_istore (lv' := [(4, .int 0), (3, .int 1), (2, .ref (L 17 to.toNatClampNeg)), (0, .ref (L 1 0)), (1, .int to)]) hx hb dX2_costsTo_45 hl (by decide) rfl (fun ls hl => ?_)
    suffices hout : ∀ (d k : Nat), k + d = 12 → ∀ (z : Nat → Int32) (bb : Int32), (if bb = 0 then z else B_out a d z) = bf a to.toNatClampNeg → ∀ ls : Array Slot, lv_has ls 9 [(4, .int (nI k)), (3, .int bb), (0, .ref (L 1 0)), (1, .int to), (2, .ref (L 17 to.toNatClampNeg))] → ∀ (H : Heap) (locs : List Loc), mw (dC, dI) vwCl A (TW cy L tr a (KR r1 κ to.toNatClampNeg z) τ) H → va_S A s.heap H locs → W p l e _ s m _ below meth c H locs (0 + 0) (0 + 0) _ (F0 m 47 ls []) from hout 12 0 (by omega) (upd (fun _ => -1) to.toNatClampNeg 0) 1 (by rw [if_neg (by decide)]; rfl) ls (lv_sub hl [0, 1, 3, 4, 2] rfl) _ _ hP hS
    clear hP hS hl ls hl9
    intro d
    induction d with
    | zero =>
      intro k hk z bb hz ls hl H locs hP hS
      refine lv_iload_n hx hb dX2_costsTo_47 rfl (lv_at hl 1 rfl) ?_
      refine lv_if_eq (tgt := 161) hx hb dX2_costsTo_48 (by decide) (fun c_2 => ?_) (fun c_2 => ?_)
      · have hz9 : z = bf a to.toNatClampNeg := by rw [if_pos c_2] at hz; exact hz
        refine lv_aload_n hx hb dX2_costsTo_161 rfl (lv_at hl 4 rfl) ?_
        refine W.widen (k := 0) (n := 0) (Nat.le_of_ble_eq_true rfl) (Nat.le_of_ble_eq_true rfl) ?_
        have g_1 : (L 17 to.toNatClampNeg) = L 17 to.toNatClampNeg := by
          rfl
        have g_2 : CV a (KR r1 κ to.toNatClampNeg z) := by
          rw [er1]
          exact CV.put (in_lt hto) hz9 hκ
        have g_3 : (KR r1 κ to.toNatClampNeg z).2 to.toNatClampNeg = bf a to.toNatClampNeg := by
          rw [KR_at]
          exact hz9
        exact W.aret (v := .ref (L 17 to.toNatClampNeg)) hx hb hr (Or.inr ⟨_, rfl⟩) (Or.inr ⟨_, rfl⟩) (fun t ht hW => ⟨⟨(), L 17 to.toNatClampNeg, rfl, trivial, ⟨(KR r1 κ to.toNatClampNeg z), g_1, g_2, g_3, by show mw _ _ _ _ t.heap; rw [ht]; exact hP⟩⟩, hS.F ht⟩) hS.2.2 dX2_costsTo_162
      · refine lv_iload hx hb dX2_costsTo_51 (lv_at hl 0 rfl) ?_
        refine lv_bipush (v := 12) hx hb dX2_costsTo_53 (by decide) ?_
        have e9 : k = 12 := by omega
        refine lv_icmp_ge (tgt := 161) hx hb dX2_costsTo_55 (by decide) (fun _ => ?_) (fun c_3 => absurd (by rw [e9]; exact Int32.le_refl _) c_3)
        have hz9 : z = bf a to.toNatClampNeg := by rw [if_neg c_2] at hz; exact hz
        refine lv_aload_n hx hb dX2_costsTo_161 rfl (lv_at hl 4 rfl) ?_
        refine W.widen (k := 0) (n := 0) (Nat.le_of_ble_eq_true rfl) (Nat.le_of_ble_eq_true rfl) ?_
        have g_4 : (L 17 to.toNatClampNeg) = L 17 to.toNatClampNeg := by
          rfl
        have g_5 : CV a (KR r1 κ to.toNatClampNeg z) := by
          rw [er1]
          exact CV.put (in_lt hto) hz9 hκ
        have g_6 : (KR r1 κ to.toNatClampNeg z).2 to.toNatClampNeg = bf a to.toNatClampNeg := by
          rw [KR_at]
          exact hz9
        exact W.aret (v := .ref (L 17 to.toNatClampNeg)) hx hb hr (Or.inr ⟨_, rfl⟩) (Or.inr ⟨_, rfl⟩) (fun t ht hW => ⟨⟨(), L 17 to.toNatClampNeg, rfl, trivial, ⟨(KR r1 κ to.toNatClampNeg z), g_4, g_5, g_6, by show mw _ _ _ _ t.heap; rw [ht]; exact hP⟩⟩, hS.F ht⟩) hS.2.2 dX2_costsTo_162
    | succ d ih =>
      intro k hk z bb hz ls hl H locs hP hS
      refine lv_iload_n hx hb dX2_costsTo_47 rfl (lv_at hl 1 rfl) ?_
      refine lv_if_eq (tgt := 161) hx hb dX2_costsTo_48 (by decide) (fun c_4 => ?_) (fun c_4 => ?_)
      · have hz9 : z = bf a to.toNatClampNeg := by rw [if_pos c_4] at hz; exact hz
        refine lv_aload_n hx hb dX2_costsTo_161 rfl (lv_at hl 4 rfl) ?_
        refine W.widen (k := 0) (n := 0) (Nat.le_of_ble_eq_true rfl) (Nat.le_of_ble_eq_true rfl) ?_
        have g_7 : (L 17 to.toNatClampNeg) = L 17 to.toNatClampNeg := by
          rfl
        have g_8 : CV a (KR r1 κ to.toNatClampNeg z) := by
          rw [er1]
          exact CV.put (in_lt hto) hz9 hκ
        have g_9 : (KR r1 κ to.toNatClampNeg z).2 to.toNatClampNeg = bf a to.toNatClampNeg := by
          rw [KR_at]
          exact hz9
        exact W.aret (v := .ref (L 17 to.toNatClampNeg)) hx hb hr (Or.inr ⟨_, rfl⟩) (Or.inr ⟨_, rfl⟩) (fun t ht hW => ⟨⟨(), L 17 to.toNatClampNeg, rfl, trivial, ⟨(KR r1 κ to.toNatClampNeg z), g_7, g_8, g_9, by show mw _ _ _ _ t.heap; rw [ht]; exact hP⟩⟩, hS.F ht⟩) hS.2.2 dX2_costsTo_162
      · refine lv_iload hx hb dX2_costsTo_51 (lv_at hl 0 rfl) ?_
        refine lv_bipush (v := 12) hx hb dX2_costsTo_53 (by decide) ?_
        refine lv_icmp_ge (tgt := 161) hx hb dX2_costsTo_55 (by decide) (fun c_5 => absurd c_5 (nI_ge (a := k) (b := 12) (by omega) (by omega))) (fun _ => ?_)
        have hz1 : B_out a (d + 1) z = bf a to.toNatClampNeg := by rw [if_neg c_4] at hz; exact hz
        refine lv_iconst (v := 0) hx hb dX2_costsTo_58 (by decide) ?_
        refine lv_istore_n (lv' := [(3, .int 0), (4, .int (nI k)), (0, .ref (L 1 0)), (1, .int to), (2, .ref (L 17 to.toNatClampNeg))]) hx hb dX2_costsTo_59 rfl hl (by decide) rfl (fun ls hl => ?_)
        refine lv_iconst (v := 0) hx hb dX2_costsTo_60 (by decide) ?_
        refine lv_istore (lv' := [(5, .int 0), (3, .int 0), (4, .int (nI k)), (0, .ref (L 1 0)), (1, .int to), (2, .ref (L 17 to.toNatClampNeg))]) hx hb dX2_costsTo_61 hl (by decide) rfl (fun ls hl => ?_)
        have hN : nL a ≤ 24 := in_le hw.1.1
        refine W.widen (k := (fun i => (0 + 0) + 0 * i) 0) (n := (fun i => (0 + 0) + 0 * i) 0) (Nat.le_refl _) (Nat.le_refl _) ?_
        refine tp_for (σ := (Nat → Int32) × Int32) (nL a) (fun i => (0 + 0) + 0 * i) (fun i => (0 + 0) + 0 * i) (fun (i : Nat) (x : (Nat → Int32) × Int32) (H : Heap) (locs : List Loc) (ls : Array Slot) => x = B_in a i (z, 0) ∧ mw (dC, dI) vwCl A (TW cy L tr a (KR r1 κ to.toNatClampNeg x.1) τ) H ∧ va_S A s.heap H locs ∧ lv_has ls 9 [(5, .int (nI i)), (3, .int x.2), (0, .ref (L 1 0)), (1, .int to), (2, .ref (L 17 to.toNatClampNeg)), (4, .int (nI k))]) ?_ ?_ (nL a) 0 (Nat.zero_add _) (z, 0) _ _ ls ⟨rfl, hP, hS, lv_sub hl [0, 1, 3, 4, 5, 2] rfl⟩
        · rintro ⟨z9, b9⟩ H locs ls ⟨hx9, hP, hS, hl⟩
          have hl : lv_has ls 9 [(5, .int (nI (nL a))), (3, .int b9), (0, .ref (L 1 0)), (1, .int to), (2, .ref (L 17 to.toNatClampNeg)), (4, .int (nI k))] := hl
          have hP : mw (dC, dI) vwCl A (TW cy L tr a (KR r1 κ to.toNatClampNeg z9) τ) H := hP
          refine lv_iload hx hb dX2_costsTo_63 (lv_at hl 0 rfl) ?_
          refine lv_aload_n hx hb dX2_costsTo_65 rfl (lv_at hl 2 rfl) ?_
          refine va_get (D := (dC, dI)) (ws := [(L 1 0, .inr (2, [.ref (L 24 0), .int ((a 1 0) 0), .ref (L 25 0), .int ((KR r1 κ to.toNatClampNeg z9).1)]))]) (ci := 2) (v := .int ((a 1 0) 0)) (C := RX2) (T := TX2) (N := 4) hx hb hts tl_X2 hown hK (hP.one (tw_mem (f := 1) (i := 0) (by decide) rfl)) 0 rfl rfl 1 (by decide) (hts _ tw_697) (fun _ h9 => h9) rfl dX2_costsTo_66 ?_
          refine W.eq (g2 := F0 m 69 ls [.int (nI (nL a)), .int (nI (nL a))]) (by rw [in_nI hw.1.1]) ?_
          refine lv_icmp_ge (tgt := 155) hx hb dX2_costsTo_69 (by decide) (fun _ => ?_) (fun c_6 => absurd (Int32.le_refl _) c_6)
          refine lv_iinc (v := nI (k + 1)) (lv' := [(4, .int (nI (k + 1))), (5, .int (nI (nL a))), (3, .int b9), (0, .ref (L 1 0)), (1, .int to), (2, .ref (L 17 to.toNatClampNeg))]) hx hb dX2_costsTo_155 hl (k := 5) rfl (nI_1 k) (by decide) rfl (fun ls hl => ?_)
          refine lv_goto (tgt := 47) hx hb dX2_costsTo_158 (by decide) ?_
          refine W.widen (k := 0 + 0) (n := 0 + 0) (by omega) (by omega) ?_
          exact ih (k + 1) (by omega) z9 b9 (by rw [← hz1]; exact (B_out_done hx9.symm).symm) ls (lv_sub hl [0, 2, 3, 4, 5] rfl) H locs hP hS
        · rintro i ⟨z9, b9⟩ H locs ls hi ⟨hx9, hP, hS, hl⟩ ih9
          have hl : lv_has ls 9 [(5, .int (nI i)), (3, .int b9), (0, .ref (L 1 0)), (1, .int to), (2, .ref (L 17 to.toNatClampNeg)), (4, .int (nI k))] := hl
          have hP : mw (dC, dI) vwCl A (TW cy L tr a (KR r1 κ to.toNatClampNeg z9) τ) H := hP
          refine lv_iload hx hb dX2_costsTo_63 (lv_at hl 0 rfl) ?_
          refine lv_aload_n hx hb dX2_costsTo_65 rfl (lv_at hl 2 rfl) ?_
          refine va_get (D := (dC, dI)) (ws := [(L 1 0, .inr (2, [.ref (L 24 0), .int ((a 1 0) 0), .ref (L 25 0), .int ((KR r1 κ to.toNatClampNeg z9).1)]))]) (ci := 2) (v := .int ((a 1 0) 0)) (C := RX2) (T := TX2) (N := 4) hx hb hts tl_X2 hown hK (hP.one (tw_mem (f := 1) (i := 0) (by decide) rfl)) 0 rfl rfl 1 (by decide) (hts _ tw_697) (fun _ h9 => h9) rfl dX2_costsTo_66 ?_
          refine W.eq (g2 := F0 m 69 ls [.int (nI (nL a)), .int (nI i)]) (by rw [in_nI hw.1.1]) ?_
          refine lv_icmp_ge (tgt := 155) hx hb dX2_costsTo_69 (by decide) (fun c_7 => absurd c_7 (nI_ge hi (by omega))) (fun _ => ?_)
          have hLi := hw.2.1 i (Nat.lt_of_lt_of_le hi hN)
          refine lv_aload_n hx hb dX2_costsTo_72 rfl (lv_at hl 2 rfl) ?_
          refine va_get (D := (dC, dI)) (ws := [(L 1 0, .inr (2, [.ref (L 24 0), .int ((a 1 0) 0), .ref (L 25 0), .int ((KR r1 κ to.toNatClampNeg z9).1)]))]) (ci := 2) (v := .ref (L 24 0)) (C := RX2) (T := TX2) (N := 4) hx hb hts tl_X2 hown hK (hP.one (tw_mem (f := 1) (i := 0) (by decide) rfl)) 0 rfl rfl 0 (by decide) (hts _ tw_695) (fun _ h9 => h9) rfl dX2_costsTo_73 ?_
          refine lv_iload hx hb dX2_costsTo_76 (lv_at hl 0 rfl) ?_
          have j_3 : (nI i : Int32).toNatClampNeg = i := m_cl rfl (Nat.lt_of_lt_of_le hi hN) (by decide)
          refine va_aldq hx hb hK (ws := [(L 24 0, .inl (cy 3, 24, .inr (.inr (.inr (.inr (fun j => some (L 2 j)))))))]) (hP.one (tw_mem (f := 24) (i := 0) (by decide) rfl)) 0 3 rfl rfl (m_in rfl (Nat.lt_of_lt_of_le hi hN) (by decide)) dX2_costsTo_78 ?_
          refine W.eq (g2 := F0 m 79 ls [.ref (L 2 i)]) (by first | (rw [j_3]; done) | (rw [j_3]; rfl)) ?_
          refine lv_astore (lv' := [(6, .ref (L 2 i)), (5, .int (nI i)), (3, .int b9), (0, .ref (L 1 0)), (1, .int to), (2, .ref (L 17 to.toNatClampNeg)), (4, .int (nI k))]) hx hb dX2_costsTo_79 hl (by decide) rfl (fun ls hl => ?_)
          refine lv_aload_n hx hb dX2_costsTo_81 rfl (lv_at hl 5 rfl) ?_
          refine lv_aload hx hb dX2_costsTo_82 (lv_at hl 0 rfl) ?_
          refine va_getN (D := (dC, dI)) (ws := [(L 2 i, .inr (1, [.int ((a 2 i) 0), .int ((a 2 i) 1), .int ((a 2 i) 2), .int ((a 2 i) 3), .int ((a 2 i) 4), .int ((a 2 i) 5), .int ((a 2 i) 6), .int ((a 2 i) 7), .int ((a 2 i) 8), .ref (L 3 i), .ref (L 5 i), .int ((a 2 i) 9), .int ((a 2 i) 10), .int ((a 2 i) 11), .int ((a 2 i) 12), .ref (L 7 i)]))]) (ci := 1) (v := .int ((a 2 i) 1)) (C := RX1) (T := TX1) (N := 16) hx hb hts tl_X1 hown hK (hP.one (tw_mem (f := 2) (i := i) (Nat.lt_of_lt_of_le hi hN) rfl)) 0 rfl rfl 1 (by decide) (va_Nw.use rfl (te_f3 hE)) (fun _ h9 => h9) rfl dX2_costsTo_84 ?_
          have j_4 : ((a 2 i) 1 : Int32).toNatClampNeg = (a 2 i 1).toNatClampNeg := m_cl (in_nI hLi.2.1) (in_lt hLi.2.1) (by decide)
          refine va_iald hx hb hK (ws := [(L 17 to.toNatClampNeg, .inl (cy 0, 12, .inl ((KR r1 κ to.toNatClampNeg z9).2 to.toNatClampNeg)))]) (hP.one (tw_mem (f := 17) (i := to.toNatClampNeg) (in_lt hto) rfl)) 0 0 rfl rfl (m_in (in_nI hLi.2.1) (in_lt hLi.2.1) (by decide)) dX2_costsTo_87 ?_
          refine W.eq (g2 := F0 m 88 ls [.int (((KR r1 κ to.toNatClampNeg z9).2 to.toNatClampNeg) ((a 2 i 1).toNatClampNeg))]) (by first | (rw [j_4]; done) | (rw [j_4]; rfl)) ?_
          refine W.eq (g2 := F0 m 88 ls [.int (z9 ((a 2 i 1).toNatClampNeg))]) (by rw [KR_at]) ?_
          refine lv_istore (lv' := [(7, .int (z9 ((a 2 i 1).toNatClampNeg))), (6, .ref (L 2 i)), (5, .int (nI i)), (3, .int b9), (0, .ref (L 1 0)), (1, .int to), (2, .ref (L 17 to.toNatClampNeg)), (4, .int (nI k))]) hx hb dX2_costsTo_88 hl (by decide) rfl (fun ls hl => ?_)
          refine lv_aload_n hx hb dX2_costsTo_90 rfl (lv_at hl 6 rfl) ?_
          refine lv_aload hx hb dX2_costsTo_91 (lv_at hl 1 rfl) ?_
          refine va_getN (D := (dC, dI)) (ws := [(L 2 i, .inr (1, [.int ((a 2 i) 0), .int ((a 2 i) 1), .int ((a 2 i) 2), .int ((a 2 i) 3), .int ((a 2 i) 4), .int ((a 2 i) 5), .int ((a 2 i) 6), .int ((a 2 i) 7), .int ((a 2 i) 8), .ref (L 3 i), .ref (L 5 i), .int ((a 2 i) 9), .int ((a 2 i) 10), .int ((a 2 i) 11), .int ((a 2 i) 12), .ref (L 7 i)]))]) (ci := 1) (v := .int ((a 2 i) 0)) (C := RX1) (T := TX1) (N := 16) hx hb hts tl_X1 hown hK (hP.one (tw_mem (f := 2) (i := i) (Nat.lt_of_lt_of_le hi hN) rfl)) 0 rfl rfl 0 (by decide) (va_Nw.use rfl (te_f2 hE)) (fun _ h9 => h9) rfl dX2_costsTo_93 ?_
          have j_5 : ((a 2 i) 0 : Int32).toNatClampNeg = (a 2 i 0).toNatClampNeg := m_cl (in_nI hLi.1) (in_lt hLi.1) (by decide)
          refine va_iald hx hb hK (ws := [(L 17 to.toNatClampNeg, .inl (cy 0, 12, .inl ((KR r1 κ to.toNatClampNeg z9).2 to.toNatClampNeg)))]) (hP.one (tw_mem (f := 17) (i := to.toNatClampNeg) (in_lt hto) rfl)) 0 0 rfl rfl (m_in (in_nI hLi.1) (in_lt hLi.1) (by decide)) dX2_costsTo_96 ?_
          refine W.eq (g2 := F0 m 97 ls [.int (((KR r1 κ to.toNatClampNeg z9).2 to.toNatClampNeg) ((a 2 i 0).toNatClampNeg))]) (by first | (rw [j_5]; done) | (rw [j_5]; rfl)) ?_
          refine W.eq (g2 := F0 m 97 ls [.int (z9 ((a 2 i 0).toNatClampNeg))]) (by rw [KR_at]) ?_
          refine lv_istore (lv' := [(8, .int (z9 ((a 2 i 0).toNatClampNeg))), (7, .int (z9 ((a 2 i 1).toNatClampNeg))), (6, .ref (L 2 i)), (5, .int (nI i)), (3, .int b9), (0, .ref (L 1 0)), (1, .int to), (2, .ref (L 17 to.toNatClampNeg)), (4, .int (nI k))]) hx hb dX2_costsTo_97 hl (by decide) rfl (fun ls hl => ?_)
          refine lv_aload hx hb dX2_costsTo_99 (lv_at hl 2 rfl) ?_
          refine va_getN (D := (dC, dI)) (ws := [(L 2 i, .inr (1, [.int ((a 2 i) 0), .int ((a 2 i) 1), .int ((a 2 i) 2), .int ((a 2 i) 3), .int ((a 2 i) 4), .int ((a 2 i) 5), .int ((a 2 i) 6), .int ((a 2 i) 7), .int ((a 2 i) 8), .ref (L 3 i), .ref (L 5 i), .int ((a 2 i) 9), .int ((a 2 i) 10), .int ((a 2 i) 11), .int ((a 2 i) 12), .ref (L 7 i)]))]) (ci := 1) (v := .int ((a 2 i) 7)) (C := RX1) (T := TX1) (N := 16) hx hb hts tl_X1 hown hK (hP.one (tw_mem (f := 2) (i := i) (Nat.lt_of_lt_of_le hi hN) rfl)) 0 rfl rfl 7 (by decide) (va_Nw.use rfl (te_f14 hE)) (fun _ h9 => h9) rfl dX2_costsTo_101 ?_
          refine lv_if_ne (tgt := 149) hx hb dX2_costsTo_104 (by decide) (fun c_8 => ?_) (fun c_8 => ?_)
          · refine lv_iinc (v := nI (i + 1)) (lv' := [(5, .int (nI (i + 1))), (8, .int (z9 ((a 2 i 0).toNatClampNeg))), (7, .int (z9 ((a 2 i 1).toNatClampNeg))), (6, .ref (L 2 i)), (3, .int b9), (0, .ref (L 1 0)), (1, .int to), (2, .ref (L 17 to.toNatClampNeg)), (4, .int (nI k))]) hx hb dX2_costsTo_149 hl (k := 3) rfl (nI_1 i) (by decide) rfl (fun ls hl => ?_)
            refine lv_goto (tgt := 63) hx hb dX2_costsTo_152 (by decide) ?_
            exact ih9 (z9, b9) _ _ ls ⟨(by show _ = B_one a i (B_in a i (z, 0)); rw [← hx9]; unfold B_one; simp only [if_neg c_8]), hP, hS, lv_sub hl [0, 4, 5, 6, 7, 8] rfl⟩
          · refine lv_iload hx hb dX2_costsTo_107 (lv_at hl 1 rfl) ?_
            refine lv_iconst (v := -1) hx hb dX2_costsTo_109 (by decide) ?_
            refine lv_icmp_eq (tgt := 149) hx hb dX2_costsTo_110 (by decide) (fun c_9 => ?_) (fun c_9 => ?_)
            · refine lv_iinc (v := nI (i + 1)) (lv' := [(5, .int (nI (i + 1))), (8, .int (z9 ((a 2 i 0).toNatClampNeg))), (7, .int (z9 ((a 2 i 1).toNatClampNeg))), (6, .ref (L 2 i)), (3, .int b9), (0, .ref (L 1 0)), (1, .int to), (2, .ref (L 17 to.toNatClampNeg)), (4, .int (nI k))]) hx hb dX2_costsTo_149 hl (k := 3) rfl (nI_1 i) (by decide) rfl (fun ls hl => ?_)
              refine lv_goto (tgt := 63) hx hb dX2_costsTo_152 (by decide) ?_
              exact ih9 (z9, b9) _ _ ls ⟨(by show _ = B_one a i (B_in a i (z, 0)); rw [← hx9]; unfold B_one; simp only [if_pos c_8, if_pos c_9]), hP, hS, lv_sub hl [0, 4, 5, 6, 7, 8] rfl⟩
            · refine lv_iload hx hb dX2_costsTo_113 (lv_at hl 0 rfl) ?_
              refine lv_iconst (v := -1) hx hb dX2_costsTo_115 (by decide) ?_
              refine lv_icmp_eq (tgt := 132) hx hb dX2_costsTo_116 (by decide) (fun c_10 => ?_) (fun c_10 => ?_)
              · refine lv_aload_n hx hb dX2_costsTo_132 rfl (lv_at hl 7 rfl) ?_
                refine lv_aload hx hb dX2_costsTo_133 (lv_at hl 2 rfl) ?_
                refine va_getN (D := (dC, dI)) (ws := [(L 2 i, .inr (1, [.int ((a 2 i) 0), .int ((a 2 i) 1), .int ((a 2 i) 2), .int ((a 2 i) 3), .int ((a 2 i) 4), .int ((a 2 i) 5), .int ((a 2 i) 6), .int ((a 2 i) 7), .int ((a 2 i) 8), .ref (L 3 i), .ref (L 5 i), .int ((a 2 i) 9), .int ((a 2 i) 10), .int ((a 2 i) 11), .int ((a 2 i) 12), .ref (L 7 i)]))]) (ci := 1) (v := .int ((a 2 i) 0)) (C := RX1) (T := TX1) (N := 16) hx hb hts tl_X1 hown hK (hP.one (tw_mem (f := 2) (i := i) (Nat.lt_of_lt_of_le hi hN) rfl)) 0 rfl rfl 0 (by decide) (va_Nw.use rfl (te_f2 hE)) (fun _ h9 => h9) rfl dX2_costsTo_135 ?_
                refine lv_aload hx hb dX2_costsTo_138 (lv_at hl 2 rfl) ?_
                refine va_getN (D := (dC, dI)) (ws := [(L 2 i, .inr (1, [.int ((a 2 i) 0), .int ((a 2 i) 1), .int ((a 2 i) 2), .int ((a 2 i) 3), .int ((a 2 i) 4), .int ((a 2 i) 5), .int ((a 2 i) 6), .int ((a 2 i) 7), .int ((a 2 i) 8), .ref (L 3 i), .ref (L 5 i), .int ((a 2 i) 9), .int ((a 2 i) 10), .int ((a 2 i) 11), .int ((a 2 i) 12), .ref (L 7 i)]))]) (ci := 1) (v := .int ((a 2 i) 8)) (C := RX1) (T := TX1) (N := 16) hx hb hts tl_X1 hown hK (hP.one (tw_mem (f := 2) (i := i) (Nat.lt_of_lt_of_le hi hN) rfl)) 0 rfl rfl 8 (by decide) (va_Nw.use rfl (te_f15 hE)) (fun _ h9 => h9) rfl dX2_costsTo_140 ?_
                refine lv_iload hx hb dX2_costsTo_143 (lv_at hl 1 rfl) ?_
                refine lv_iadd hx hb dX2_costsTo_145 ?_
                have j_6 : ((a 2 i) 0 : Int32).toNatClampNeg = (a 2 i 0).toNatClampNeg := m_cl (in_nI hLi.1) (in_lt hLi.1) (by decide)
                obtain ⟨ws9, k9, hPw, hDw, hk9, -, hbk⟩ := hP.cut (e := .inl (cy 0, 12, .inl ((KR r1 κ to.toNatClampNeg z9).2 to.toNatClampNeg))) (tw_mem (f := 17) (i := to.toNatClampNeg) (in_lt hto) rfl)
                refine va_iast hx hb hK hPw hDw hS k9 0 hk9 rfl (m_in (in_nI hLi.1) (in_lt hLi.1) (by decide)) dX2_costsTo_146 (fun H locs hPw hDw hS => ?_)
                rw [j_6] at hPw hDw
                obtain ⟨κ_2, eκ_2⟩ : ∃ y9 : Kap, y9 = ((KR r1 κ to.toNatClampNeg z9).1, fun j => if j = to.toNatClampNeg then upd ((KR r1 κ to.toNatClampNeg z9).2 to.toNatClampNeg) ((a 2 i 0).toNatClampNeg) (((a 2 i) 8) + (z9 ((a 2 i 1).toNatClampNeg))) else (KR r1 κ to.toNatClampNeg z9).2 j) := ⟨_, rfl⟩
                have hP : mw (dC, dI) vwCl A (TW cy L tr a κ_2 τ) H := (hbk _ _ hPw hDw).sub (tw_set17 (κ' := κ_2) (z := upd ((KR r1 κ to.toNatClampNeg z9).2 to.toNatClampNeg) ((a 2 i 0).toNatClampNeg) (((a 2 i) 8) + (z9 ((a 2 i 1).toNatClampNeg)))) hT (in_lt hto) eκ_2)
                clear hbk hPw hDw hk9
                rw [show κ_2 = KR r1 κ to.toNatClampNeg (upd z9 (a 2 i 0).toNatClampNeg (a 2 i 8 + z9 (a 2 i 1).toNatClampNeg)) from KR_put eκ_2] at hP
                refine lv_iconst (v := 1) hx hb dX2_costsTo_147 (by decide) ?_
                refine lv_istore_n (lv' := [(3, .int 1), (8, .int (z9 ((a 2 i 0).toNatClampNeg))), (7, .int (z9 ((a 2 i 1).toNatClampNeg))), (6, .ref (L 2 i)), (5, .int (nI i)), (0, .ref (L 1 0)), (1, .int to), (2, .ref (L 17 to.toNatClampNeg)), (4, .int (nI k))]) hx hb dX2_costsTo_148 rfl hl (by decide) rfl (fun ls hl => ?_)
                refine lv_iinc (v := nI (i + 1)) (lv' := [(5, .int (nI (i + 1))), (3, .int 1), (8, .int (z9 ((a 2 i 0).toNatClampNeg))), (7, .int (z9 ((a 2 i 1).toNatClampNeg))), (6, .ref (L 2 i)), (0, .ref (L 1 0)), (1, .int to), (2, .ref (L 17 to.toNatClampNeg)), (4, .int (nI k))]) hx hb dX2_costsTo_149 hl (k := 4) rfl (nI_1 i) (by decide) rfl (fun ls hl => ?_)
                refine lv_goto (tgt := 63) hx hb dX2_costsTo_152 (by decide) ?_
                exact ih9 (upd z9 (a 2 i 0).toNatClampNeg (a 2 i 8 + z9 (a 2 i 1).toNatClampNeg), 1) _ _ ls ⟨(by show _ = B_one a i (B_in a i (z, 0)); rw [← hx9]; unfold B_one; simp only [if_pos c_8, if_neg c_9, if_pos c_10]), hP, hS, lv_sub hl [0, 1, 5, 6, 7, 8] rfl⟩
              · refine lv_aload hx hb dX2_costsTo_119 (lv_at hl 2 rfl) ?_
                refine va_getN (D := (dC, dI)) (ws := [(L 2 i, .inr (1, [.int ((a 2 i) 0), .int ((a 2 i) 1), .int ((a 2 i) 2), .int ((a 2 i) 3), .int ((a 2 i) 4), .int ((a 2 i) 5), .int ((a 2 i) 6), .int ((a 2 i) 7), .int ((a 2 i) 8), .ref (L 3 i), .ref (L 5 i), .int ((a 2 i) 9), .int ((a 2 i) 10), .int ((a 2 i) 11), .int ((a 2 i) 12), .ref (L 7 i)]))]) (ci := 1) (v := .int ((a 2 i) 8)) (C := RX1) (T := TX1) (N := 16) hx hb hts tl_X1 hown hK (hP.one (tw_mem (f := 2) (i := i) (Nat.lt_of_lt_of_le hi hN) rfl)) 0 rfl rfl 8 (by decide) (va_Nw.use rfl (te_f15 hE)) (fun _ h9 => h9) rfl dX2_costsTo_121 ?_
                refine lv_iload hx hb dX2_costsTo_124 (lv_at hl 1 rfl) ?_
                refine lv_iadd hx hb dX2_costsTo_126 ?_
                refine lv_iload hx hb dX2_costsTo_127 (lv_at hl 0 rfl) ?_
                refine lv_icmp_ge (tgt := 149) hx hb dX2_costsTo_129 (by decide) (fun c_11 => ?_) (fun c_11 => ?_)
                · refine lv_iinc (v := nI (i + 1)) (lv' := [(5, .int (nI (i + 1))), (8, .int (z9 ((a 2 i 0).toNatClampNeg))), (7, .int (z9 ((a 2 i 1).toNatClampNeg))), (6, .ref (L 2 i)), (3, .int b9), (0, .ref (L 1 0)), (1, .int to), (2, .ref (L 17 to.toNatClampNeg)), (4, .int (nI k))]) hx hb dX2_costsTo_149 hl (k := 3) rfl (nI_1 i) (by decide) rfl (fun ls hl => ?_)
                  refine lv_goto (tgt := 63) hx hb dX2_costsTo_152 (by decide) ?_
                  exact ih9 (z9, b9) _ _ ls ⟨(by show _ = B_one a i (B_in a i (z, 0)); rw [← hx9]; unfold B_one; simp only [if_pos c_8, if_neg c_9, if_neg c_10, if_pos c_11]), hP, hS, lv_sub hl [0, 4, 5, 6, 7, 8] rfl⟩
                · refine lv_aload_n hx hb dX2_costsTo_132 rfl (lv_at hl 7 rfl) ?_
                  refine lv_aload hx hb dX2_costsTo_133 (lv_at hl 2 rfl) ?_
                  refine va_getN (D := (dC, dI)) (ws := [(L 2 i, .inr (1, [.int ((a 2 i) 0), .int ((a 2 i) 1), .int ((a 2 i) 2), .int ((a 2 i) 3), .int ((a 2 i) 4), .int ((a 2 i) 5), .int ((a 2 i) 6), .int ((a 2 i) 7), .int ((a 2 i) 8), .ref (L 3 i), .ref (L 5 i), .int ((a 2 i) 9), .int ((a 2 i) 10), .int ((a 2 i) 11), .int ((a 2 i) 12), .ref (L 7 i)]))]) (ci := 1) (v := .int ((a 2 i) 0)) (C := RX1) (T := TX1) (N := 16) hx hb hts tl_X1 hown hK (hP.one (tw_mem (f := 2) (i := i) (Nat.lt_of_lt_of_le hi hN) rfl)) 0 rfl rfl 0 (by decide) (va_Nw.use rfl (te_f2 hE)) (fun _ h9 => h9) rfl dX2_costsTo_135 ?_
                  refine lv_aload hx hb dX2_costsTo_138 (lv_at hl 2 rfl) ?_
                  refine va_getN (D := (dC, dI)) (ws := [(L 2 i, .inr (1, [.int ((a 2 i) 0), .int ((a 2 i) 1), .int ((a 2 i) 2), .int ((a 2 i) 3), .int ((a 2 i) 4), .int ((a 2 i) 5), .int ((a 2 i) 6), .int ((a 2 i) 7), .int ((a 2 i) 8), .ref (L 3 i), .ref (L 5 i), .int ((a 2 i) 9), .int ((a 2 i) 10), .int ((a 2 i) 11), .int ((a 2 i) 12), .ref (L 7 i)]))]) (ci := 1) (v := .int ((a 2 i) 8)) (C := RX1) (T := TX1) (N := 16) hx hb hts tl_X1 hown hK (hP.one (tw_mem (f := 2) (i := i) (Nat.lt_of_lt_of_le hi hN) rfl)) 0 rfl rfl 8 (by decide) (va_Nw.use rfl (te_f15 hE)) (fun _ h9 => h9) rfl dX2_costsTo_140 ?_
                  refine lv_iload hx hb dX2_costsTo_143 (lv_at hl 1 rfl) ?_
                  refine lv_iadd hx hb dX2_costsTo_145 ?_
                  have j_7 : ((a 2 i) 0 : Int32).toNatClampNeg = (a 2 i 0).toNatClampNeg := m_cl (in_nI hLi.1) (in_lt hLi.1) (by decide)
                  obtain ⟨ws9, k9, hPw, hDw, hk9, -, hbk⟩ := hP.cut (e := .inl (cy 0, 12, .inl ((KR r1 κ to.toNatClampNeg z9).2 to.toNatClampNeg))) (tw_mem (f := 17) (i := to.toNatClampNeg) (in_lt hto) rfl)
                  refine va_iast hx hb hK hPw hDw hS k9 0 hk9 rfl (m_in (in_nI hLi.1) (in_lt hLi.1) (by decide)) dX2_costsTo_146 (fun H locs hPw hDw hS => ?_)
                  rw [j_7] at hPw hDw
                  obtain ⟨κ_3, eκ_3⟩ : ∃ y9 : Kap, y9 = ((KR r1 κ to.toNatClampNeg z9).1, fun j => if j = to.toNatClampNeg then upd ((KR r1 κ to.toNatClampNeg z9).2 to.toNatClampNeg) ((a 2 i 0).toNatClampNeg) (((a 2 i) 8) + (z9 ((a 2 i 1).toNatClampNeg))) else (KR r1 κ to.toNatClampNeg z9).2 j) := ⟨_, rfl⟩
                  have hP : mw (dC, dI) vwCl A (TW cy L tr a κ_3 τ) H := (hbk _ _ hPw hDw).sub (tw_set17 (κ' := κ_3) (z := upd ((KR r1 κ to.toNatClampNeg z9).2 to.toNatClampNeg) ((a 2 i 0).toNatClampNeg) (((a 2 i) 8) + (z9 ((a 2 i 1).toNatClampNeg)))) hT (in_lt hto) eκ_3)
                  clear hbk hPw hDw hk9
                  rw [show κ_3 = KR r1 κ to.toNatClampNeg (upd z9 (a 2 i 0).toNatClampNeg (a 2 i 8 + z9 (a 2 i 1).toNatClampNeg)) from KR_put eκ_3] at hP
                  refine lv_iconst (v := 1) hx hb dX2_costsTo_147 (by decide) ?_
                  refine lv_istore_n (lv' := [(3, .int 1), (8, .int (z9 ((a 2 i 0).toNatClampNeg))), (7, .int (z9 ((a 2 i 1).toNatClampNeg))), (6, .ref (L 2 i)), (5, .int (nI i)), (0, .ref (L 1 0)), (1, .int to), (2, .ref (L 17 to.toNatClampNeg)), (4, .int (nI k))]) hx hb dX2_costsTo_148 rfl hl (by decide) rfl (fun ls hl => ?_)
                  refine lv_iinc (v := nI (i + 1)) (lv' := [(5, .int (nI (i + 1))), (3, .int 1), (8, .int (z9 ((a 2 i 0).toNatClampNeg))), (7, .int (z9 ((a 2 i 1).toNatClampNeg))), (6, .ref (L 2 i)), (0, .ref (L 1 0)), (1, .int to), (2, .ref (L 17 to.toNatClampNeg)), (4, .int (nI k))]) hx hb dX2_costsTo_149 hl (k := 4) rfl (nI_1 i) (by decide) rfl (fun ls hl => ?_)
                  refine lv_goto (tgt := 63) hx hb dX2_costsTo_152 (by decide) ?_
                  exact ih9 (upd z9 (a 2 i 0).toNatClampNeg (a 2 i 8 + z9 (a 2 i 1).toNatClampNeg), 1) _ _ ls ⟨(by show _ = B_one a i (B_in a i (z, 0)); rw [← hx9]; unfold B_one; simp only [if_pos c_8, if_neg c_9, if_neg c_10, if_neg c_11]), hP, hS, lv_sub hl [0, 1, 5, 6, 7, 8] rfl⟩
  · refine lv_aload_n hx hb dX2_costsTo_19 rfl (lv_at hl 0 rfl) ?_
    refine W.widen (k := 0) (n := 0) (Nat.le_of_ble_eq_true rfl) (Nat.le_of_ble_eq_true rfl) ?_
    have g_10 : (L 17 to.toNatClampNeg) = L 17 to.toNatClampNeg := by
      rfl
    have g_11 : CV a κ := by
      exact hκ
    have g_12 : κ.2 to.toNatClampNeg = bf a to.toNatClampNeg := by
      exact hκ _ (in_lt hto) (show bitA κ.1 (nI to.toNatClampNeg) from by rw [← in_nI hto]; exact c_1)
    exact W.aret (v := .ref (L 17 to.toNatClampNeg)) hx hb hr (Or.inr ⟨_, rfl⟩) (Or.inr ⟨_, rfl⟩) (fun t ht hW => ⟨⟨(), L 17 to.toNatClampNeg, rfl, trivial, ⟨κ, g_10, g_11, g_12, by show mw _ _ _ _ t.heap; rw [ht]; exact hP⟩⟩, hS.F ht⟩) hS.2.2 dX2_costsTo_20
end
section
theorem tw_219 : Cond.code yX2_costsTo cX2_costsTo 9 (some (.array .int)) ∈ tp_all := tp_mem 219 (by decide +kernel) rfl
theorem tw_216 : Cond.methodLink RX2 79 yX2_costsTo ∈ tp_all := tp_mem 216 (by decide +kernel) rfl
theorem tw_217 : Cond.instanceMethod yX2_costsTo ∈ tp_all := tp_mem 217 (by decide +kernel) rfl
theorem tw_218 : Cond.selects RX2 yX2_costsTo yX2_costsTo ∈ tp_all := tp_mem 218 (by decide +kernel) rfl
theorem tw_215 : Cond.code yX2_firstOfWay cX2_firstOfWay 7 (some .int) ∈ tp_all := tp_mem 215 (by decide +kernel) rfl
theorem tw_212 : Cond.methodLink RX2 86 yX2_firstOfWay ∈ tp_all := tp_mem 212 (by decide +kernel) rfl
theorem tw_213 : Cond.instanceMethod yX2_firstOfWay ∈ tp_all := tp_mem 213 (by decide +kernel) rfl
theorem tw_214 : Cond.selects RX2 yX2_firstOfWay yX2_firstOfWay ∈ tp_all := tp_mem 214 (by decide +kernel) rfl
theorem tw_130 : Cond.code yX2_find cX2_find 2 (some (.object "Turnpike$Link")) ∈ tp_all := tp_mem 130 (by decide +kernel) rfl
theorem tw_223 : Cond.methodLink RX2 90 yX2_find ∈ tp_all := tp_mem 223 (by decide +kernel) rfl
theorem tw_128 : Cond.instanceMethod yX2_find ∈ tp_all := tp_mem 128 (by decide +kernel) rfl
theorem tw_129 : Cond.selects RX2 yX2_find yX2_find ∈ tp_all := tp_mem 129 (by decide +kernel) rfl
theorem tw_227 : Cond.code yX7_planOver cX7_planOver 2 none ∈ tp_all := tp_mem 227 (by decide +kernel) rfl
theorem tw_224 : Cond.methodLink RX2 94 yX7_planOver ∈ tp_all := tp_mem 224 (by decide +kernel) rfl
theorem tw_225 : Cond.instanceMethod yX7_planOver ∈ tp_all := tp_mem 225 (by decide +kernel) rfl
theorem tw_226 : Cond.selects RX7 yX7_planOver yX7_planOver ∈ tp_all := tp_mem 226 (by decide +kernel) rfl
theorem tw_29 : Cond.initialized RX7 ∈ tp_all := tp_mem 29 (by decide +kernel) rfl
theorem te_f47 {U : State} (h : tp_E U) : va_Nw (.fieldLinkNest "Turnpike$Roads" 83 "Turnpike$Vehicle" "to" "I" "Turnpike") U := h.1 _ (List.mem_of_getElem? (i := 47) rfl)
theorem dX2_firstOfWay_0 : decode cX2_firstOfWay 0 = .ok (.aload_n 0, 1) := by decide +kernel
theorem dX2_firstOfWay_1 : decode cX2_firstOfWay 1 = .ok (.iload_n 2, 1) := by decide +kernel
theorem dX2_firstOfWay_2 : decode cX2_firstOfWay 2 = .ok (.invokevirtual 79, 3) := by decide +kernel
theorem dX2_firstOfWay_5 : decode cX2_firstOfWay 5 = .ok (.astore_n 3, 1) := by decide +kernel
theorem dX2_firstOfWay_6 : decode cX2_firstOfWay 6 = .ok (.iload_n 1, 1) := by decide +kernel
theorem dX2_firstOfWay_7 : decode cX2_firstOfWay 7 = .ok (.iload_n 2, 1) := by decide +kernel
theorem dX2_firstOfWay_8 : decode cX2_firstOfWay 8 = .ok (.if_icmp .eq 10, 3) := by decide +kernel
theorem dX2_firstOfWay_18 : decode cX2_firstOfWay 18 = .ok (.iconst (-1), 1) := by decide +kernel
theorem dX2_firstOfWay_19 : decode cX2_firstOfWay 19 = .ok (.ireturn, 1) := by decide +kernel
theorem dX2_firstOfWay_11 : decode cX2_firstOfWay 11 = .ok (.aload_n 3, 1) := by decide +kernel
theorem dX2_firstOfWay_12 : decode cX2_firstOfWay 12 = .ok (.iload_n 1, 1) := by decide +kernel
theorem dX2_firstOfWay_13 : decode cX2_firstOfWay 13 = .ok (.iaload, 1) := by decide +kernel
theorem dX2_firstOfWay_14 : decode cX2_firstOfWay 14 = .ok (.iconst (-1), 1) := by decide +kernel
theorem dX2_firstOfWay_15 : decode cX2_firstOfWay 15 = .ok (.if_icmp .ne 5, 3) := by decide +kernel
theorem dX2_firstOfWay_20 : decode cX2_firstOfWay 20 = .ok (.iconst 0, 1) := by decide +kernel
theorem dX2_firstOfWay_21 : decode cX2_firstOfWay 21 = .ok (.istore 4, 2) := by decide +kernel
theorem dX2_firstOfWay_23 : decode cX2_firstOfWay 23 = .ok (.iload 4, 2) := by decide +kernel
theorem dX2_firstOfWay_25 : decode cX2_firstOfWay 25 = .ok (.aload_n 0, 1) := by decide +kernel
theorem dX2_firstOfWay_26 : decode cX2_firstOfWay 26 = .ok (.getfield 23, 3) := by decide +kernel
theorem dX2_firstOfWay_29 : decode cX2_firstOfWay 29 = .ok (.if_icmp .ge 67, 3) := by decide +kernel
theorem dX2_firstOfWay_96 : decode cX2_firstOfWay 96 = .ok (.iconst (-1), 1) := by decide +kernel
theorem dX2_firstOfWay_97 : decode cX2_firstOfWay 97 = .ok (.ireturn, 1) := by decide +kernel
theorem dX2_firstOfWay_32 : decode cX2_firstOfWay 32 = .ok (.aload_n 0, 1) := by decide +kernel
theorem dX2_firstOfWay_33 : decode cX2_firstOfWay 33 = .ok (.getfield 11, 3) := by decide +kernel
theorem dX2_firstOfWay_36 : decode cX2_firstOfWay 36 = .ok (.iload 4, 2) := by decide +kernel
theorem dX2_firstOfWay_38 : decode cX2_firstOfWay 38 = .ok (.aaload, 1) := by decide +kernel
theorem dX2_firstOfWay_39 : decode cX2_firstOfWay 39 = .ok (.astore 5, 2) := by decide +kernel
theorem dX2_firstOfWay_41 : decode cX2_firstOfWay 41 = .ok (.aload_n 3, 1) := by decide +kernel
theorem dX2_firstOfWay_42 : decode cX2_firstOfWay 42 = .ok (.aload 5, 2) := by decide +kernel
theorem dX2_firstOfWay_44 : decode cX2_firstOfWay 44 = .ok (.getfield 30, 3) := by decide +kernel
theorem dX2_firstOfWay_47 : decode cX2_firstOfWay 47 = .ok (.iaload, 1) := by decide +kernel
theorem dX2_firstOfWay_48 : decode cX2_firstOfWay 48 = .ok (.istore 6, 2) := by decide +kernel
theorem dX2_firstOfWay_50 : decode cX2_firstOfWay 50 = .ok (.aload 5, 2) := by decide +kernel
theorem dX2_firstOfWay_52 : decode cX2_firstOfWay 52 = .ok (.getfield 27, 3) := by decide +kernel
theorem dX2_firstOfWay_55 : decode cX2_firstOfWay 55 = .ok (.iload_n 1, 1) := by decide +kernel
theorem dX2_firstOfWay_56 : decode cX2_firstOfWay 56 = .ok (.if_icmp .ne 34, 3) := by decide +kernel
theorem dX2_firstOfWay_90 : decode cX2_firstOfWay 90 = .ok (.iinc 4 1, 3) := by decide +kernel
theorem dX2_firstOfWay_93 : decode cX2_firstOfWay 93 = .ok (.goto (-70), 3) := by decide +kernel
theorem dX2_firstOfWay_59 : decode cX2_firstOfWay 59 = .ok (.aload 5, 2) := by decide +kernel
theorem dX2_firstOfWay_61 : decode cX2_firstOfWay 61 = .ok (.getfield 75, 3) := by decide +kernel
theorem dX2_firstOfWay_64 : decode cX2_firstOfWay 64 = .ok (.ifCond .ne 26, 3) := by decide +kernel
theorem dX2_firstOfWay_67 : decode cX2_firstOfWay 67 = .ok (.iload 6, 2) := by decide +kernel
theorem dX2_firstOfWay_69 : decode cX2_firstOfWay 69 = .ok (.iconst (-1), 1) := by decide +kernel
theorem dX2_firstOfWay_70 : decode cX2_firstOfWay 70 = .ok (.if_icmp .eq 20, 3) := by decide +kernel
theorem dX2_firstOfWay_73 : decode cX2_firstOfWay 73 = .ok (.aload 5, 2) := by decide +kernel
theorem dX2_firstOfWay_75 : decode cX2_firstOfWay 75 = .ok (.getfield 45, 3) := by decide +kernel
theorem dX2_firstOfWay_78 : decode cX2_firstOfWay 78 = .ok (.iload 6, 2) := by decide +kernel
theorem dX2_firstOfWay_80 : decode cX2_firstOfWay 80 = .ok (.iadd, 1) := by decide +kernel
theorem dX2_firstOfWay_81 : decode cX2_firstOfWay 81 = .ok (.aload_n 3, 1) := by decide +kernel
theorem dX2_firstOfWay_82 : decode cX2_firstOfWay 82 = .ok (.iload_n 1, 1) := by decide +kernel
theorem dX2_firstOfWay_83 : decode cX2_firstOfWay 83 = .ok (.iaload, 1) := by decide +kernel
theorem dX2_firstOfWay_84 : decode cX2_firstOfWay 84 = .ok (.if_icmp .ne 6, 3) := by decide +kernel
theorem dX2_firstOfWay_87 : decode cX2_firstOfWay 87 = .ok (.iload 4, 2) := by decide +kernel
theorem dX2_firstOfWay_89 : decode cX2_firstOfWay 89 = .ok (.ireturn, 1) := by decide +kernel
theorem dX2_planWay_0 : decode cX2_planWay 0 = .ok (.iload_n 2, 1) := by decide +kernel
theorem dX2_planWay_1 : decode cX2_planWay 1 = .ok (.istore_n 3, 1) := by decide +kernel
theorem dX2_planWay_2 : decode cX2_planWay 2 = .ok (.iconst 0, 1) := by decide +kernel
theorem dX2_planWay_3 : decode cX2_planWay 3 = .ok (.istore 4, 2) := by decide +kernel
theorem dX2_planWay_5 : decode cX2_planWay 5 = .ok (.iload 4, 2) := by decide +kernel
theorem dX2_planWay_7 : decode cX2_planWay 7 = .ok (.bipush 12, 2) := by decide +kernel
theorem dX2_planWay_9 : decode cX2_planWay 9 = .ok (.if_icmp .ge 55, 3) := by decide +kernel
theorem dX2_planWay_64 : decode cX2_planWay 64 = .ok (.iload_n 3, 1) := by decide +kernel
theorem dX2_planWay_65 : decode cX2_planWay 65 = .ok (.aload_n 1, 1) := by decide +kernel
theorem dX2_planWay_66 : decode cX2_planWay 66 = .ok (.getfield 83, 3) := by decide +kernel
theorem dX2_planWay_69 : decode cX2_planWay 69 = .ok (.if_icmp .ne 7, 3) := by decide +kernel
theorem dX2_planWay_76 : decode cX2_planWay 76 = .ok (.iconst 0, 1) := by decide +kernel
theorem dX2_planWay_77 : decode cX2_planWay 77 = .ok (.ireturn, 1) := by decide +kernel
theorem dX2_planWay_72 : decode cX2_planWay 72 = .ok (.iconst 1, 1) := by decide +kernel
theorem dX2_planWay_73 : decode cX2_planWay 73 = .ok (.goto 4, 3) := by decide +kernel
theorem dX2_planWay_12 : decode cX2_planWay 12 = .ok (.iload_n 3, 1) := by decide +kernel
theorem dX2_planWay_13 : decode cX2_planWay 13 = .ok (.aload_n 1, 1) := by decide +kernel
theorem dX2_planWay_14 : decode cX2_planWay 14 = .ok (.getfield 83, 3) := by decide +kernel
theorem dX2_planWay_17 : decode cX2_planWay 17 = .ok (.if_icmp .eq 47, 3) := by decide +kernel
theorem dX2_planWay_20 : decode cX2_planWay 20 = .ok (.aload_n 0, 1) := by decide +kernel
theorem dX2_planWay_21 : decode cX2_planWay 21 = .ok (.iload_n 3, 1) := by decide +kernel
theorem dX2_planWay_22 : decode cX2_planWay 22 = .ok (.aload_n 1, 1) := by decide +kernel
theorem dX2_planWay_23 : decode cX2_planWay 23 = .ok (.getfield 83, 3) := by decide +kernel
theorem dX2_planWay_26 : decode cX2_planWay 26 = .ok (.invokevirtual 86, 3) := by decide +kernel
theorem dX2_planWay_29 : decode cX2_planWay 29 = .ok (.istore 5, 2) := by decide +kernel
theorem dX2_planWay_31 : decode cX2_planWay 31 = .ok (.aload_n 0, 1) := by decide +kernel
theorem dX2_planWay_32 : decode cX2_planWay 32 = .ok (.iload 5, 2) := by decide +kernel
theorem dX2_planWay_34 : decode cX2_planWay 34 = .ok (.invokevirtual 90, 3) := by decide +kernel
theorem dX2_planWay_37 : decode cX2_planWay 37 = .ok (.astore 6, 2) := by decide +kernel
theorem dX2_planWay_39 : decode cX2_planWay 39 = .ok (.aload 6, 2) := by decide +kernel
theorem dX2_planWay_41 : decode cX2_planWay 41 = .ok (.ifnonnull 5, 3) := by decide +kernel
theorem dX2_planWay_44 : decode cX2_planWay 44 = .ok (.iconst 0, 1) := by decide +kernel
theorem dX2_planWay_45 : decode cX2_planWay 45 = .ok (.ireturn, 1) := by decide +kernel
theorem dX2_planWay_46 : decode cX2_planWay 46 = .ok (.aload_n 1, 1) := by decide +kernel
theorem dX2_planWay_47 : decode cX2_planWay 47 = .ok (.iload 5, 2) := by decide +kernel
theorem dX2_planWay_49 : decode cX2_planWay 49 = .ok (.invokevirtual 94, 3) := by decide +kernel
theorem dX2_planWay_52 : decode cX2_planWay 52 = .ok (.aload 6, 2) := by decide +kernel
theorem dX2_planWay_54 : decode cX2_planWay 54 = .ok (.getfield 30, 3) := by decide +kernel
theorem dX2_planWay_57 : decode cX2_planWay 57 = .ok (.istore_n 3, 1) := by decide +kernel
theorem dX2_planWay_58 : decode cX2_planWay 58 = .ok (.iinc 4 1, 3) := by decide +kernel
theorem dX2_planWay_61 : decode cX2_planWay 61 = .ok (.goto (-56), 3) := by decide +kernel
set_option maxRecDepth 100000 in
set_option maxHeartbeats 4000000 in
/-- Roads.firstOfWay -/
theorem c_Roads_firstOfWay (l : Launch) (dC : Nat → ClassId) (dI : Nat → Nat → Nat) (cy : Nat → ClassId) (L : Lay) (tr : Option Nat) (a : St) (κ : Kap) (τ : Tau) (M : Nat) (fr : Int32) (to : Int32) (sz : Nat) (hT : TL L tr τ) (hw : Wf M a) (hfr : in_ fr 11) (hto : in_ to 11) (hκ : CV a κ) : Met l yX2_firstOfWay (tp_w yX2_firstOfWay cX2_firstOfWay 7 (some .int)) ({ frames := 2, cells := 0, slots := 0, locals := 51 }) (va_Pc [.ref (L 1 0), .int fr, .int to] (mPre dC dI cy (TW cy L tr a κ τ) sz)) (va_Qi (fun (r u : Int32) => r = u) (fun (u : Int32) (t : State) => ∃ (κ2 : Kap), (u = G_first a fr to) ∧ (CV a κ2) ∧ mw (dC, dI) vwCl (mA (TW cy L tr a κ τ) sz) (TW cy L tr a κ2 τ) t.heap) (mA (TW cy L tr a κ τ) sz)) (0) (0) (mA (TW cy L tr a κ τ) sz) := by
  refine Met.ofW (cc := cX2_firstOfWay) (maxL := 7) (ret := (some .int)) (by decide) rfl ?_
  intro p e s m args below meth c s₁ B hml hv
  obtain ⟨rfl, hsz, hP, hK, hE⟩ := hv
  have hx := B.exec
  have hb := B.bytes
  have hr := B.returns
  have hts0 := atoms_spec (ws := tp_w yX2_firstOfWay cX2_firstOfWay 7 (some .int)) B.pre
  have hts : ∀ w ∈ tp_all, w.before _ s = true := fun w h => hts0 w (List.mem_cons_of_mem _ h)
  have hown : s.vm.findClass RX2 = some m.cls := findClass_of_methodNamed B.named
  have hlocks := B.notSynchronized
  subst hsz
  have hP := hP.self s.heap.size
  generalize hAe : mA (TW cy L tr a κ τ) s.heap.size = A at hP ⊢
  have hA : ∀ q : Nat, s.heap.size ≤ q → A q := fun q h => by rw [← hAe]; exact Or.inr h
  have hS : va_S A s.heap s.heap [] := va_S.rf
  have hl9 := lv_entry ([.ref (L 1 0), .int fr, .int to]) (n := 7) (Nat.le_of_ble_eq_true rfl)
  rw [lg_entry_eq]
  generalize (lg_sl ([.ref (L 1 0), .int fr, .int to]) ++ List.replicate (7 - (lg_sl ([.ref (L 1 0), .int fr, .int to])).length) Slot.unset).toArray = ls at hl9 ⊢
  have hl : lv_has ls 7 [(0, .ref (L 1 0)), (1, .int fr), (2, .int to)] := hl9
  refine lv_aload_n hx hb dX2_firstOfWay_0 rfl (lv_at hl 0 rfl) ?_
  refine lv_iload_n hx hb dX2_firstOfWay_1 rfl (lv_at hl 2 rfl) ?_
  have hFc := m_free (C := (TW cy L tr a κ τ)) hP hS hA (fun _ _ h => h)
  refine va_callr (va_runV (As := [.int to]) (rest := []) ⟨hx, hb, hml, hown, hts⟩ (c_Roads_costsTo l dC dI cy L tr a κ τ M to s.heap.size hT hw hto hκ) (tp_cwV 1 hts tw_216 tw_217 tw_218 tw_22 tw_219 rfl rfl (by decide +kernel) ⟨Nat.le_of_ble_eq_true rfl, Nat.le_of_ble_eq_true rfl⟩) ⟨m_blind, va_recv hK (hP.one (e := .inr (2, [.ref (L 24 0), .int ((a 1 0) 0), .ref (L 25 0), .int κ.1])) (tw_mem (f := 1) (i := 0) (by decide) rfl)) (ci := 2) (q0 := 0) rfl rfl, fun U hU hW => ⟨rfl, m_pay hK hP hE (fun _ _ h => h) U hU hW⟩⟩ rfl rfl hl.1 rfl (lv_room (Nat.le_of_ble_eq_true rfl)) dX2_firstOfWay_2 ⟨(Nat.le_of_ble_eq_true rfl), (Nat.le_of_ble_eq_true rfl)⟩) hS (fun q _ h => hFc q h) hFc (fun u r_1 t H1 locs ht hvm hpo hB hz1 hk1 hS => ?_)
  obtain ⟨z_1, f_1, f_2, f_3, hP1⟩ := hB
  subst f_1
  rw [ht] at hP1
  have hP : mw (dC, dI) vwCl A (TW cy L tr a z_1 τ) H1 := hP.join (fun _ _ h => h) hk1 hFc hP1 (fun _ _ h => Or.inl h)
  generalize H1 = H at hP hS ⊢
  clear hP1 hk1 hFc
  refine lv_astore_n (lv' := [(3, .ref (L 17 to.toNatClampNeg)), (0, .ref (L 1 0)), (1, .int fr), (2, .int to)]) hx hb dX2_firstOfWay_5 rfl hl (by decide) rfl (fun ls hl => ?_)
  refine lv_iload_n hx hb dX2_firstOfWay_6 rfl (lv_at hl 2 rfl) ?_
  refine lv_iload_n hx hb dX2_firstOfWay_7 rfl (lv_at hl 3 rfl) ?_
  refine lv_icmp_eq (tgt := 18) hx hb dX2_firstOfWay_8 (by decide) (fun c_1 => ?_) (fun c_1 => ?_)
  · refine lv_iconst (v := -1) hx hb dX2_firstOfWay_18 (by decide) ?_
    refine W.widen (k := 0) (n := 0) (Nat.le_of_ble_eq_true rfl) (Nat.le_of_ble_eq_true rfl) ?_
    have g_1 : ((-1)) = G_first a fr to := by
      show _ = if fr = to then -1 else if bf a to.toNatClampNeg fr.toNatClampNeg = -1 then -1 else G_scan a (bf a to.toNatClampNeg) fr (nL a) 0
      simp only [if_pos c_1]
    have g_2 : CV a z_1 := by
      exact f_2
    exact W.iret (v := (-1)) hx hb hr (fun t ht hW => ⟨⟨((-1)), ((-1)), rfl, rfl, ⟨z_1, g_1, g_2, by show mw _ _ _ _ t.heap; rw [ht]; exact hP⟩⟩, hS.F ht⟩) hS.2.2 dX2_firstOfWay_19
  · refine lv_aload_n hx hb dX2_firstOfWay_11 rfl (lv_at hl 0 rfl) ?_
    refine lv_iload_n hx hb dX2_firstOfWay_12 rfl (lv_at hl 2 rfl) ?_
    have j_1 : (fr : Int32).toNatClampNeg = fr.toNatClampNeg := m_cl (in_nI hfr) (in_lt hfr) (by decide)
    refine va_iald hx hb hK (ws := [(L 17 to.toNatClampNeg, .inl (cy 0, 12, .inl (z_1.2 to.toNatClampNeg)))]) (hP.one (tw_mem (f := 17) (i := to.toNatClampNeg) (in_lt hto) rfl)) 0 0 rfl rfl (m_in (in_nI hfr) (in_lt hfr) (by decide)) dX2_firstOfWay_13 ?_
    refine W.eq (g2 := F0 m 14 ls [.int ((z_1.2 to.toNatClampNeg) fr.toNatClampNeg)]) (by first | (rw [j_1]; done) | (rw [j_1]; rfl)) ?_
    refine W.eq (g2 := F0 m 14 ls [.int (bf a to.toNatClampNeg fr.toNatClampNeg)]) (by rw [f_3]) ?_
    refine lv_iconst (v := -1) hx hb dX2_firstOfWay_14 (by decide) ?_
    refine lv_icmp_ne (tgt := 20) hx hb dX2_firstOfWay_15 (by decide) (fun c_2 => ?_) (fun c_2 => ?_)
    · refine lv_iconst (v := 0) hx hb dX2_firstOfWay_20 (by decide) ?_
      refine lv_istore (lv' := [(4, .int 0), (3, .ref (L 17 to.toNatClampNeg)), (0, .ref (L 1 0)), (1, .int fr), (2, .int to)]) hx hb dX2_firstOfWay_21 hl (by decide) rfl (fun ls hl => ?_)
      have hN : nL a ≤ 24 := in_le hw.1.1
      suffices hloop : ∀ (d k : Nat), k + d = (nL a) → G_scan a (bf a to.toNatClampNeg) fr d k = G_scan a (bf a to.toNatClampNeg) fr (nL a) 0 → ∀ ls : Array Slot, lv_has ls 7 [(4, .int (nI k)), (3, .ref (L 17 to.toNatClampNeg)), (0, .ref (L 1 0)), (1, .int fr), (2, .int to)] → ∀ (H : Heap) (locs : List Loc), mw (dC, dI) vwCl A (TW cy L tr a z_1 τ) H → va_S A s.heap H locs → W p l e _ s m _ below meth c H locs (0 + 0) (0 + 0) _ (F0 m 23 ls []) from hloop (nL a) 0 (by omega)  rfl ls (lv_sub hl [0, 1, 2, 3, 4] rfl) _ _ hP hS
      clear hP hS hl ls hl9
      intro d
      induction d with
      | zero =>
        intro k hk  hq ls hl H locs hP hS
        refine lv_iload hx hb dX2_firstOfWay_23 (lv_at hl 0 rfl) ?_
        refine lv_aload_n hx hb dX2_firstOfWay_25 rfl (lv_at hl 2 rfl) ?_
        refine va_get (D := (dC, dI)) (ws := [(L 1 0, .inr (2, [.ref (L 24 0), .int ((a 1 0) 0), .ref (L 25 0), .int z_1.1]))]) (ci := 2) (v := .int ((a 1 0) 0)) (C := RX2) (T := TX2) (N := 4) hx hb hts tl_X2 hown hK (hP.one (tw_mem (f := 1) (i := 0) (by decide) rfl)) 0 rfl rfl 1 (by decide) (hts _ tw_697) (fun _ h9 => h9) rfl dX2_firstOfWay_26 ?_
        refine W.eq (g2 := F0 m 29 ls [.int (nI (nL a)), .int (nI k)]) (by rw [in_nI hw.1.1]) ?_
        have e9 : k = nL a := by omega
        refine lv_icmp_ge (tgt := 96) hx hb dX2_firstOfWay_29 (by decide) (fun _ => ?_) (fun c_3 => absurd (by rw [e9]; exact Int32.le_refl _) c_3)
        refine lv_iconst (v := -1) hx hb dX2_firstOfWay_96 (by decide) ?_
        refine W.widen (k := 0) (n := 0) (Nat.le_of_ble_eq_true rfl) (Nat.le_of_ble_eq_true rfl) ?_
        have g_3 : ((-1)) = G_first a fr to := by
          show _ = if fr = to then -1 else if bf a to.toNatClampNeg fr.toNatClampNeg = -1 then -1 else G_scan a (bf a to.toNatClampNeg) fr (nL a) 0
          simp only [if_neg c_1, if_neg c_2]
          rw [← hq]
          rfl
        have g_4 : CV a z_1 := by
          exact f_2
        exact W.iret (v := (-1)) hx hb hr (fun t ht hW => ⟨⟨((-1)), ((-1)), rfl, rfl, ⟨z_1, g_3, g_4, by show mw _ _ _ _ t.heap; rw [ht]; exact hP⟩⟩, hS.F ht⟩) hS.2.2 dX2_firstOfWay_97
      | succ d ih =>
        intro k hk  hq ls hl H locs hP hS
        refine lv_iload hx hb dX2_firstOfWay_23 (lv_at hl 0 rfl) ?_
        refine lv_aload_n hx hb dX2_firstOfWay_25 rfl (lv_at hl 2 rfl) ?_
        refine va_get (D := (dC, dI)) (ws := [(L 1 0, .inr (2, [.ref (L 24 0), .int ((a 1 0) 0), .ref (L 25 0), .int z_1.1]))]) (ci := 2) (v := .int ((a 1 0) 0)) (C := RX2) (T := TX2) (N := 4) hx hb hts tl_X2 hown hK (hP.one (tw_mem (f := 1) (i := 0) (by decide) rfl)) 0 rfl rfl 1 (by decide) (hts _ tw_697) (fun _ h9 => h9) rfl dX2_firstOfWay_26 ?_
        refine W.eq (g2 := F0 m 29 ls [.int (nI (nL a)), .int (nI k)]) (by rw [in_nI hw.1.1]) ?_
        refine lv_icmp_ge (tgt := 96) hx hb dX2_firstOfWay_29 (by decide) (fun c_4 => absurd c_4 (nI_ge (a := k) (b := (nL a)) (by omega) (by omega))) (fun _ => ?_)
        refine lv_aload_n hx hb dX2_firstOfWay_32 rfl (lv_at hl 2 rfl) ?_
        refine va_get (D := (dC, dI)) (ws := [(L 1 0, .inr (2, [.ref (L 24 0), .int ((a 1 0) 0), .ref (L 25 0), .int z_1.1]))]) (ci := 2) (v := .ref (L 24 0)) (C := RX2) (T := TX2) (N := 4) hx hb hts tl_X2 hown hK (hP.one (tw_mem (f := 1) (i := 0) (by decide) rfl)) 0 rfl rfl 0 (by decide) (hts _ tw_695) (fun _ h9 => h9) rfl dX2_firstOfWay_33 ?_
        refine lv_iload hx hb dX2_firstOfWay_36 (lv_at hl 0 rfl) ?_
        have j_2 : (nI k : Int32).toNatClampNeg = k := m_cl rfl (by omega : k < 24) (by decide)
        refine va_aldq hx hb hK (ws := [(L 24 0, .inl (cy 3, 24, .inr (.inr (.inr (.inr (fun j => some (L 2 j)))))))]) (hP.one (tw_mem (f := 24) (i := 0) (by decide) rfl)) 0 3 rfl rfl (m_in rfl (by omega : k < 24) (by decide)) dX2_firstOfWay_38 ?_
        refine W.eq (g2 := F0 m 39 ls [.ref (L 2 k)]) (by first | (rw [j_2]; done) | (rw [j_2]; rfl)) ?_
        refine lv_astore (lv' := [(5, .ref (L 2 k)), (4, .int (nI k)), (3, .ref (L 17 to.toNatClampNeg)), (0, .ref (L 1 0)), (1, .int fr), (2, .int to)]) hx hb dX2_firstOfWay_39 hl (by decide) rfl (fun ls hl => ?_)
        have hLk := hw.2.1 k (by omega)
        refine lv_aload_n hx hb dX2_firstOfWay_41 rfl (lv_at hl 2 rfl) ?_
        refine lv_aload hx hb dX2_firstOfWay_42 (lv_at hl 0 rfl) ?_
        refine va_getN (D := (dC, dI)) (ws := [(L 2 k, .inr (1, [.int ((a 2 k) 0), .int ((a 2 k) 1), .int ((a 2 k) 2), .int ((a 2 k) 3), .int ((a 2 k) 4), .int ((a 2 k) 5), .int ((a 2 k) 6), .int ((a 2 k) 7), .int ((a 2 k) 8), .ref (L 3 k), .ref (L 5 k), .int ((a 2 k) 9), .int ((a 2 k) 10), .int ((a 2 k) 11), .int ((a 2 k) 12), .ref (L 7 k)]))]) (ci := 1) (v := .int ((a 2 k) 1)) (C := RX1) (T := TX1) (N := 16) hx hb hts tl_X1 hown hK (hP.one (tw_mem (f := 2) (i := k) (by omega : k < 24) rfl)) 0 rfl rfl 1 (by decide) (va_Nw.use rfl (te_f3 hE)) (fun _ h9 => h9) rfl dX2_firstOfWay_44 ?_
        have j_3 : ((a 2 k) 1 : Int32).toNatClampNeg = (a 2 k 1).toNatClampNeg := m_cl (in_nI hLk.2.1) (in_lt hLk.2.1) (by decide)
        refine va_iald hx hb hK (ws := [(L 17 to.toNatClampNeg, .inl (cy 0, 12, .inl (z_1.2 to.toNatClampNeg)))]) (hP.one (tw_mem (f := 17) (i := to.toNatClampNeg) (in_lt hto) rfl)) 0 0 rfl rfl (m_in (in_nI hLk.2.1) (in_lt hLk.2.1) (by decide)) dX2_firstOfWay_47 ?_
        refine W.eq (g2 := F0 m 48 ls [.int ((z_1.2 to.toNatClampNeg) ((a 2 k 1).toNatClampNeg))]) (by first | (rw [j_3]; done) | (rw [j_3]; rfl)) ?_
        refine W.eq (g2 := F0 m 48 ls [.int (bf a to.toNatClampNeg ((a 2 k 1).toNatClampNeg))]) (by rw [f_3]) ?_
        refine lv_istore (lv' := [(6, .int (bf a to.toNatClampNeg ((a 2 k 1).toNatClampNeg))), (5, .ref (L 2 k)), (4, .int (nI k)), (3, .ref (L 17 to.toNatClampNeg)), (0, .ref (L 1 0)), (1, .int fr), (2, .int to)]) hx hb dX2_firstOfWay_48 hl (by decide) rfl (fun ls hl => ?_)
        refine lv_aload hx hb dX2_firstOfWay_50 (lv_at hl 1 rfl) ?_
        refine va_getN (D := (dC, dI)) (ws := [(L 2 k, .inr (1, [.int ((a 2 k) 0), .int ((a 2 k) 1), .int ((a 2 k) 2), .int ((a 2 k) 3), .int ((a 2 k) 4), .int ((a 2 k) 5), .int ((a 2 k) 6), .int ((a 2 k) 7), .int ((a 2 k) 8), .ref (L 3 k), .ref (L 5 k), .int ((a 2 k) 9), .int ((a 2 k) 10), .int ((a 2 k) 11), .int ((a 2 k) 12), .ref (L 7 k)]))]) (ci := 1) (v := .int ((a 2 k) 0)) (C := RX1) (T := TX1) (N := 16) hx hb hts tl_X1 hown hK (hP.one (tw_mem (f := 2) (i := k) (by omega : k < 24) rfl)) 0 rfl rfl 0 (by decide) (va_Nw.use rfl (te_f2 hE)) (fun _ h9 => h9) rfl dX2_firstOfWay_52 ?_
        refine lv_iload_n hx hb dX2_firstOfWay_55 rfl (lv_at hl 5 rfl) ?_
        refine lv_icmp_ne (tgt := 90) hx hb dX2_firstOfWay_56 (by decide) (fun c_5 => ?_) (fun c_5 => ?_)
        · refine lv_iinc (v := nI (k + 1)) (lv' := [(4, .int (nI (k + 1))), (6, .int (bf a to.toNatClampNeg ((a 2 k 1).toNatClampNeg))), (5, .ref (L 2 k)), (3, .ref (L 17 to.toNatClampNeg)), (0, .ref (L 1 0)), (1, .int fr), (2, .int to)]) hx hb dX2_firstOfWay_90 hl (k := 2) rfl (nI_1 k) (by decide) rfl (fun ls hl => ?_)
          refine lv_goto (tgt := 23) hx hb dX2_firstOfWay_93 (by decide) ?_
          exact ih (k + 1) (by omega)  (by rw [← hq]; show _ = (if a 2 k 0 = fr then (if a 2 k 7 = 0 then (if bf a to.toNatClampNeg (a 2 k 1).toNatClampNeg = -1 then _ else if a 2 k 8 + bf a to.toNatClampNeg (a 2 k 1).toNatClampNeg = bf a to.toNatClampNeg fr.toNatClampNeg then _ else _) else _) else _); simp only [if_neg c_5]) ls (lv_sub hl [0, 3, 4, 5, 6] rfl) H locs hP hS
        · refine lv_aload hx hb dX2_firstOfWay_59 (lv_at hl 1 rfl) ?_
          refine va_getN (D := (dC, dI)) (ws := [(L 2 k, .inr (1, [.int ((a 2 k) 0), .int ((a 2 k) 1), .int ((a 2 k) 2), .int ((a 2 k) 3), .int ((a 2 k) 4), .int ((a 2 k) 5), .int ((a 2 k) 6), .int ((a 2 k) 7), .int ((a 2 k) 8), .ref (L 3 k), .ref (L 5 k), .int ((a 2 k) 9), .int ((a 2 k) 10), .int ((a 2 k) 11), .int ((a 2 k) 12), .ref (L 7 k)]))]) (ci := 1) (v := .int ((a 2 k) 7)) (C := RX1) (T := TX1) (N := 16) hx hb hts tl_X1 hown hK (hP.one (tw_mem (f := 2) (i := k) (by omega : k < 24) rfl)) 0 rfl rfl 7 (by decide) (va_Nw.use rfl (te_f14 hE)) (fun _ h9 => h9) rfl dX2_firstOfWay_61 ?_
          refine lv_if_ne (tgt := 90) hx hb dX2_firstOfWay_64 (by decide) (fun c_6 => ?_) (fun c_6 => ?_)
          · refine lv_iinc (v := nI (k + 1)) (lv' := [(4, .int (nI (k + 1))), (6, .int (bf a to.toNatClampNeg ((a 2 k 1).toNatClampNeg))), (5, .ref (L 2 k)), (3, .ref (L 17 to.toNatClampNeg)), (0, .ref (L 1 0)), (1, .int fr), (2, .int to)]) hx hb dX2_firstOfWay_90 hl (k := 2) rfl (nI_1 k) (by decide) rfl (fun ls hl => ?_)
            refine lv_goto (tgt := 23) hx hb dX2_firstOfWay_93 (by decide) ?_
            exact ih (k + 1) (by omega)  (by rw [← hq]; show _ = (if a 2 k 0 = fr then (if a 2 k 7 = 0 then (if bf a to.toNatClampNeg (a 2 k 1).toNatClampNeg = -1 then _ else if a 2 k 8 + bf a to.toNatClampNeg (a 2 k 1).toNatClampNeg = bf a to.toNatClampNeg fr.toNatClampNeg then _ else _) else _) else _); simp only [if_pos c_5, if_neg c_6]) ls (lv_sub hl [0, 3, 4, 5, 6] rfl) H locs hP hS
          · refine lv_iload hx hb dX2_firstOfWay_67 (lv_at hl 0 rfl) ?_
            refine lv_iconst (v := -1) hx hb dX2_firstOfWay_69 (by decide) ?_
            refine lv_icmp_eq (tgt := 90) hx hb dX2_firstOfWay_70 (by decide) (fun c_7 => ?_) (fun c_7 => ?_)
            · refine lv_iinc (v := nI (k + 1)) (lv' := [(4, .int (nI (k + 1))), (6, .int (bf a to.toNatClampNeg ((a 2 k 1).toNatClampNeg))), (5, .ref (L 2 k)), (3, .ref (L 17 to.toNatClampNeg)), (0, .ref (L 1 0)), (1, .int fr), (2, .int to)]) hx hb dX2_firstOfWay_90 hl (k := 2) rfl (nI_1 k) (by decide) rfl (fun ls hl => ?_)
              refine lv_goto (tgt := 23) hx hb dX2_firstOfWay_93 (by decide) ?_
              exact ih (k + 1) (by omega)  (by rw [← hq]; show _ = (if a 2 k 0 = fr then (if a 2 k 7 = 0 then (if bf a to.toNatClampNeg (a 2 k 1).toNatClampNeg = -1 then _ else if a 2 k 8 + bf a to.toNatClampNeg (a 2 k 1).toNatClampNeg = bf a to.toNatClampNeg fr.toNatClampNeg then _ else _) else _) else _); simp only [if_pos c_5, if_pos c_6, if_pos c_7]) ls (lv_sub hl [0, 3, 4, 5, 6] rfl) H locs hP hS
            · refine lv_aload hx hb dX2_firstOfWay_73 (lv_at hl 1 rfl) ?_
              refine va_getN (D := (dC, dI)) (ws := [(L 2 k, .inr (1, [.int ((a 2 k) 0), .int ((a 2 k) 1), .int ((a 2 k) 2), .int ((a 2 k) 3), .int ((a 2 k) 4), .int ((a 2 k) 5), .int ((a 2 k) 6), .int ((a 2 k) 7), .int ((a 2 k) 8), .ref (L 3 k), .ref (L 5 k), .int ((a 2 k) 9), .int ((a 2 k) 10), .int ((a 2 k) 11), .int ((a 2 k) 12), .ref (L 7 k)]))]) (ci := 1) (v := .int ((a 2 k) 8)) (C := RX1) (T := TX1) (N := 16) hx hb hts tl_X1 hown hK (hP.one (tw_mem (f := 2) (i := k) (by omega : k < 24) rfl)) 0 rfl rfl 8 (by decide) (va_Nw.use rfl (te_f15 hE)) (fun _ h9 => h9) rfl dX2_firstOfWay_75 ?_
              refine lv_iload hx hb dX2_firstOfWay_78 (lv_at hl 0 rfl) ?_
              refine lv_iadd hx hb dX2_firstOfWay_80 ?_
              refine lv_aload_n hx hb dX2_firstOfWay_81 rfl (lv_at hl 3 rfl) ?_
              refine lv_iload_n hx hb dX2_firstOfWay_82 rfl (lv_at hl 5 rfl) ?_
              have j_4 : (fr : Int32).toNatClampNeg = fr.toNatClampNeg := m_cl (in_nI hfr) (in_lt hfr) (by decide)
              refine va_iald hx hb hK (ws := [(L 17 to.toNatClampNeg, .inl (cy 0, 12, .inl (z_1.2 to.toNatClampNeg)))]) (hP.one (tw_mem (f := 17) (i := to.toNatClampNeg) (in_lt hto) rfl)) 0 0 rfl rfl (m_in (in_nI hfr) (in_lt hfr) (by decide)) dX2_firstOfWay_83 ?_
              refine W.eq (g2 := F0 m 84 ls [.int ((z_1.2 to.toNatClampNeg) fr.toNatClampNeg), .int (((a 2 k) 8) + (bf a to.toNatClampNeg ((a 2 k 1).toNatClampNeg)))]) (by first | (rw [j_4]; done) | (rw [j_4]; rfl)) ?_
              refine W.eq (g2 := F0 m 84 ls [.int (bf a to.toNatClampNeg fr.toNatClampNeg), .int (((a 2 k) 8) + (bf a to.toNatClampNeg ((a 2 k 1).toNatClampNeg)))]) (by rw [f_3]) ?_
              refine lv_icmp_ne (tgt := 90) hx hb dX2_firstOfWay_84 (by decide) (fun c_8 => ?_) (fun c_8 => ?_)
              · refine lv_iinc (v := nI (k + 1)) (lv' := [(4, .int (nI (k + 1))), (6, .int (bf a to.toNatClampNeg ((a 2 k 1).toNatClampNeg))), (5, .ref (L 2 k)), (3, .ref (L 17 to.toNatClampNeg)), (0, .ref (L 1 0)), (1, .int fr), (2, .int to)]) hx hb dX2_firstOfWay_90 hl (k := 2) rfl (nI_1 k) (by decide) rfl (fun ls hl => ?_)
                refine lv_goto (tgt := 23) hx hb dX2_firstOfWay_93 (by decide) ?_
                exact ih (k + 1) (by omega)  (by rw [← hq]; show _ = (if a 2 k 0 = fr then (if a 2 k 7 = 0 then (if bf a to.toNatClampNeg (a 2 k 1).toNatClampNeg = -1 then _ else if a 2 k 8 + bf a to.toNatClampNeg (a 2 k 1).toNatClampNeg = bf a to.toNatClampNeg fr.toNatClampNeg then _ else _) else _) else _); simp only [if_pos c_5, if_pos c_6, if_neg c_7, if_neg c_8]) ls (lv_sub hl [0, 3, 4, 5, 6] rfl) H locs hP hS
              · refine lv_iload hx hb dX2_firstOfWay_87 (lv_at hl 2 rfl) ?_
                refine W.widen (k := 0) (n := 0) (Nat.le_of_ble_eq_true rfl) (Nat.le_of_ble_eq_true rfl) ?_
                have g_5 : (nI k) = G_first a fr to := by
                  show _ = if fr = to then -1 else if bf a to.toNatClampNeg fr.toNatClampNeg = -1 then -1 else G_scan a (bf a to.toNatClampNeg) fr (nL a) 0
                  simp only [if_neg c_1, if_neg c_2]
                  rw [← hq]
                  show _ = (if a 2 k 0 = fr then (if a 2 k 7 = 0 then (if bf a to.toNatClampNeg (a 2 k 1).toNatClampNeg = -1 then _ else if a 2 k 8 + bf a to.toNatClampNeg (a 2 k 1).toNatClampNeg = bf a to.toNatClampNeg fr.toNatClampNeg then _ else _) else _) else _)
                  simp only [if_pos c_5, if_pos c_6, if_neg c_7, if_pos c_8]
                have g_6 : CV a z_1 := by
                  exact f_2
                exact W.iret (v := nI k) hx hb hr (fun t ht hW => ⟨⟨(nI k), (nI k), rfl, rfl, ⟨z_1, g_5, g_6, by show mw _ _ _ _ t.heap; rw [ht]; exact hP⟩⟩, hS.F ht⟩) hS.2.2 dX2_firstOfWay_89
    · refine lv_iconst (v := -1) hx hb dX2_firstOfWay_18 (by decide) ?_
      refine W.widen (k := 0) (n := 0) (Nat.le_of_ble_eq_true rfl) (Nat.le_of_ble_eq_true rfl) ?_
      have g_7 : ((-1)) = G_first a fr to := by
        show _ = if fr = to then -1 else if bf a to.toNatClampNeg fr.toNatClampNeg = -1 then -1 else G_scan a (bf a to.toNatClampNeg) fr (nL a) 0
        simp only [if_neg c_1, if_pos c_2]
      have g_8 : CV a z_1 := by
        exact f_2
      exact W.iret (v := (-1)) hx hb hr (fun t ht hW => ⟨⟨((-1)), ((-1)), rfl, rfl, ⟨z_1, g_7, g_8, by show mw _ _ _ _ t.heap; rw [ht]; exact hP⟩⟩, hS.F ht⟩) hS.2.2 dX2_firstOfWay_19
set_option maxRecDepth 100000 in
set_option maxHeartbeats 4000000 in
/-- Roads.planWay -/
theorem c_Roads_planWay (l : Launch) (dC : Nat → ClassId) (dI : Nat → Nat → Nat) (cy : Nat → ClassId) (L : Lay) (tr : Option Nat) (a : St) (κ : Kap) (τ : Tau) (M : Nat) (v : Nat) (fr : Int32) (sz : Nat) (hT : TL L tr τ) (hw : Wf M a) (hv : v < 200) (hfr : in_ fr 11) (hκ : CV a κ) : Met l yX2_planWay (tp_w yX2_planWay cX2_planWay 7 (some .boolean)) ({ frames := 3, cells := 0, slots := 0, locals := 77 }) (va_Pc [.ref (L 1 0), .ref (L 15 v), .int fr] (mPre dC dI cy (TW cy L tr a κ τ) sz)) (va_Qi (fun (r u : Int32) => r = u) (fun (u : Int32) (t : State) => ∃ (κ2 : Kap), (u = (P_way v (a 15 v 1) 12 fr a).2) ∧ (CV (P_way v (a 15 v 1) 12 fr a).1 κ2) ∧ mw (dC, dI) vwCl (mA (TW cy L tr a κ τ) sz) (TW cy L tr ((P_way v (a 15 v 1) 12 fr a).1) κ2 τ) t.heap) (mA (TW cy L tr a κ τ) sz)) (0) (0) (mA (TW cy L tr a κ τ) sz) := by
  refine Met.ofW (cc := cX2_planWay) (maxL := 7) (ret := (some .boolean)) (by decide) rfl ?_
  intro p e s m args below meth c s₁ B hml hv
  obtain ⟨rfl, hsz, hP, hK, hE⟩ := hv
  have hx := B.exec
  have hb := B.bytes
  have hr := B.returns
  have hts0 := atoms_spec (ws := tp_w yX2_planWay cX2_planWay 7 (some .boolean)) B.pre
  have hts : ∀ w ∈ tp_all, w.before _ s = true := fun w h => hts0 w (List.mem_cons_of_mem _ h)
  have hown : s.vm.findClass RX2 = some m.cls := findClass_of_methodNamed B.named
  have hlocks := B.notSynchronized
  subst hsz
  have hP := hP.self s.heap.size
  generalize hAe : mA (TW cy L tr a κ τ) s.heap.size = A at hP ⊢
  have hA : ∀ q : Nat, s.heap.size ≤ q → A q := fun q h => by rw [← hAe]; exact Or.inr h
  have hS : va_S A s.heap s.heap [] := va_S.rf
  have hl9 := lv_entry ([.ref (L 1 0), .ref (L 15 v), .int fr]) (n := 7) (Nat.le_of_ble_eq_true rfl)
  rw [lg_entry_eq]
  generalize (lg_sl ([.ref (L 1 0), .ref (L 15 v), .int fr]) ++ List.replicate (7 - (lg_sl ([.ref (L 1 0), .ref (L 15 v), .int fr])).length) Slot.unset).toArray = ls at hl9 ⊢
  have hl : lv_has ls 7 [(0, .ref (L 1 0)), (1, .ref (L 15 v)), (2, .int fr)] := hl9
  refine lv_iload_n hx hb dX2_planWay_0 rfl (lv_at hl 2 rfl) ?_
  refine lv_istore_n (lv' := [(3, .int fr), (0, .ref (L 1 0)), (1, .ref (L 15 v)), (2, .int fr)]) hx hb dX2_planWay_1 rfl hl (by decide) rfl (fun ls hl => ?_)
  refine lv_iconst (v := 0) hx hb dX2_planWay_2 (by decide) ?_
  refine lv_istore (lv' := [(4, .int 0), (3, .int fr), (0, .ref (L 1 0)), (1, .ref (L 15 v)), (2, .int fr)]) hx hb dX2_planWay_3 hl (by decide) rfl (fun ls hl => ?_)
  obtain ⟨to, eto⟩ : ∃ y9 : Int32, y9 = a 15 v 1 := ⟨_, rfl⟩
  have hto : in_ to 11 := by rw [eto]; exact (hw.2.2.2.2 v hv).2.1
  have hN : 12 ≤ 12 := (Nat.le_refl _)
  suffices hloop : ∀ (d k : Nat), k + d = 12 → ∀ nd : Int32, ∀ bb : St, ∀ κb : Kap, P_way v to d nd bb = P_way v (a 15 v 1) 12 fr a → Wf M bb → bb 15 v 1 = to → in_ nd 11 → CV bb κb → ∀ ls : Array Slot, lv_has ls 7 [(4, .int (nI k)), (3, .int nd), (0, .ref (L 1 0)), (1, .ref (L 15 v)), (2, .int fr)] → ∀ (H : Heap) (locs : List Loc), mw (dC, dI) vwCl A (TW cy L tr bb κb τ) H → va_S A s.heap H locs → W p l e _ s m _ below meth c H locs (0) (0) _ (F0 m 5 ls []) from hloop 12 0 (by omega) fr a κ (by rw [eto]) hw eto.symm hfr hκ ls (lv_sub hl [0, 1, 2, 3, 4] rfl) _ _ hP hS
  clear hP hS hl ls hl9
  intro d
  induction d with
  | zero =>
    intro k hk nd bb κb hq hwb htb hnd hcb ls hl H locs hP hS
    refine lv_iload hx hb dX2_planWay_5 (lv_at hl 0 rfl) ?_
    refine lv_bipush (v := 12) hx hb dX2_planWay_7 (by decide) ?_
    have e9 : k = 12 := by omega
    refine lv_icmp_ge (tgt := 64) hx hb dX2_planWay_9 (by decide) (fun _ => ?_) (fun c_1 => absurd (by rw [e9]; exact Int32.le_refl _) c_1)
    refine lv_iload_n hx hb dX2_planWay_64 rfl (lv_at hl 1 rfl) ?_
    refine lv_aload_n hx hb dX2_planWay_65 rfl (lv_at hl 3 rfl) ?_
    refine va_getN (D := (dC, dI)) (ws := [(L 15 v, .inr (7, [.int ((bb 15 v) 0), .int ((bb 15 v) 1), .int ((bb 15 v) 2), .int ((bb 15 v) 3), .int ((bb 15 v) 4), .int ((bb 15 v) 5), .int ((bb 15 v) 6), .int ((bb 15 v) 7), .int ((bb 15 v) 8), .int ((bb 15 v) 9), .int ((bb 15 v) 10), .int ((bb 15 v) 11), .ref (L 16 v)]))]) (ci := 7) (v := .int ((bb 15 v) 1)) (C := RX7) (T := TX7) (N := 13) hx hb hts tl_X7 hown hK (hP.one (tw_mem (f := 15) (i := v) hv rfl)) 0 rfl rfl 1 (by decide) (va_Nw.use rfl (te_f47 hE)) (fun _ h9 => h9) rfl dX2_planWay_66 ?_
    refine W.eq (g2 := F0 m 69 ls [.int to, .int nd]) (by rw [htb]) ?_
    refine lv_icmp_ne (tgt := 76) hx hb dX2_planWay_69 (by decide) (fun c_2 => ?_) (fun c_2 => ?_)
    · refine lv_iconst (v := 0) hx hb dX2_planWay_76 (by decide) ?_
      refine W.widen (k := 0) (n := 0) (Nat.le_of_ble_eq_true rfl) (Nat.le_of_ble_eq_true rfl) ?_
      have s_1 : bb = (P_way v (a 15 v 1) 12 fr a).1 := by
        rw [← hq]
        rfl
      rw [s_1] at hP
      have g_1 : 0 = (P_way v (a 15 v 1) 12 fr a).2 := by
        rw [← hq]
        show _ = (if nd = to then (1 : Int32) else 0)
        simp only [if_neg c_2]
      have g_2 : CV (P_way v (a 15 v 1) 12 fr a).1 κb := by
        rw [← s_1]
        exact hcb
      exact W.zret (v := 0) hx hb hr rfl (fun t ht hW => ⟨⟨0, 0, rfl, rfl, ⟨κb, g_1, g_2, by show mw _ _ _ _ t.heap; rw [ht]; exact hP⟩⟩, hS.F ht⟩) hS.2.2 dX2_planWay_77
    · refine lv_iconst (v := 1) hx hb dX2_planWay_72 (by decide) ?_
      refine lv_goto (tgt := 77) hx hb dX2_planWay_73 (by decide) ?_
      refine W.widen (k := 0) (n := 0) (Nat.le_of_ble_eq_true rfl) (Nat.le_of_ble_eq_true rfl) ?_
      have s_2 : bb = (P_way v (a 15 v 1) 12 fr a).1 := by
        rw [← hq]
        rfl
      rw [s_2] at hP
      have g_3 : 1 = (P_way v (a 15 v 1) 12 fr a).2 := by
        rw [← hq]
        show _ = (if nd = to then (1 : Int32) else 0)
        simp only [if_pos c_2]
      have g_4 : CV (P_way v (a 15 v 1) 12 fr a).1 κb := by
        rw [← s_2]
        exact hcb
      exact W.zret (v := 1) hx hb hr rfl (fun t ht hW => ⟨⟨1, 1, rfl, rfl, ⟨κb, g_3, g_4, by show mw _ _ _ _ t.heap; rw [ht]; exact hP⟩⟩, hS.F ht⟩) hS.2.2 dX2_planWay_77
  | succ d ih =>
    intro k hk nd bb κb hq hwb htb hnd hcb ls hl H locs hP hS
    refine lv_iload hx hb dX2_planWay_5 (lv_at hl 0 rfl) ?_
    refine lv_bipush (v := 12) hx hb dX2_planWay_7 (by decide) ?_
    refine lv_icmp_ge (tgt := 64) hx hb dX2_planWay_9 (by decide) (fun c_3 => absurd c_3 (nI_ge (a := k) (b := 12) (by omega) (by omega))) (fun _ => ?_)
    refine lv_iload_n hx hb dX2_planWay_12 rfl (lv_at hl 1 rfl) ?_
    refine lv_aload_n hx hb dX2_planWay_13 rfl (lv_at hl 3 rfl) ?_
    refine va_getN (D := (dC, dI)) (ws := [(L 15 v, .inr (7, [.int ((bb 15 v) 0), .int ((bb 15 v) 1), .int ((bb 15 v) 2), .int ((bb 15 v) 3), .int ((bb 15 v) 4), .int ((bb 15 v) 5), .int ((bb 15 v) 6), .int ((bb 15 v) 7), .int ((bb 15 v) 8), .int ((bb 15 v) 9), .int ((bb 15 v) 10), .int ((bb 15 v) 11), .ref (L 16 v)]))]) (ci := 7) (v := .int ((bb 15 v) 1)) (C := RX7) (T := TX7) (N := 13) hx hb hts tl_X7 hown hK (hP.one (tw_mem (f := 15) (i := v) hv rfl)) 0 rfl rfl 1 (by decide) (va_Nw.use rfl (te_f47 hE)) (fun _ h9 => h9) rfl dX2_planWay_14 ?_
    refine W.eq (g2 := F0 m 17 ls [.int to, .int nd]) (by rw [htb]) ?_
    refine lv_icmp_eq (tgt := 64) hx hb dX2_planWay_17 (by decide) (fun c_4 => ?_) (fun c_4 => ?_)
    · refine lv_iload_n hx hb dX2_planWay_64 rfl (lv_at hl 1 rfl) ?_
      refine lv_aload_n hx hb dX2_planWay_65 rfl (lv_at hl 3 rfl) ?_
      refine va_getN (D := (dC, dI)) (ws := [(L 15 v, .inr (7, [.int ((bb 15 v) 0), .int ((bb 15 v) 1), .int ((bb 15 v) 2), .int ((bb 15 v) 3), .int ((bb 15 v) 4), .int ((bb 15 v) 5), .int ((bb 15 v) 6), .int ((bb 15 v) 7), .int ((bb 15 v) 8), .int ((bb 15 v) 9), .int ((bb 15 v) 10), .int ((bb 15 v) 11), .ref (L 16 v)]))]) (ci := 7) (v := .int ((bb 15 v) 1)) (C := RX7) (T := TX7) (N := 13) hx hb hts tl_X7 hown hK (hP.one (tw_mem (f := 15) (i := v) hv rfl)) 0 rfl rfl 1 (by decide) (va_Nw.use rfl (te_f47 hE)) (fun _ h9 => h9) rfl dX2_planWay_66 ?_
      refine W.eq (g2 := F0 m 69 ls [.int to, .int nd]) (by rw [htb]) ?_
      refine lv_icmp_ne (tgt := 76) hx hb dX2_planWay_69 (by decide) (fun c_5 => ?_) (fun c_5 => ?_)
      · refine lv_iconst (v := 0) hx hb dX2_planWay_76 (by decide) ?_
        refine W.widen (k := 0) (n := 0) (Nat.le_of_ble_eq_true rfl) (Nat.le_of_ble_eq_true rfl) ?_
        have s_3 : bb = (P_way v (a 15 v 1) 12 fr a).1 := by
          rw [← hq]
          show _ = (if nd = to then (bb, (1 : Int32)) else if G_no bb (G_first bb nd to) then (bb, 0) else _).1
          rw [if_pos c_4]
        rw [s_3] at hP
        have g_5 : 0 = (P_way v (a 15 v 1) 12 fr a).2 := by
          exact absurd c_4 c_5
        have g_6 : CV (P_way v (a 15 v 1) 12 fr a).1 κb := by
          rw [← s_3]
          exact hcb
        exact W.zret (v := 0) hx hb hr rfl (fun t ht hW => ⟨⟨0, 0, rfl, rfl, ⟨κb, g_5, g_6, by show mw _ _ _ _ t.heap; rw [ht]; exact hP⟩⟩, hS.F ht⟩) hS.2.2 dX2_planWay_77
      · refine lv_iconst (v := 1) hx hb dX2_planWay_72 (by decide) ?_
        refine lv_goto (tgt := 77) hx hb dX2_planWay_73 (by decide) ?_
        refine W.widen (k := 0) (n := 0) (Nat.le_of_ble_eq_true rfl) (Nat.le_of_ble_eq_true rfl) ?_
        have s_4 : bb = (P_way v (a 15 v 1) 12 fr a).1 := by
          rw [← hq]
          show _ = (if nd = to then (bb, (1 : Int32)) else if G_no bb (G_first bb nd to) then (bb, 0) else _).1
          rw [if_pos c_4]
        rw [s_4] at hP
        have g_7 : 1 = (P_way v (a 15 v 1) 12 fr a).2 := by
          rw [← hq]
          show _ = (if nd = to then (bb, (1 : Int32)) else if G_no bb (G_first bb nd to) then (bb, 0) else _).2
          rw [if_pos c_4]
        have g_8 : CV (P_way v (a 15 v 1) 12 fr a).1 κb := by
          rw [← s_4]
          exact hcb
        exact W.zret (v := 1) hx hb hr rfl (fun t ht hW => ⟨⟨1, 1, rfl, rfl, ⟨κb, g_7, g_8, by show mw _ _ _ _ t.heap; rw [ht]; exact hP⟩⟩, hS.F ht⟩) hS.2.2 dX2_planWay_77
    · refine lv_aload_n hx hb dX2_planWay_20 rfl (lv_at hl 2 rfl) ?_
      refine lv_iload_n hx hb dX2_planWay_21 rfl (lv_at hl 1 rfl) ?_
      refine lv_aload_n hx hb dX2_planWay_22 rfl (lv_at hl 3 rfl) ?_
      refine va_getN (D := (dC, dI)) (ws := [(L 15 v, .inr (7, [.int ((bb 15 v) 0), .int ((bb 15 v) 1), .int ((bb 15 v) 2), .int ((bb 15 v) 3), .int ((bb 15 v) 4), .int ((bb 15 v) 5), .int ((bb 15 v) 6), .int ((bb 15 v) 7), .int ((bb 15 v) 8), .int ((bb 15 v) 9), .int ((bb 15 v) 10), .int ((bb 15 v) 11), .ref (L 16 v)]))]) (ci := 7) (v := .int ((bb 15 v) 1)) (C := RX7) (T := TX7) (N := 13) hx hb hts tl_X7 hown hK (hP.one (tw_mem (f := 15) (i := v) hv rfl)) 0 rfl rfl 1 (by decide) (va_Nw.use rfl (te_f47 hE)) (fun _ h9 => h9) rfl dX2_planWay_23 ?_
      refine W.eq (g2 := F0 m 26 ls [.int to, .int nd, .ref (L 1 0)]) (by rw [htb]) ?_
      have hFc := m_free (C := (TW cy L tr bb κb τ)) hP hS hA (fun _ _ h => h)
      refine va_calli (va_runV (As := [.int nd, .int to]) (rest := []) ⟨hx, hb, hml, hown, hts⟩ (c_Roads_firstOfWay l dC dI cy L tr bb κb τ M nd to H.size hT hwb hnd hto hcb) (tp_cwV 2 hts tw_212 tw_213 tw_214 tw_22 tw_215 rfl rfl (by decide +kernel) ⟨Nat.le_of_ble_eq_true rfl, Nat.le_of_ble_eq_true rfl⟩) ⟨m_blind, va_recv hK (hP.one (e := .inr (2, [.ref (L 24 0), .int ((bb 1 0) 0), .ref (L 25 0), .int κb.1])) (tw_mem (f := 1) (i := 0) (by decide) rfl)) (ci := 2) (q0 := 0) rfl rfl, fun U hU hW => ⟨rfl, m_pay hK hP hE (fun _ _ h => h) U hU hW⟩⟩ rfl rfl hl.1 rfl (lv_room (Nat.le_of_ble_eq_true rfl)) dX2_planWay_26 ⟨(Nat.le_of_ble_eq_true rfl), (Nat.le_of_ble_eq_true rfl)⟩) hS (fun q _ h => hFc q h) hFc (fun r_1 u t H1 locs ht hvm hpo hB hz1 hk1 hS => ?_)
      obtain rfl := hpo
      obtain ⟨z_1, f_1, f_2, hP1⟩ := hB
      subst f_1
      rw [ht] at hP1
      have hP : mw (dC, dI) vwCl A (TW cy L tr bb z_1 τ) H1 := hP.join (fun _ _ h => h) hk1 hFc hP1 (fun _ _ h => Or.inl h)
      generalize H1 = H at hP hS ⊢
      clear hP1 hk1 hFc
      refine lv_istore (lv' := [(5, .int (G_first bb nd to)), (4, .int (nI k)), (3, .int nd), (0, .ref (L 1 0)), (1, .ref (L 15 v)), (2, .int fr)]) hx hb dX2_planWay_29 hl (by decide) rfl (fun ls hl => ?_)
      refine lv_aload_n hx hb dX2_planWay_31 rfl (lv_at hl 3 rfl) ?_
      refine lv_iload hx hb dX2_planWay_32 (lv_at hl 0 rfl) ?_
      by_cases c_6 : G_no bb (G_first bb nd to)
      · have hFc := m_free (C := (TW cy L tr bb z_1 τ)) hP hS hA (fun _ _ h => h)
        refine va_callq (va_runV (As := [.int (G_first bb nd to)]) (rest := []) ⟨hx, hb, hml, hown, hts⟩ (c_Roads_find_none l dC dI cy L tr bb z_1 τ (G_first bb nd to) H.size hT c_6) (tp_cwV 1 hts tw_223 tw_128 tw_129 tw_22 tw_130 rfl rfl (by decide +kernel) ⟨Nat.le_of_ble_eq_true rfl, Nat.le_of_ble_eq_true rfl⟩) ⟨m_blind, va_recv hK (hP.one (e := .inr (2, [.ref (L 24 0), .int ((bb 1 0) 0), .ref (L 25 0), .int z_1.1])) (tw_mem (f := 1) (i := 0) (by decide) rfl)) (ci := 2) (q0 := 0) rfl rfl, fun U hU hW => ⟨rfl, m_pay hK hP hE (fun _ _ h => h) U hU hW⟩⟩ rfl rfl hl.1 rfl (lv_room (Nat.le_of_ble_eq_true rfl)) dX2_planWay_34 ⟨(Nat.le_of_ble_eq_true rfl), (Nat.le_of_ble_eq_true rfl)⟩) hS (fun q _ h => hFc q h) hFc (fun r_2 u t H1 locs ht hvm hpo hB hz1 hk1 hS => ?_)
        obtain rfl := hpo
        obtain ⟨f_3, hP1⟩ := hB
        subst f_3
        rw [ht] at hP1
        have hP : mw (dC, dI) vwCl A (TW cy L tr bb z_1 τ) H1 := hP.join (fun _ _ h => h) hk1 hFc hP1 (fun _ _ h => Or.inl h)
        generalize H1 = H at hP hS ⊢
        clear hP1 hk1 hFc
        refine W.eq (g2 := F0 m 37 ls [.null]) rfl ?_
        refine lv_astoreN (lv' := [(6, .null), (5, .int (G_first bb nd to)), (4, .int (nI k)), (3, .int nd), (0, .ref (L 1 0)), (1, .ref (L 15 v)), (2, .int fr)]) hx hb dX2_planWay_37 hl (by decide) rfl (fun ls hl => ?_)
        refine lv_aloadN hx hb dX2_planWay_39 (lv_at hl 0 rfl) ?_
        refine lv_ifnonnullN hx hb dX2_planWay_41 ?_
        refine lv_iconst (v := 0) hx hb dX2_planWay_44 (by decide) ?_
        refine W.widen (k := 0) (n := 0) (Nat.le_of_ble_eq_true rfl) (Nat.le_of_ble_eq_true rfl) ?_
        have s_5 : bb = (P_way v (a 15 v 1) 12 fr a).1 := by
          rw [← hq]
          show _ = (if nd = to then (bb, (1 : Int32)) else if G_no bb (G_first bb nd to) then (bb, 0) else _).1
          rw [if_neg c_4, if_pos c_6]
        rw [s_5] at hP
        have g_9 : 0 = (P_way v (a 15 v 1) 12 fr a).2 := by
          rw [← hq]
          show _ = (if nd = to then (bb, (1 : Int32)) else if G_no bb (G_first bb nd to) then (bb, 0) else _).2
          rw [if_neg c_4, if_pos c_6]
        have g_10 : CV (P_way v (a 15 v 1) 12 fr a).1 z_1 := by
          rw [← s_5]
          exact f_2
        exact W.zret (v := 0) hx hb hr rfl (fun t ht hW => ⟨⟨0, 0, rfl, rfl, ⟨z_1, g_9, g_10, by show mw _ _ _ _ t.heap; rw [ht]; exact hP⟩⟩, hS.F ht⟩) hS.2.2 dX2_planWay_45
      · have hFc := m_free (C := (TW cy L tr bb z_1 τ)) hP hS hA (fun _ _ h => h)
        refine va_callr (va_runV (As := [.int (G_first bb nd to)]) (rest := []) ⟨hx, hb, hml, hown, hts⟩ (c_Roads_find_some l dC dI cy L tr bb z_1 τ M (G_first bb nd to) H.size hT hwb c_6) (tp_cwV 1 hts tw_223 tw_128 tw_129 tw_22 tw_130 rfl rfl (by decide +kernel) ⟨Nat.le_of_ble_eq_true rfl, Nat.le_of_ble_eq_true rfl⟩) ⟨m_blind, va_recv hK (hP.one (e := .inr (2, [.ref (L 24 0), .int ((bb 1 0) 0), .ref (L 25 0), .int z_1.1])) (tw_mem (f := 1) (i := 0) (by decide) rfl)) (ci := 2) (q0 := 0) rfl rfl, fun U hU hW => ⟨rfl, m_pay hK hP hE (fun _ _ h => h) U hU hW⟩⟩ rfl rfl hl.1 rfl (lv_room (Nat.le_of_ble_eq_true rfl)) dX2_planWay_34 ⟨(Nat.le_of_ble_eq_true rfl), (Nat.le_of_ble_eq_true rfl)⟩) hS (fun q _ h => hFc q h) hFc (fun u r_3 t H1 locs ht hvm hpo hB hz1 hk1 hS => ?_)
        obtain ⟨f_4, hP1⟩ := hB
        subst f_4
        rw [ht] at hP1
        have hP : mw (dC, dI) vwCl A (TW cy L tr bb z_1 τ) H1 := hP.join (fun _ _ h => h) hk1 hFc hP1 (fun _ _ h => Or.inl h)
        generalize H1 = H at hP hS ⊢
        clear hP1 hk1 hFc
        refine lv_astore (lv' := [(6, .ref (L 2 (G_first bb nd to).toNatClampNeg)), (5, .int (G_first bb nd to)), (4, .int (nI k)), (3, .int nd), (0, .ref (L 1 0)), (1, .ref (L 15 v)), (2, .int fr)]) hx hb dX2_planWay_37 hl (by decide) rfl (fun ls hl => ?_)
        refine lv_aload hx hb dX2_planWay_39 (lv_at hl 0 rfl) ?_
        refine lv_ifnonnull (tgt := 46) hx hb dX2_planWay_41 (by decide) ?_
        refine lv_aload_n hx hb dX2_planWay_46 rfl (lv_at hl 5 rfl) ?_
        refine lv_iload hx hb dX2_planWay_47 (lv_at hl 1 rfl) ?_
        have hFc := m_free (C := (TW cy L tr bb z_1 τ)) hP hS hA (fun _ _ h => h)
        refine va_callv (va_runV (As := [.int (G_first bb nd to)]) (rest := []) ⟨hx, hb, hml, hown, hts⟩ (c_Vehicle_planOver l dC dI cy L tr bb z_1 τ v (G_first bb nd to) H.size hT hv (hwb.2.2.2.2 v hv).1.1) (tp_cwV 1 hts tw_224 tw_225 tw_226 tw_29 tw_227 rfl rfl (by decide +kernel) ⟨Nat.le_of_ble_eq_true rfl, Nat.le_of_ble_eq_true rfl⟩) ⟨m_blind, va_recv hK (hP.one (e := .inr (7, [.int ((bb 15 v) 0), .int ((bb 15 v) 1), .int ((bb 15 v) 2), .int ((bb 15 v) 3), .int ((bb 15 v) 4), .int ((bb 15 v) 5), .int ((bb 15 v) 6), .int ((bb 15 v) 7), .int ((bb 15 v) 8), .int ((bb 15 v) 9), .int ((bb 15 v) 10), .int ((bb 15 v) 11), .ref (L 16 v)])) (tw_mem (f := 15) (i := v) hv rfl)) (ci := 7) (q0 := 0) rfl rfl, fun U hU hW => ⟨rfl, m_pay hK hP hE (fun _ _ h => h) U hU hW⟩⟩ rfl rfl hl.1 rfl (lv_room (Nat.le_of_ble_eq_true rfl)) dX2_planWay_49 ⟨(Nat.le_of_ble_eq_true rfl), (Nat.le_of_ble_eq_true rfl)⟩) hS (fun q _ h => hFc q h) hFc (fun u t H1 locs ht hvm hpo hB hz1 hk1 hS => ?_)
        have hP1 := hB
        rw [ht] at hP1
        have hP : mw (dC, dI) vwCl A (TW cy L tr (V_plan bb v (G_first bb nd to)) z_1 τ) H1 := hP.join (fun _ _ h => h) hk1 hFc hP1 (fun _ _ h => Or.inl h)
        generalize H1 = H at hP hS ⊢
        clear hP1 hk1 hFc
        obtain ⟨b1, eb1⟩ : ∃ z : St, z = V_plan bb v (G_first bb nd to) := ⟨_, rfl⟩
        rw [← eb1] at hP
        refine lv_aload hx hb dX2_planWay_52 (lv_at hl 0 rfl) ?_
        refine va_getN (D := (dC, dI)) (ws := [(L 2 (G_first bb nd to).toNatClampNeg, .inr (1, [.int ((b1 2 ((G_first bb nd to).toNatClampNeg)) 0), .int ((b1 2 ((G_first bb nd to).toNatClampNeg)) 1), .int ((b1 2 ((G_first bb nd to).toNatClampNeg)) 2), .int ((b1 2 ((G_first bb nd to).toNatClampNeg)) 3), .int ((b1 2 ((G_first bb nd to).toNatClampNeg)) 4), .int ((b1 2 ((G_first bb nd to).toNatClampNeg)) 5), .int ((b1 2 ((G_first bb nd to).toNatClampNeg)) 6), .int ((b1 2 ((G_first bb nd to).toNatClampNeg)) 7), .int ((b1 2 ((G_first bb nd to).toNatClampNeg)) 8), .ref (L 3 ((G_first bb nd to).toNatClampNeg)), .ref (L 5 ((G_first bb nd to).toNatClampNeg)), .int ((b1 2 ((G_first bb nd to).toNatClampNeg)) 9), .int ((b1 2 ((G_first bb nd to).toNatClampNeg)) 10), .int ((b1 2 ((G_first bb nd to).toNatClampNeg)) 11), .int ((b1 2 ((G_first bb nd to).toNatClampNeg)) 12), .ref (L 7 ((G_first bb nd to).toNatClampNeg))]))]) (ci := 1) (v := .int ((b1 2 ((G_first bb nd to).toNatClampNeg)) 1)) (C := RX1) (T := TX1) (N := 16) hx hb hts tl_X1 hown hK (hP.one (tw_mem (f := 2) (i := (G_first bb nd to).toNatClampNeg) (m_lt (n := 24) (fun h => c_6 (Or.inl h)) (fun h => c_6 (Or.inr h)) hwb.1.1.2) rfl)) 0 rfl rfl 1 (by decide) (va_Nw.use rfl (te_f3 hE)) (fun _ h9 => h9) rfl dX2_planWay_54 ?_
        refine lv_istore_n (lv' := [(3, .int ((b1 2 ((G_first bb nd to).toNatClampNeg)) 1)), (6, .ref (L 2 (G_first bb nd to).toNatClampNeg)), (5, .int (G_first bb nd to)), (4, .int (nI k)), (0, .ref (L 1 0)), (1, .ref (L 15 v)), (2, .int fr)]) hx hb dX2_planWay_57 rfl hl (by decide) rfl (fun ls hl => ?_)
        refine lv_iinc (v := nI (k + 1)) (lv' := [(4, .int (nI (k + 1))), (3, .int ((b1 2 ((G_first bb nd to).toNatClampNeg)) 1)), (6, .ref (L 2 (G_first bb nd to).toNatClampNeg)), (5, .int (G_first bb nd to)), (0, .ref (L 1 0)), (1, .ref (L 15 v)), (2, .int fr)]) hx hb dX2_planWay_58 hl (k := 3) rfl (nI_1 k) (by decide) rfl (fun ls hl => ?_)
        refine lv_goto (tgt := 5) hx hb dX2_planWay_61 (by decide) ?_
        exact ih (k + 1) (by omega) (b1 2 (G_first bb nd to).toNatClampNeg 1) b1 z_1 (by rw [← hq]; show _ = (if nd = to then (bb, 1) else if G_no bb (G_first bb nd to) then (bb, 0) else _); rw [if_neg c_4, if_neg c_6, eb1]) (by rw [eb1]; exact V_plan_Wf hv hwb) (by rw [eb1, V_plan_15 (by decide)]; exact htb) (by rw [eb1, V_plan_off (by decide) (by decide)]; exact (hwb.2.1 _ (m_lt (n := 24) (fun h => c_6 (Or.inl h)) (fun h => c_6 (Or.inr h)) hwb.1.1.2)).2.1) (by rw [eb1]; exact CV.same (sameR.of (by funext j; rw [V_plan_off (by decide) (by decide)]) (by funext j; rw [V_plan_off (by decide) (by decide)])) (in_le hwb.1.1) f_2) ls (lv_sub hl [0, 1, 4, 5, 6] rfl) H locs hP hS
end
section
/-! what a tick does, in numbers; what keeps within bounds -/
theorem Wf.s4 {M : Nat} {a : St} {i : Nat} {x : Nat → Int32} (h : Wf M a) : Wf M (S2 a 4 i x) := ⟨h.1, h.2.1, h.2.2.1, h.2.2.2.1, h.2.2.2.2⟩
theorem Wf.s6 {M : Nat} {a : St} {i : Nat} {x : Nat → Int32} (h : Wf M a) : Wf M (S2 a 6 i x) := ⟨h.1, h.2.1, h.2.2.1, h.2.2.2.1, h.2.2.2.2⟩
theorem Wf.s7 {M : Nat} {a : St} {i : Nat} {x : Nat → Int32} (h : Wf M a) : Wf M (S2 a 7 i x) := ⟨h.1, h.2.1, h.2.2.1, h.2.2.2.1, h.2.2.2.2⟩
theorem Wf.s9 {M : Nat} {a : St} {i : Nat} {x : Nat → Int32} (h : Wf M a) : Wf M (S2 a 9 i x) := ⟨h.1, h.2.1, h.2.2.1, h.2.2.2.1, h.2.2.2.2⟩
theorem Wf.s10 {M : Nat} {a : St} {i : Nat} {x : Nat → Int32} (h : Wf M a) : Wf M (S2 a 10 i x) := ⟨h.1, h.2.1, h.2.2.1, h.2.2.2.1, h.2.2.2.2⟩
theorem Wf.s11 {M : Nat} {a : St} {i : Nat} {x : Nat → Int32} (h : Wf M a) : Wf M (S2 a 11 i x) := ⟨h.1, h.2.1, h.2.2.1, h.2.2.2.1, h.2.2.2.2⟩
theorem Wf.s13 {M : Nat} {a : St} {i : Nat} {x : Nat → Int32} (h : Wf M a) : Wf M (S2 a 13 i x) := ⟨h.1, h.2.1, h.2.2.1, h.2.2.2.1, h.2.2.2.2⟩
theorem Wf.s16 {M : Nat} {a : St} {i : Nat} {x : Nat → Int32} (h : Wf M a) : Wf M (S2 a 16 i x) := ⟨h.1, h.2.1, h.2.2.1, h.2.2.2.1, h.2.2.2.2⟩
theorem Wf.s30 {M : Nat} {a : St} {i : Nat} {x : Nat → Int32} (h : Wf M a) : Wf M (S2 a 30 i x) := ⟨h.1, h.2.1, h.2.2.1, h.2.2.2.1, h.2.2.2.2⟩
theorem Wf.s2 {M : Nat} {a : St} {i : Nat} {x : Nat → Int32} (h : Wf M a) (h0 : in_ (x 0) 11) (h1 : in_ (x 1) 11) (h4 : (x 4).toInt ≤ 3) (h5 : (x 5).toInt ≤ 3) : Wf M (S2 a 2 i x) := by
  refine ⟨h.1, fun j hj => ?_, h.2.2.1, h.2.2.2.1, h.2.2.2.2⟩
  by_cases hji : j = i
  · subst hji
    obtain ⟨-, -, -, -, g5, g6⟩ := h.2.1 j hj
    unfold Wlink
    simp only [S2_eq]
    exact ⟨h0, h1, h4, h5, g5, g6⟩
  · have h9 := h.2.1 j hj
    unfold Wlink at h9 ⊢
    simp only [S2_ni hji]
    exact h9
theorem Wf.s3 {M : Nat} {a : St} {i : Nat} {x : Nat → Int32} (h : Wf M a) (h0 : in_ (x 0) 30) : Wf M (S2 a 3 i x) := by
  refine ⟨h.1, fun j hj => ?_, h.2.2.1, h.2.2.2.1, h.2.2.2.2⟩
  by_cases hji : j = i
  · subst hji
    obtain ⟨g1, g2, g3, g4, -, g6⟩ := h.2.1 j hj
    unfold Wlink
    simp only [S2_eq]
    exact ⟨g1, g2, g3, g4, h0, g6⟩
  · have h9 := h.2.1 j hj
    unfold Wlink at h9 ⊢
    simp only [S2_ni hji]
    exact h9
theorem Wf.s5 {M : Nat} {a : St} {i : Nat} {x : Nat → Int32} (h : Wf M a) (h0 : in_ (x 0) 30) : Wf M (S2 a 5 i x) := by
  refine ⟨h.1, fun j hj => ?_, h.2.2.1, h.2.2.2.1, h.2.2.2.2⟩
  by_cases hji : j = i
  · subst hji
    obtain ⟨g1, g2, g3, g4, g5, -⟩ := h.2.1 j hj
    unfold Wlink
    simp only [S2_eq]
    exact ⟨g1, g2, g3, g4, g5, h0⟩
  · have h9 := h.2.1 j hj
    unfold Wlink at h9 ⊢
    simp only [S2_ni hji]
    exact h9
theorem Wf.s8 {M : Nat} {a : St} {i : Nat} {x : Nat → Int32} (h : Wf M a) (h0 : in_ (x 0) 4) : Wf M (S2 a 8 i x) := by
  refine ⟨h.1, h.2.1, fun j hj => ?_, h.2.2.2.1, h.2.2.2.2⟩
  by_cases hji : j = i
  · subst hji
    obtain ⟨-, g2⟩ := h.2.2.1 j hj
    unfold Wnode
    simp only [S2_eq]
    exact ⟨h0, g2⟩
  · have h9 := h.2.2.1 j hj
    unfold Wnode at h9 ⊢
    simp only [S2_ni hji]
    exact h9
theorem Wf.s12 {M : Nat} {a : St} {i : Nat} {x : Nat → Int32} (h : Wf M a) (h0 : in_ (x 0) 200) : Wf M (S2 a 12 i x) := by
  refine ⟨h.1, h.2.1, fun j hj => ?_, h.2.2.2.1, h.2.2.2.2⟩
  by_cases hji : j = i
  · subst hji
    obtain ⟨g1, -⟩ := h.2.2.1 j hj
    unfold Wnode
    simp only [S2_eq]
    exact ⟨g1, h0⟩
  · have h9 := h.2.2.1 j hj
    unfold Wnode at h9 ⊢
    simp only [S2_ni hji]
    exact h9
theorem Wf.s14 {M : Nat} {a : St} {i : Nat} {x : Nat → Int32} (h : Wf M a) (h0 : in_ (x 0) 11) (h1 : in_ (x 1) 11) : Wf M (S2 a 14 i x) := by
  refine ⟨h.1, h.2.1, h.2.2.1, fun j hj => ?_, h.2.2.2.2⟩
  by_cases hji : j = i
  · subst hji
    unfold Wflow
    simp only [S2_eq]
    exact ⟨h0, h1⟩
  · have h9 := h.2.2.2.1 j hj
    unfold Wflow at h9 ⊢
    simp only [S2_ni hji]
    exact h9
theorem Wf.s15 {M : Nat} {a : St} {i : Nat} {x : Nat → Int32} (h : Wf M a) (h0 : in_ (x 11) 11) (h1 : in_ (x 1) 11) (h7 : in_ (x 7) M) : Wf M (S2 a 15 i x) := by
  refine ⟨h.1, h.2.1, h.2.2.1, h.2.2.2.1, fun j hj => ?_⟩
  by_cases hji : j = i
  · subst hji
    unfold Wveh
    simp only [S2_eq]
    exact ⟨h0, h1, h7⟩
  · have h9 := h.2.2.2.2 j hj
    unfold Wveh at h9 ⊢
    simp only [S2_ni hji]
    exact h9
theorem Wf.s0 {M : Nat} {a : St} {x : Nat → Int32} (h : Wf M a) (h0 : in_ (x 2) 12) (h1 : in_ (x 3) 10) (h2 : in_ (x 4) 200) : Wf M (S2 a 0 0 x) := ⟨⟨h.1.1, h0, h1, h2⟩, h.2.1, h.2.2.1, h.2.2.2.1, h.2.2.2.2⟩
theorem Wf.s1 {M : Nat} {a : St} {x : Nat → Int32} (h : Wf M a) (h0 : in_ (x 0) 24) : Wf M (S2 a 1 0 x) := ⟨⟨h0, h.1.2⟩, h.2.1, h.2.2.1, h.2.2.2.1, h.2.2.2.2⟩
theorem Wf.mono {M N : Nat} {a : St} (h : Wf M a) (hm : M ≤ N) : Wf N a := ⟨h.1, h.2.1, h.2.2.1, h.2.2.2.1, fun v hv => by
  obtain ⟨h1, h2, h3, h4⟩ := h.2.2.2.2 v hv
  exact ⟨h1, h2, h3, by have : (M : Int) ≤ N := by omega
                        omega⟩⟩
theorem in_pred {x : Int32} {n : Nat} (h : in_ x n) (hx : ¬ x ≤ 0) : in_ (x - 1) n := by
  have h1 := m_pred hx
  have h2 := m_le0 hx
  have h3 := h.2
  exact ⟨by omega, by omega⟩
theorem in_app {x c : Int32} {n : Nat} (h : in_ x n) (hx : ¬ c ≤ x) (hc : c.toInt = n) (hn : n < 1000000) : in_ (x + 1) n := in_succ h (by have := m_ge hx; omega) hn
theorem R_app_Wf3 {M : Nat} {a : St} {i : Nat} {v : Int32} (hi : i < 24) (h : Wf M a) : Wf M (R_app 3 4 30 a i v) := by
  unfold R_app
  split
  · exact h
  · rename_i hc
    exact h.s4.s3 (by rw [upd_eq]; exact in_app (h.2.1 i hi).2.2.2.2.1 hc rfl (by decide))
theorem R_app_Wf5 {M : Nat} {a : St} {i : Nat} {v : Int32} (hi : i < 24) (h : Wf M a) : Wf M (R_app 5 6 30 a i v) := by
  unfold R_app
  split
  · exact h
  · rename_i hc
    exact h.s6.s5 (by rw [upd_eq]; exact in_app (h.2.1 i hi).2.2.2.2.2 hc rfl (by decide))
theorem R_app_Wf12 {M : Nat} {a : St} {i : Nat} {v : Int32} (hi : i < 12) (h : Wf M a) : Wf M (R_app 12 13 200 a i v) := by
  unfold R_app
  split
  · exact h
  · rename_i hc
    exact h.s13.s12 (by rw [upd_eq]; exact in_app (h.2.2.1 i hi).2 hc rfl (by decide))
theorem R_drop_Wf3 {M : Nat} {a : St} {i : Nat} (hi : i < 24) (h : Wf M a) : Wf M (R_drop 3 4 a i) := by
  unfold R_drop
  split
  · exact h
  · rename_i hc
    exact (h.s3 (by rw [upd_eq]; exact in_pred (h.2.1 i hi).2.2.2.2.1 hc)).s4
theorem R_drop_Wf5 {M : Nat} {a : St} {i : Nat} (hi : i < 24) (h : Wf M a) : Wf M (R_drop 5 6 a i) := by
  unfold R_drop
  split
  · exact h
  · rename_i hc
    exact (h.s5 (by rw [upd_eq]; exact in_pred (h.2.1 i hi).2.2.2.2.2 hc)).s6
theorem R_drop_Wf12 {M : Nat} {a : St} {i : Nat} (hi : i < 12) (h : Wf M a) : Wf M (R_drop 12 13 a i) := by
  unfold R_drop
  split
  · exact h
  · rename_i hc
    exact (h.s12 (by rw [upd_eq]; exact in_pred (h.2.2.1 i hi).2 hc)).s13
theorem Wf.l2 {M : Nat} {a : St} {i k : Nat} {v : Int32} (hi : i < 24) (h : Wf M a) (hk : k ≠ 0 ∧ k ≠ 1 ∧ k ≠ 4 ∧ k ≠ 5) : Wf M (S2 a 2 i (upd (a 2 i) k v)) := by
  obtain ⟨h0, h1, h4, h5, -⟩ := h.2.1 i hi
  obtain ⟨k0, k1, k4, k5⟩ := hk
  exact h.s2 (by rw [upd_ne k0.symm]; exact h0) (by rw [upd_ne k1.symm]; exact h1) (by rw [upd_ne k4.symm]; exact h4) (by rw [upd_ne k5.symm]; exact h5)
theorem L_take_Wf {M : Nat} {a : St} {i : Nat} {v e : Int32} (hi : i < 24) (h : Wf M a) : Wf M (L_take a i v e) := (R_app_Wf5 hi (R_app_Wf3 hi h)).l2 hi (by decide)
theorem L_go_Wf {M : Nat} {a : St} {i : Nat} (hi : i < 24) (h : Wf M a) : Wf M (L_go a i) := (R_drop_Wf5 hi (R_drop_Wf3 hi h)).l2 hi (by decide)
theorem L_turn_Wf {M : Nat} {a : St} {i : Nat} {n : Int32} (h : Wf M a) : Wf M (L_turn a i n) := by
  unfold L_turn
  split
  · exact h
  · split
    · exact h
    · exact h.s7
theorem L_slow_Wf {M : Nat} {a : St} {i : Nat} (hi : i < 24) (h : Wf M a) : Wf M (L_slow a i) := by
  obtain ⟨h0, h1, h4, h5, -⟩ := h.2.1 i hi
  unfold L_slow X_slow
  split
  · split
    · exact h.s2 h0 h1 h4 h4
    · exact h.s2 h0 h1 h4 h5
  · exact h.s2 h0 h1 h4 h5
theorem L_reck_Wf {M : Nat} {a : St} {i : Nat} {tk : Int32} (hi : i < 24) (h : Wf M a) : Wf M (L_reck tk i a) := h.l2 hi (by decide)
theorem L_cq_Wf {M : Nat} {a : St} {i : Nat} {tk : Int32} (hi : i < 24) (h : Wf M a) : Wf M (L_cq a i tk) := by
  obtain ⟨h0, h1, h4, h5, -⟩ := h.2.1 i hi
  exact h.s2 h0 h1 h4 h5
theorem G_slow_Wf {M : Nat} {a : St} (h : Wf M a) : Wf M (G_slow a) := itN_keepB (N := nL a) h (fun i _ hi hb => L_slow_Wf (Nat.lt_of_lt_of_le hi (in_le h.1.1)) hb) _ (Nat.le_refl _)
theorem G_reck_Wf {M : Nat} {a : St} {tk : Int32} (h : Wf M a) : Wf M (G_reck a tk) := itN_keepB (N := nL a) h (fun i _ hi hb => L_reck_Wf (Nat.lt_of_lt_of_le hi (in_le h.1.1)) hb) _ (Nat.le_refl _)
theorem G_cq_Wf {M : Nat} {a : St} {tk : Int32} (h : Wf M a) : Wf M (G_cq a tk) := itN_keepB (N := nL a) h (fun i _ hi hb => L_cq_Wf (Nat.lt_of_lt_of_le hi (in_le h.1.1)) hb) _ (Nat.le_refl _)
theorem G_slow_off {a : St} {g j : Nat} (hg : g ≠ 2) : G_slow a g j = a g j := itN_keep (P := fun b => b g j = a g j) rfl (fun i b h => by rw [L_slow_off hg]; exact h) _
theorem G_reck_off {a : St} {tk : Int32} {g j : Nat} (hg : g ≠ 2) : G_reck a tk g j = a g j := itN_keep (P := fun b => b g j = a g j) rfl (fun i b h => by rw [L_reck_off hg]; exact h) _
theorem G_cq_off {a : St} {tk : Int32} {g j : Nat} (hg : g ≠ 2) : G_cq a tk g j = a g j := itN_keep (P := fun b => b g j = a g j) rfl (fun i b h => by rw [L_cq_off hg]; exact h) _
/-- a link's cell changed, but not what ways are reckoned of -/
theorem sameR.l2 {a : St} {i : Nat} {x : Nat → Int32} (h0 : x 0 = a 2 i 0) (h1 : x 1 = a 2 i 1) (h7 : x 7 = a 2 i 7) (h8 : x 8 = a 2 i 8) : sameR a (S2 a 2 i x) := ⟨by rw [S2_nf (by decide)], fun j _ => by
  by_cases hj : j = i
  · subst hj
    rw [S2_eq]
    exact ⟨h0.symm, h1.symm, h7.symm, h8.symm⟩
  · rw [S2_ni hj]
    exact ⟨rfl, rfl, rfl, rfl⟩⟩
theorem sameR.off {a : St} {f i : Nat} {x : Nat → Int32} (h1 : f ≠ 1) (h2 : f ≠ 2) : sameR a (S2 a f i x) := sameR.of (by funext j; rw [S2_nf h1.symm]) (by funext j; rw [S2_nf h2.symm])
theorem L_slow_sameR {a : St} {i : Nat} : sameR a (L_slow a i) := by
  unfold L_slow X_slow
  split
  · split <;> exact sameR.l2 rfl rfl rfl rfl
  · exact sameR.l2 rfl rfl rfl rfl
theorem L_cq_sameR {a : St} {i : Nat} {tk : Int32} : sameR a (L_cq a i tk) := sameR.l2 rfl rfl rfl rfl
theorem G_slow_sameR {a : St} : sameR a (G_slow a) := itN_keep (P := fun b => sameR a b) (sameR.refl a) (fun _ _ h => h.trans L_slow_sameR) _
theorem G_cq_sameR {a : St} {tk : Int32} : sameR a (G_cq a tk) := itN_keep (P := fun b => sameR a b) (sameR.refl a) (fun _ _ h => h.trans L_cq_sameR) _
theorem R_app_sameR {f g : Nat} {c : Int32} {a : St} {i : Nat} {v : Int32} (h1 : 1 ≠ f) (h2 : 1 ≠ g) (h3 : 2 ≠ f) (h4 : 2 ≠ g) : sameR a (R_app f g c a i v) := sameR.of (by funext j; rw [R_app_off h1 h2]) (by funext j; rw [R_app_off h3 h4])
theorem R_drop_sameR {f g : Nat} {a : St} {i : Nat} (h1 : 1 ≠ f) (h2 : 1 ≠ g) (h3 : 2 ≠ f) (h4 : 2 ≠ g) : sameR a (R_drop f g a i) := sameR.of (by funext j; rw [R_drop_off h1 h2]) (by funext j; rw [R_drop_off h3 h4])
theorem L_take_sameR {a : St} {i : Nat} {v e : Int32} : sameR a (L_take a i v e) := ((R_app_sameR (by decide) (by decide) (by decide) (by decide)).trans (R_app_sameR (by decide) (by decide) (by decide) (by decide))).trans (sameR.l2 rfl rfl rfl rfl)
theorem L_go_sameR {a : St} {i : Nat} : sameR a (L_go a i) := ((R_drop_sameR (by decide) (by decide) (by decide) (by decide)).trans (R_drop_sameR (by decide) (by decide) (by decide) (by decide))).trans (sameR.l2 rfl rfl rfl rfl)
theorem L_turn_sameR {a : St} {i : Nat} {n : Int32} : sameR a (L_turn a i n) := by
  unfold L_turn
  split
  · exact sameR.refl a
  · split
    · exact sameR.refl a
    · exact sameR.off (by decide) (by decide)
/-- the links that a vehicle went over, told beside the heap in family 30; kept in words, twelve to a word, five bits each -/
def TRg (gn : Nat → Nat) (lk : Nat → Nat → Nat) (τ : Tau) : Prop := ∀ v, v < 200 → 1 ≤ τ.2.2.1 v ∧ τ.2.2.1 v ≤ 2 * (gn v / 12) + 1 ∧ gn v ≤ 12 * τ.2.2.1 v ∧ ∀ j, j < τ.2.2.1 v → ∃ W : Nat, τ.2.2.2 v j = lN W ∧ W < 32 ^ (min 12 (gn v - 12 * j)) ∧ ∀ p, p < 12 → 12 * j + p < gn v → W / 32 ^ p % 32 = lk v (12 * j + p)
def TRab (tr : Option Nat) (a : St) (τ : Tau) : Prop := tr ≠ none → (∀ v, v < 200 → (a 0 0 4).toNatClampNeg ≤ v → a 15 v 7 = 0) ∧ TRg (fun v => (a 15 v 7).toNatClampNeg) (fun v j => (a 30 v j).toNatClampNeg) τ
def sameT (a b : St) : Prop := (∀ v, a 15 v 7 = b 15 v 7) ∧ a 30 = b 30 ∧ (a 0 0 4).toNatClampNeg ≤ (b 0 0 4).toNatClampNeg
theorem TRab.same {tr : Option Nat} {a b : St} {τ : Tau} (h : sameT a b) (ht : TRab tr a τ) : TRab tr b τ := fun hn => by
  obtain ⟨h0, h1⟩ := ht hn
  have e1 : (fun v => (a 15 v 7).toNatClampNeg) = fun v => (b 15 v 7).toNatClampNeg := by funext v; rw [h.1 v]
  have e2 : (fun v j => (a 30 v j).toNatClampNeg) = fun v j => (b 30 v j).toNatClampNeg := by rw [h.2.1]
  rw [e1, e2] at h1
  exact ⟨fun v hv hl => by rw [← h.1 v]; exact h0 v hv (Nat.le_trans h.2.2 hl), h1⟩
theorem sameT.of {a b : St} (h1 : a 15 = b 15) (h2 : a 30 = b 30) (h3 : a 0 0 4 = b 0 0 4) : sameT a b := ⟨fun v => by rw [h1], h2, by rw [h3]; exact Nat.le_refl _⟩
theorem sameT.trans {a b c : St} (h : sameT a b) (g : sameT b c) : sameT a c := ⟨fun v => (h.1 v).trans (g.1 v), h.2.1.trans g.2.1, Nat.le_trans h.2.2 g.2.2⟩
theorem sameT.refl (a : St) : sameT a a := ⟨fun _ => rfl, rfl, Nat.le_refl _⟩
theorem sameT.off {a : St} {f i : Nat} {x : Nat → Int32} (h1 : f ≠ 15) (h2 : f ≠ 30) (h3 : f ≠ 0) : sameT a (S2 a f i x) := sameT.of (by funext j; rw [S2_nf h1.symm]) (by funext j; rw [S2_nf h2.symm]) (by rw [S2_nf h3.symm])
theorem sameT.z0 {a : St} {x : Nat → Int32} (h : x 4 = a 0 0 4) : sameT a (S2 a 0 0 x) := sameT.of (by funext j; rw [S2_nf (by decide)]) (by funext j; rw [S2_nf (by decide)]) (by rw [S2_eq, h])
theorem sameT.v15 {a : St} {i : Nat} {x : Nat → Int32} (h : x 7 = a 15 i 7) : sameT a (S2 a 15 i x) := ⟨fun v => by
  by_cases hv : v = i
  · subst hv
    rw [S2_eq, h]
  · rw [S2_ni hv], by funext j; rw [S2_nf (by decide)], by rw [S2_nf (by decide)]; exact Nat.le_refl _⟩
/-- all that stands hidden: ways reckoned, trails -/
def Hid (L : Lay) (tr : Option Nat) (a : St) (κ : Kap) (τ : Tau) : Prop := TL L tr τ ∧ CV a κ ∧ TRab tr a τ
theorem Hid.same {L : Lay} {tr : Option Nat} {a b : St} {κ : Kap} {τ : Tau} {M : Nat} (hw : Wf M a) (h : sameR a b) (g : sameT a b) (hh : Hid L tr a κ τ) : Hid L tr b κ τ := ⟨hh.1, CV.same h (in_le hw.1.1) hh.2.1, hh.2.2.same g⟩
def cT (tr : Option Nat) : Nat := match tr with | none => 0 | some _ => 1
/-- what a trail's row may cost -/
def pB (tr : Option Nat) (B : Nat) : Nat := cT tr * (2 * (B / 12) + 1)
/-- Traffic.find -/
abbrev T_no (a : St) (n : Int32) : Prop := n < 0 ∨ a 0 0 4 ≤ n
def T_next (a : St) (v : Nat) (nd : Int32) : Int32 := if a 15 v 2 = 0 then V_next a v else G_first a nd (a 15 v 1)
def T_on1 (a : St) (v : Nat) (nx : Int32) : St := V_onto a v nx (a 2 nx.toNatClampNeg 2) (a 0 0 0)
def T_on2 (b : St) (v : Nat) (vn nx : Int32) : St := L_take b nx.toNatClampNeg vn (b 15 v 6)
def T_on3 (b : St) (v : Nat) (nx : Int32) : St := S2 b 30 v (upd (b 30 v) ((b 15 v 7).toNatClampNeg - 1) nx)
/-- a vehicle comes onto a link -/
def T_onto (a : St) (v : Nat) (vn nx : Int32) : St := T_on3 (T_on2 (T_on1 a v nx) v vn nx) v nx
def T_comes (a : St) (v : Nat) (vn nx : Int32) : St × Int32 := if G_no a nx then (a, 0) else if L_open a nx.toNatClampNeg = 0 then (a, 0) else (T_onto a v vn nx, 1)
def T_arr1 (b : St) : St := S2 b 0 0 (upd (b 0 0) 5 (b 0 0 5 - 1))
def T_arr2 (b : St) (v : Nat) : St := if b 15 v 0 < 0 then b else if b 0 0 3 ≤ b 15 v 0 then b else F_trip b (b 15 v 0).toNatClampNeg (b 15 v 9) (b 15 v 10)
def T_arrive (a : St) (v : Nat) : St := T_arr2 (T_arr1 (V_arr a v (a 0 0 0))) v
/-- the first vehicle of a link goes on -/
def T_firstV (a : St) (l v : Nat) (n : Int32) : St × Int32 :=
  if L_has a l (a 0 0 0) = 0 then (a, 0)
  else if a 15 v 1 = a 2 l 1 then (L_go (T_arrive a v) l, 1)
  else if (T_comes a v n (T_next a v (a 2 l 1))).2 = 0 then ((T_comes a v n (T_next a v (a 2 l 1))).1, 0)
  else (L_go (L_turn (T_comes a v n (T_next a v (a 2 l 1))).1 l (T_next a v (a 2 l 1))) l, 1)
def T_first (a : St) (l : Nat) : St × Int32 := if T_no a (R_get (a 3 l 0) (a 4 l) 0) then (a, 0) else T_firstV a l (R_get (a 3 l 0) (a 4 l) 0).toNatClampNeg (R_get (a 3 l 0) (a 4 l) 0)
def T_many (l : Nat) : Nat → St → St
  | 0, a => a
  | d + 1, a => if (T_first a l).2 = 0 then (T_first a l).1 else T_many l d (T_first a l).1
def T_nodeV (a : St) (n v : Nat) (vn : Int32) : St := if (T_comes a v vn (T_next a v (nI n))).2 = 0 then (T_comes a v vn (T_next a v (nI n))).1 else R_drop 12 13 (T_comes a v vn (T_next a v (nI n))).1 n
def T_node (n : Nat) (a : St) : St := if T_no a (R_get (a 12 n 0) (a 13 n) 0) then a else T_nodeV a n (R_get (a 12 n 0) (a 13 n) 0).toNatClampNeg (R_get (a 12 n 0) (a 13 n) 0)
abbrev nN (a : St) : Nat := (a 0 0 2).toNatClampNeg
abbrev nFl (a : St) : Nat := (a 0 0 3).toNatClampNeg
def T_nodes (a : St) : St := itN T_node (nN a) a
/-- the links, one after the other -/
def T_lnum (fst n : Int32) (i : Nat) : Int32 := if n ≤ fst + nI i then fst + nI i - n else fst + nI i
def T_most (a : St) (l : Nat) : Int32 := if S_green a (a 2 l 1).toNatClampNeg (nI l) = 0 then 0 else a 2 l 5
def T_link (fst n : Int32) (i : Nat) (a : St) : St := T_many (T_lnum fst n i).toNatClampNeg (T_most a (T_lnum fst n i).toNatClampNeg).toNatClampNeg a
def fmod (x y : Int32) : Int32 := if 0 ≤ x ^^^ y then x - x / y * y else if x - x / y * y = 0 then x - x / y * y else x - x / y * y + y
def T_links (a : St) : St := if 1 ≤ a 1 0 0 then itN (T_link (fmod (a 0 0 0) (a 1 0 0)) (a 1 0 0)) (nL a) a else a
def T_sig (tk : Int32) (n : Nat) (a : St) : St := if a 8 n 0 ≤ 0 then a else S_play a n (G_any a tk (S_links a n) (nL a) 0)
def T_sigs (a : St) : St := itN (T_sig (a 0 0 0)) (nN a) a
/-- a vehicle comes -/
def T_br1 (a : St) (f : Nat) : St := V_come a (a 0 0 4).toNatClampNeg (nI f) (a 14 f 1) (a 14 f 2) (a 0 0 0)
def T_br2 (b : St) (f : Nat) : St := S2 b 14 f (upd (b 14 f) 6 (b 14 f 6 + 1))
def T_wait (b : St) (f : Nat) : St := R_app 12 13 200 b (b 14 f 0).toNatClampNeg (b 0 0 4)
def T_under (b : St) : St := S2 b 0 0 (upd (b 0 0) 5 (b 0 0 5 + 1))
def T_given (b : St) (v f : Nat) : St := S2 (S2 b 15 v (upd (b 15 v) 3 3)) 14 f (upd (b 14 f) 8 (b 14 f 8 + 1))
def T_cnt (b : St) : St := S2 b 0 0 (upd (b 0 0) 4 (b 0 0 4 + 1))
def T_br3 (b : St) (v f : Nat) : St :=
  if b 14 f 2 = 0 then
    if (P_way v (b 15 v 1) 12 (b 14 f 0) b).2 = 0 then T_given (P_way v (b 15 v 1) 12 (b 14 f 0) b).1 v f
    else T_under (T_wait (P_way v (b 15 v 1) 12 (b 14 f 0) b).1 f)
  else T_under (T_wait b f)
def T_bring (a : St) (f : Nat) : St := T_cnt (T_br3 (T_br2 (T_br1 a f) f) (a 0 0 4).toNatClampNeg f)
def T_flow (f : Nat) (a : St) : St := if F_brings (a 14 f) (a 0 0 0) = 0 then a else if 200 ≤ a 0 0 4 then a else T_bring a f
def T_flows (a : St) : St := itN T_flow (nFl a) a
def T_costs (a : St) : St := if a 0 0 1 ≤ 0 then a else if a 0 0 0 - a 0 0 0 / a 0 0 1 * a 0 0 1 = 0 then G_reck a (a 0 0 0) else a
def T_clock (b : St) : St := S2 b 0 0 (upd (b 0 0) 0 (b 0 0 0 + 1))
def T_play (b : St) : St := T_nodes (T_links (T_sigs (T_flows b)))
def T_tick (a : St) : St := T_clock (G_cq (T_play (T_costs (G_slow a))) ((T_play (T_costs (G_slow a))) 0 0 0))

theorem S_next_off {b : St} {n g j : Nat} (h : g ≠ 8) : S_next b n g j = b g j := S2_nf h
theorem S_play_off {a : St} {n : Nat} {x : Int32} {g j : Nat} (h : g ≠ 8) : S_play a n x g j = a g j := by
  have h1 : S_tick a n g j = a g j := S2_nf h
  unfold S_play S_play1
  split
  · rw [S_next_off h, h1]
  · split
    · rw [S_next_off h, h1]
    · split
      · exact h1
      · split
        · rw [S_next_off h, h1]
        · exact h1
theorem T_sig_off {tk : Int32} {n : Nat} {a : St} {g : Nat} (h : g ≠ 8) : T_sig tk n a g = a g := by
  unfold T_sig
  split
  · rfl
  · funext j
    rw [S_play_off h]
theorem S_play_Wf {M : Nat} {a : St} {n : Nat} {x : Int32} (hn : n < 12) (h : Wf M a) : Wf M (S_play a n x) := by
  have h1 : Wf M (S_tick a n) := h.s8 (h.2.2.1 n hn).1
  have h2 : Wf M (S_next (S_tick a n) n) := h1.s8 (h1.2.2.1 n hn).1
  unfold S_play S_play1
  split
  · exact h2
  · split
    · exact h2
    · split
      · exact h1
      · split
        · exact h2
        · exact h1
theorem T_sig_Wf {M : Nat} {tk : Int32} {n : Nat} {a : St} (hn : n < 12) (h : Wf M a) : Wf M (T_sig tk n a) := by
  unfold T_sig
  split
  · exact h
  · exact S_play_Wf hn h
theorem T_sigs_Wf {M : Nat} {a : St} (h : Wf M a) : Wf M (T_sigs a) := itN_keepB (N := nN a) h (fun _ _ hj hb => T_sig_Wf (Nat.lt_of_lt_of_le hj (in_le h.1.2.1)) hb) _ (Nat.le_refl _)
theorem T_sigs_off {a : St} {g : Nat} (hg : g ≠ 8) : T_sigs a g = a g := itN_keep (P := fun b => b g = a g) rfl (fun _ _ h => by rw [T_sig_off hg]; exact h) _

theorem V_come_Wf {M : Nat} {a : St} {v : Nat} {fl to k t : Int32} (h : Wf M a) (ht : in_ to 11) : Wf M (V_come a v fl to k t) := h.s15 (x := X_come (a 15 v) fl to k t) (show in_ 0 11 from ⟨by decide, by decide⟩) ht (show in_ 0 M from ⟨by decide, by show (0 : Int) ≤ M; omega⟩)
theorem T_br1_Wf {M : Nat} {a : St} {f : Nat} (hf : f < 10) (h : Wf M a) : Wf M (T_br1 a f) := V_come_Wf h (h.2.2.2.1 f hf).2
theorem T_br2_Wf {M : Nat} {a : St} {f : Nat} (hf : f < 10) (h : Wf M a) : Wf M (T_br2 a f) := h.s14 (h.2.2.2.1 f hf).1 (h.2.2.2.1 f hf).2
theorem P_way_Wf {M : Nat} {v : Nat} {to : Int32} (hv : v < 200) : ∀ (d : Nat) (nd : Int32) (b : St), Wf M b → Wf M (P_way v to d nd b).1
  | 0, _, _, h => h
  | d + 1, nd, b, h => by
    unfold P_way
    split
    · exact h
    · split
      · exact h
      · exact P_way_Wf hv d _ _ (V_plan_Wf hv h)
theorem P_way_off {v : Nat} {to : Int32} {g : Nat} (h1 : g ≠ 15) (h2 : g ≠ 16) : ∀ (d : Nat) (nd : Int32) (b : St) (j : Nat), (P_way v to d nd b).1 g j = b g j
  | 0, _, _, _ => rfl
  | d + 1, nd, b, j => by
    unfold P_way
    split
    · rfl
    · split
      · rfl
      · rw [P_way_off h1 h2 d, V_plan_off h1 h2]
theorem P_way_15 {v : Nat} {to : Int32} {w k : Nat} (h : k ≠ 11) : ∀ (d : Nat) (nd : Int32) (b : St), (P_way v to d nd b).1 15 w k = b 15 w k
  | 0, _, _ => rfl
  | d + 1, nd, b => by
    unfold P_way
    split
    · rfl
    · split
      · rfl
      · rw [P_way_15 h d, V_plan_15 h]
theorem T_given_Wf {M : Nat} {b : St} {v f : Nat} (hv : v < 200) (hf : f < 10) (h : Wf M b) : Wf M (T_given b v f) := by
  obtain ⟨h1, h2, h3⟩ := h.2.2.2.2 v hv
  exact (h.s15 (i := v) (x := upd (b 15 v) 3 3) h1 h2 h3).s14 (h.2.2.2.1 f hf).1 (h.2.2.2.1 f hf).2
theorem T_under_Wf {M : Nat} {b : St} (h : Wf M b) : Wf M (T_under b) := h.s0 h.1.2.1 h.1.2.2.1 h.1.2.2.2
theorem T_wait_Wf {M : Nat} {b : St} {f : Nat} (hf : f < 10) (h : Wf M b) : Wf M (T_wait b f) := R_app_Wf12 (in_lt (h.2.2.2.1 f hf).1) h
theorem T_br3_Wf {M : Nat} {b : St} {v f : Nat} (hv : v < 200) (hf : f < 10) (h : Wf M b) : Wf M (T_br3 b v f) := by
  unfold T_br3
  split
  · split
    · exact T_given_Wf hv hf (P_way_Wf hv _ _ _ h)
    · exact T_under_Wf (T_wait_Wf hf (P_way_Wf hv _ _ _ h))
  · exact T_under_Wf (T_wait_Wf hf h)
theorem T_wait_off {b : St} {f g j : Nat} (h1 : g ≠ 12) (h2 : g ≠ 13) : T_wait b f g j = b g j := R_app_off h1 h2
theorem T_br3_00 {b : St} {v f k : Nat} (hk : k ≠ 5) : T_br3 b v f 0 0 k = b 0 0 k := by
  unfold T_br3
  split
  · split
    · unfold T_given
      rw [S2_nf (by decide), S2_nf (by decide), P_way_off (by decide) (by decide)]
    · unfold T_under
      rw [S2_eq, upd_ne hk, T_wait_off (by decide) (by decide), P_way_off (by decide) (by decide)]
  · unfold T_under
    rw [S2_eq, upd_ne hk, T_wait_off (by decide) (by decide)]
theorem T_br12_00 {a : St} {f k : Nat} : T_br2 (T_br1 a f) f 0 0 k = a 0 0 k := by
  unfold T_br2 T_br1 V_come
  rw [S2_nf (by decide), S2_nf (by decide)]
theorem T_bring_00 {a : St} {f k : Nat} (h4 : k ≠ 4) (h5 : k ≠ 5) : T_bring a f 0 0 k = a 0 0 k := by
  unfold T_bring T_cnt
  rw [S2_eq, upd_ne h4, T_br3_00 h5, T_br12_00]
theorem T_bring_Wf {M : Nat} {a : St} {f : Nat} (hf : f < 10) (h : Wf M a) (hv : (a 0 0 4).toInt < 200) : Wf M (T_bring a f) := by
  have hv2 : (a 0 0 4).toNatClampNeg < 200 := m_ltI h.1.2.2.2.1 hv
  have h3 : Wf M (T_br3 (T_br2 (T_br1 a f) f) (a 0 0 4).toNatClampNeg f) := T_br3_Wf hv2 hf (T_br2_Wf hf (T_br1_Wf hf h))
  have e4 : T_br3 (T_br2 (T_br1 a f) f) (a 0 0 4).toNatClampNeg f 0 0 4 = a 0 0 4 := by rw [T_br3_00 (by decide), T_br12_00]
  refine h3.s0 h3.1.2.1 h3.1.2.2.1 ?_
  rw [upd_eq, e4]
  exact in_succ h.1.2.2.2 hv (by decide)
theorem T_flow_00 {a : St} {f k : Nat} (h4 : k ≠ 4) (h5 : k ≠ 5) : T_flow f a 0 0 k = a 0 0 k := by
  unfold T_flow
  split
  · rfl
  · split
    · rfl
    · exact T_bring_00 h4 h5
theorem T_flow_Wf {M : Nat} {a : St} {f : Nat} (hf : f < 10) (h : Wf M a) : Wf M (T_flow f a) := by
  unfold T_flow
  split
  · exact h
  · split
    · exact h
    · rename_i hn
      exact T_bring_Wf hf h (m_ge hn)
theorem T_flows_00 {a : St} {k : Nat} (h4 : k ≠ 4) (h5 : k ≠ 5) : T_flows a 0 0 k = a 0 0 k := itN_keep (P := fun b => b 0 0 k = a 0 0 k) rfl (fun _ _ h => by rw [T_flow_00 h4 h5]; exact h) _
theorem T_flows_Wf {M : Nat} {a : St} (h : Wf M a) : Wf M (T_flows a) := itN_keepB (N := nFl a) h (fun _ _ hj hb => T_flow_Wf (Nat.lt_of_lt_of_le hj (in_le h.1.2.2.1)) hb) _ (Nat.le_refl _)
theorem P_way_sameR {v : Nat} {to : Int32} {d : Nat} {nd : Int32} {b : St} : sameR b (P_way v to d nd b).1 := sameR.of (by funext j; rw [P_way_off (by decide) (by decide)]) (by funext j; rw [P_way_off (by decide) (by decide)])
theorem T_br3_sameR {b : St} {v f : Nat} : sameR b (T_br3 b v f) := by
  have hw : ∀ c : St, sameR c (T_under (T_wait c f)) := fun c => (R_app_sameR (by decide) (by decide) (by decide) (by decide)).trans (sameR.off (by decide) (by decide))
  unfold T_br3
  split
  · split
    · exact P_way_sameR.trans ((sameR.off (by decide) (by decide)).trans (sameR.off (by decide) (by decide)))
    · exact P_way_sameR.trans (hw _)
  · exact hw _
theorem T_bring_sameR {a : St} {f : Nat} : sameR a (T_bring a f) := ((sameR.off (by decide) (by decide)).trans (sameR.off (by decide) (by decide))).trans (T_br3_sameR.trans (sameR.off (by decide) (by decide)))
theorem T_flow_sameR {a : St} {f : Nat} : sameR a (T_flow f a) := by
  unfold T_flow
  split
  · exact sameR.refl a
  · split
    · exact sameR.refl a
    · exact T_bring_sameR
theorem T_br3_15 {b : St} {v f w : Nat} : T_br3 b v f 15 w 7 = b 15 w 7 := by
  unfold T_br3 T_given T_under
  split
  · split
    · rw [S2_nf (by decide)]
      by_cases hw : w = v
      · subst hw
        rw [S2_eq, upd_ne (by decide), P_way_15 (by decide)]
      · rw [S2_ni hw, P_way_15 (by decide)]
    · rw [S2_nf (by decide), T_wait_off (by decide) (by decide), P_way_15 (by decide)]
  · rw [S2_nf (by decide), T_wait_off (by decide) (by decide)]
theorem T_br3_30 {b : St} {v f : Nat} : T_br3 b v f 30 = b 30 := by
  funext j
  unfold T_br3 T_given T_under
  split
  · split
    · rw [S2_nf (by decide), S2_nf (by decide), P_way_off (by decide) (by decide)]
    · rw [S2_nf (by decide), T_wait_off (by decide) (by decide), P_way_off (by decide) (by decide)]
  · rw [S2_nf (by decide), T_wait_off (by decide) (by decide)]
/-- a vehicle that comes has gone over no link, as it had not -/
theorem T_bring_TR {tr : Option Nat} {a : St} {f : Nat} {τ : Tau} {M : Nat} (h : Wf M a) (hv : (a 0 0 4).toInt < 200) (ht : TRab tr a τ) : TRab tr (T_bring a f) τ := fun hn => by
  have hv2 : (a 0 0 4).toNatClampNeg < 200 := m_ltI h.1.2.2.2.1 hv
  have e7 : ∀ w, T_bring a f 15 w 7 = a 15 w 7 := fun w => by
    unfold T_bring T_cnt
    rw [S2_nf (by decide), T_br3_15]
    unfold T_br2 T_br1 V_come
    rw [S2_nf (by decide)]
    by_cases hw : w = (a 0 0 4).toNatClampNeg
    · subst hw
      rw [S2_eq]
      exact ((ht hn).1 _ hv2 (Nat.le_refl _)).symm
    · rw [S2_ni hw]
  have e30 : T_bring a f 30 = a 30 := by
    unfold T_bring T_cnt
    funext j
    rw [S2_nf (by decide), T_br3_30]
    unfold T_br2 T_br1 V_come
    rw [S2_nf (by decide), S2_nf (by decide)]
  have e4 : (T_bring a f 0 0 4).toNatClampNeg = (a 0 0 4).toNatClampNeg + 1 := by
    unfold T_bring T_cnt
    rw [S2_eq, upd_eq, T_br3_00 (by decide), T_br12_00]
    have h1 := m_succ h.1.2.2.2 hv (by decide)
    have h2 := m_tn h.1.2.2.2.1
    have h3 := m_tn (v := a 0 0 4 + 1) (by have := h.1.2.2.2.1; omega)
    omega
  exact TRab.same ⟨fun w => (e7 w).symm, e30.symm, by omega⟩ ht hn
theorem T_flow_TR {tr : Option Nat} {a : St} {f : Nat} {τ : Tau} {M : Nat} (h : Wf M a) (ht : TRab tr a τ) : TRab tr (T_flow f a) τ := by
  unfold T_flow
  split
  · exact ht
  · split
    · exact ht
    · rename_i hn
      exact T_bring_TR h (m_ge hn) ht
theorem T_flows_TR {tr : Option Nat} {a : St} {τ : Tau} {M : Nat} (h : Wf M a) (ht : TRab tr a τ) : TRab tr (T_flows a) τ := (itN_keepB (N := nFl a) (P := fun b => Wf M b ∧ TRab tr b τ) ⟨h, ht⟩ (fun _ _ hj hb => ⟨T_flow_Wf (Nat.lt_of_lt_of_le hj (in_le h.1.2.2.1)) hb.1, T_flow_TR hb.1 hb.2⟩) _ (Nat.le_refl _)).2
end
section
theorem tw_893 : Cond.fieldLink RX5 59 "Turnpike$Traffic" "vehicles" "I" ∈ tp_all := tp_mem 893 (by decide +kernel) rfl
theorem tw_881 : Cond.fieldLink RX5 38 "Turnpike$Traffic" "vehicle" "[LTurnpike$Vehicle;" ∈ tp_all := tp_mem 881 (by decide +kernel) rfl
theorem tw_873 : Cond.fieldLink RX5 12 "Turnpike$Traffic" "roads" "LTurnpike$Roads;" ∈ tp_all := tp_mem 873 (by decide +kernel) rfl
theorem tw_302 : Cond.methodLink RX5 212 yX2_firstOfWay ∈ tp_all := tp_mem 302 (by decide +kernel) rfl
theorem tw_301 : Cond.code yX7_nextOfWay cX7_nextOfWay 1 (some .int) ∈ tp_all := tp_mem 301 (by decide +kernel) rfl
theorem tw_298 : Cond.methodLink RX5 209 yX7_nextOfWay ∈ tp_all := tp_mem 298 (by decide +kernel) rfl
theorem tw_299 : Cond.instanceMethod yX7_nextOfWay ∈ tp_all := tp_mem 299 (by decide +kernel) rfl
theorem tw_300 : Cond.selects RX7 yX7_nextOfWay yX7_nextOfWay ∈ tp_all := tp_mem 300 (by decide +kernel) rfl
theorem tw_885 : Cond.fieldLink RX5 65 "Turnpike$Traffic" "clock" "I" ∈ tp_all := tp_mem 885 (by decide +kernel) rfl
theorem tw_286 : Cond.code yX7_arrive cX7_arrive 2 none ∈ tp_all := tp_mem 286 (by decide +kernel) rfl
theorem tw_283 : Cond.methodLink RX5 242 yX7_arrive ∈ tp_all := tp_mem 283 (by decide +kernel) rfl
theorem tw_284 : Cond.instanceMethod yX7_arrive ∈ tp_all := tp_mem 284 (by decide +kernel) rfl
theorem tw_285 : Cond.selects RX7 yX7_arrive yX7_arrive ∈ tp_all := tp_mem 285 (by decide +kernel) rfl
theorem tw_895 : Cond.fieldLink RX5 125 "Turnpike$Traffic" "underWay" "I" ∈ tp_all := tp_mem 895 (by decide +kernel) rfl
theorem tw_891 : Cond.fieldLink RX5 86 "Turnpike$Traffic" "flows" "I" ∈ tp_all := tp_mem 891 (by decide +kernel) rfl
theorem tw_879 : Cond.fieldLink RX5 32 "Turnpike$Traffic" "flow" "[LTurnpike$Flow;" ∈ tp_all := tp_mem 879 (by decide +kernel) rfl
theorem tw_290 : Cond.code yX0_countTrip cX0_countTrip 3 none ∈ tp_all := tp_mem 290 (by decide +kernel) rfl
theorem tw_287 : Cond.methodLink RX5 252 yX0_countTrip ∈ tp_all := tp_mem 287 (by decide +kernel) rfl
theorem tw_288 : Cond.instanceMethod yX0_countTrip ∈ tp_all := tp_mem 288 (by decide +kernel) rfl
theorem tw_289 : Cond.selects RX0 yX0_countTrip yX0_countTrip ∈ tp_all := tp_mem 289 (by decide +kernel) rfl
theorem tw_28 : Cond.initialized RX0 ∈ tp_all := tp_mem 28 (by decide +kernel) rfl
theorem tw_890 : Cond.fieldLink RX5 128 "Turnpike$Traffic" "nodes" "I" ∈ tp_all := tp_mem 890 (by decide +kernel) rfl
theorem tw_875 : Cond.fieldLink RX5 20 "Turnpike$Traffic" "signal" "[LTurnpike$Signal;" ∈ tp_all := tp_mem 875 (by decide +kernel) rfl
theorem tw_236 : Cond.methodLink RX5 134 yX4_linksOn ∈ tp_all := tp_mem 236 (by decide +kernel) rfl
theorem tw_248 : Cond.code yX2_anyHasQueueIn cX2_anyHasQueueIn 4 (some .boolean) ∈ tp_all := tp_mem 248 (by decide +kernel) rfl
theorem tw_245 : Cond.methodLink RX5 138 yX2_anyHasQueueIn ∈ tp_all := tp_mem 245 (by decide +kernel) rfl
theorem tw_246 : Cond.instanceMethod yX2_anyHasQueueIn ∈ tp_all := tp_mem 246 (by decide +kernel) rfl
theorem tw_247 : Cond.selects RX2 yX2_anyHasQueueIn yX2_anyHasQueueIn ∈ tp_all := tp_mem 247 (by decide +kernel) rfl
theorem tw_256 : Cond.code yX4_playTick cX4_playTick 2 none ∈ tp_all := tp_mem 256 (by decide +kernel) rfl
theorem tw_253 : Cond.methodLink RX5 142 yX4_playTick ∈ tp_all := tp_mem 253 (by decide +kernel) rfl
theorem tw_254 : Cond.instanceMethod yX4_playTick ∈ tp_all := tp_mem 254 (by decide +kernel) rfl
theorem tw_255 : Cond.selects RX4 yX4_playTick yX4_playTick ∈ tp_all := tp_mem 255 (by decide +kernel) rfl
theorem te_f48 {U : State} (h : tp_E U) : va_Nw (.fieldLinkNest "Turnpike$Traffic" 208 "Turnpike$Vehicle" "kind" "I" "Turnpike") U := h.1 _ (List.mem_of_getElem? (i := 48) rfl)
theorem te_f46 {U : State} (h : tp_E U) : va_Nw (.fieldLinkNest "Turnpike$Traffic" 186 "Turnpike$Vehicle" "to" "I" "Turnpike") U := h.1 _ (List.mem_of_getElem? (i := 46) rfl)
theorem te_f45 {U : State} (h : tp_E U) : va_Nw (.fieldLinkNest "Turnpike$Traffic" 244 "Turnpike$Vehicle" "flow" "I" "Turnpike") U := h.1 _ (List.mem_of_getElem? (i := 45) rfl)
theorem te_f56 {U : State} (h : tp_E U) : va_Nw (.fieldLinkNest "Turnpike$Traffic" 246 "Turnpike$Vehicle" "trip" "I" "Turnpike") U := h.1 _ (List.mem_of_getElem? (i := 56) rfl)
theorem te_f58 {U : State} (h : tp_E U) : va_Nw (.fieldLinkNest "Turnpike$Traffic" 249 "Turnpike$Vehicle" "delay" "I" "Turnpike") U := h.1 _ (List.mem_of_getElem? (i := 58) rfl)
theorem te_f28 {U : State} (h : tp_E U) : va_Nw (.fieldLinkNest "Turnpike$Traffic" 131 "Turnpike$Signal" "phases" "I" "Turnpike") U := h.1 _ (List.mem_of_getElem? (i := 28) rfl)
theorem dX5_find_0 : decode cX5_find 0 = .ok (.iload_n 1, 1) := by decide +kernel
theorem dX5_find_1 : decode cX5_find 1 = .ok (.ifCond .lt 20, 3) := by decide +kernel
theorem dX5_find_21 : decode cX5_find 21 = .ok (.aconst_null, 1) := by decide +kernel
theorem dX5_find_22 : decode cX5_find 22 = .ok (.areturn, 1) := by decide +kernel
theorem dX5_find_4 : decode cX5_find 4 = .ok (.iload_n 1, 1) := by decide +kernel
theorem dX5_find_5 : decode cX5_find 5 = .ok (.aload_n 0, 1) := by decide +kernel
theorem dX5_find_6 : decode cX5_find 6 = .ok (.getfield 59, 3) := by decide +kernel
theorem dX5_find_9 : decode cX5_find 9 = .ok (.if_icmp .ge 12, 3) := by decide +kernel
theorem dX5_find_12 : decode cX5_find 12 = .ok (.aload_n 0, 1) := by decide +kernel
theorem dX5_find_13 : decode cX5_find 13 = .ok (.getfield 38, 3) := by decide +kernel
theorem dX5_find_16 : decode cX5_find 16 = .ok (.iload_n 1, 1) := by decide +kernel
theorem dX5_find_17 : decode cX5_find 17 = .ok (.aaload, 1) := by decide +kernel
theorem dX5_find_18 : decode cX5_find 18 = .ok (.goto 4, 3) := by decide +kernel
theorem dX5_nextOf_0 : decode cX5_nextOf 0 = .ok (.aload_n 1, 1) := by decide +kernel
theorem dX5_nextOf_1 : decode cX5_nextOf 1 = .ok (.getfield 208, 3) := by decide +kernel
theorem dX5_nextOf_4 : decode cX5_nextOf 4 = .ok (.ifCond .ne 10, 3) := by decide +kernel
theorem dX5_nextOf_14 : decode cX5_nextOf 14 = .ok (.aload_n 0, 1) := by decide +kernel
theorem dX5_nextOf_15 : decode cX5_nextOf 15 = .ok (.getfield 12, 3) := by decide +kernel
theorem dX5_nextOf_18 : decode cX5_nextOf 18 = .ok (.iload_n 2, 1) := by decide +kernel
theorem dX5_nextOf_19 : decode cX5_nextOf 19 = .ok (.aload_n 1, 1) := by decide +kernel
theorem dX5_nextOf_20 : decode cX5_nextOf 20 = .ok (.getfield 186, 3) := by decide +kernel
theorem dX5_nextOf_23 : decode cX5_nextOf 23 = .ok (.invokevirtual 212, 3) := by decide +kernel
theorem dX5_nextOf_26 : decode cX5_nextOf 26 = .ok (.ireturn, 1) := by decide +kernel
theorem dX5_nextOf_7 : decode cX5_nextOf 7 = .ok (.aload_n 1, 1) := by decide +kernel
theorem dX5_nextOf_8 : decode cX5_nextOf 8 = .ok (.invokevirtual 209, 3) := by decide +kernel
theorem dX5_nextOf_11 : decode cX5_nextOf 11 = .ok (.goto 15, 3) := by decide +kernel
theorem dX5_arrive_0 : decode cX5_arrive 0 = .ok (.aload_n 1, 1) := by decide +kernel
theorem dX5_arrive_1 : decode cX5_arrive 1 = .ok (.aload_n 0, 1) := by decide +kernel
theorem dX5_arrive_2 : decode cX5_arrive 2 = .ok (.getfield 65, 3) := by decide +kernel
theorem dX5_arrive_5 : decode cX5_arrive 5 = .ok (.invokevirtual 242, 3) := by decide +kernel
theorem dX5_arrive_8 : decode cX5_arrive 8 = .ok (.aload_n 0, 1) := by decide +kernel
theorem dX5_arrive_9 : decode cX5_arrive 9 = .ok (.dup, 1) := by decide +kernel
theorem dX5_arrive_10 : decode cX5_arrive 10 = .ok (.getfield 125, 3) := by decide +kernel
theorem dX5_arrive_13 : decode cX5_arrive 13 = .ok (.iconst 1, 1) := by decide +kernel
theorem dX5_arrive_14 : decode cX5_arrive 14 = .ok (.isub, 1) := by decide +kernel
theorem dX5_arrive_15 : decode cX5_arrive 15 = .ok (.putfield 125, 3) := by decide +kernel
theorem dX5_arrive_18 : decode cX5_arrive 18 = .ok (.aload_n 1, 1) := by decide +kernel
theorem dX5_arrive_19 : decode cX5_arrive 19 = .ok (.getfield 244, 3) := by decide +kernel
theorem dX5_arrive_22 : decode cX5_arrive 22 = .ok (.ifCond .lt 34, 3) := by decide +kernel
theorem dX5_arrive_56 : decode cX5_arrive 56 = .ok (.return_, 1) := by decide +kernel
theorem dX5_arrive_25 : decode cX5_arrive 25 = .ok (.aload_n 1, 1) := by decide +kernel
theorem dX5_arrive_26 : decode cX5_arrive 26 = .ok (.getfield 244, 3) := by decide +kernel
theorem dX5_arrive_29 : decode cX5_arrive 29 = .ok (.aload_n 0, 1) := by decide +kernel
theorem dX5_arrive_30 : decode cX5_arrive 30 = .ok (.getfield 86, 3) := by decide +kernel
theorem dX5_arrive_33 : decode cX5_arrive 33 = .ok (.if_icmp .ge 23, 3) := by decide +kernel
theorem dX5_arrive_36 : decode cX5_arrive 36 = .ok (.aload_n 0, 1) := by decide +kernel
theorem dX5_arrive_37 : decode cX5_arrive 37 = .ok (.getfield 32, 3) := by decide +kernel
theorem dX5_arrive_40 : decode cX5_arrive 40 = .ok (.aload_n 1, 1) := by decide +kernel
theorem dX5_arrive_41 : decode cX5_arrive 41 = .ok (.getfield 244, 3) := by decide +kernel
theorem dX5_arrive_44 : decode cX5_arrive 44 = .ok (.aaload, 1) := by decide +kernel
theorem dX5_arrive_45 : decode cX5_arrive 45 = .ok (.aload_n 1, 1) := by decide +kernel
theorem dX5_arrive_46 : decode cX5_arrive 46 = .ok (.getfield 246, 3) := by decide +kernel
theorem dX5_arrive_49 : decode cX5_arrive 49 = .ok (.aload_n 1, 1) := by decide +kernel
theorem dX5_arrive_50 : decode cX5_arrive 50 = .ok (.getfield 249, 3) := by decide +kernel
theorem dX5_arrive_53 : decode cX5_arrive 53 = .ok (.invokevirtual 252, 3) := by decide +kernel
theorem dX5_playSignals_0 : decode cX5_playSignals 0 = .ok (.iconst 0, 1) := by decide +kernel
theorem dX5_playSignals_1 : decode cX5_playSignals 1 = .ok (.istore_n 1, 1) := by decide +kernel
theorem dX5_playSignals_2 : decode cX5_playSignals 2 = .ok (.iload_n 1, 1) := by decide +kernel
theorem dX5_playSignals_3 : decode cX5_playSignals 3 = .ok (.aload_n 0, 1) := by decide +kernel
theorem dX5_playSignals_4 : decode cX5_playSignals 4 = .ok (.getfield 128, 3) := by decide +kernel
theorem dX5_playSignals_7 : decode cX5_playSignals 7 = .ok (.if_icmp .ge 50, 3) := by decide +kernel
theorem dX5_playSignals_57 : decode cX5_playSignals 57 = .ok (.return_, 1) := by decide +kernel
theorem dX5_playSignals_10 : decode cX5_playSignals 10 = .ok (.aload_n 0, 1) := by decide +kernel
theorem dX5_playSignals_11 : decode cX5_playSignals 11 = .ok (.getfield 20, 3) := by decide +kernel
theorem dX5_playSignals_14 : decode cX5_playSignals 14 = .ok (.iload_n 1, 1) := by decide +kernel
theorem dX5_playSignals_15 : decode cX5_playSignals 15 = .ok (.aaload, 1) := by decide +kernel
theorem dX5_playSignals_16 : decode cX5_playSignals 16 = .ok (.getfield 131, 3) := by decide +kernel
theorem dX5_playSignals_19 : decode cX5_playSignals 19 = .ok (.ifCond .le 32, 3) := by decide +kernel
theorem dX5_playSignals_51 : decode cX5_playSignals 51 = .ok (.iinc 1 1, 3) := by decide +kernel
theorem dX5_playSignals_54 : decode cX5_playSignals 54 = .ok (.goto (-52), 3) := by decide +kernel
theorem dX5_playSignals_22 : decode cX5_playSignals 22 = .ok (.aload_n 0, 1) := by decide +kernel
theorem dX5_playSignals_23 : decode cX5_playSignals 23 = .ok (.getfield 20, 3) := by decide +kernel
theorem dX5_playSignals_26 : decode cX5_playSignals 26 = .ok (.iload_n 1, 1) := by decide +kernel
theorem dX5_playSignals_27 : decode cX5_playSignals 27 = .ok (.aaload, 1) := by decide +kernel
theorem dX5_playSignals_28 : decode cX5_playSignals 28 = .ok (.aload_n 0, 1) := by decide +kernel
theorem dX5_playSignals_29 : decode cX5_playSignals 29 = .ok (.getfield 12, 3) := by decide +kernel
theorem dX5_playSignals_32 : decode cX5_playSignals 32 = .ok (.aload_n 0, 1) := by decide +kernel
theorem dX5_playSignals_33 : decode cX5_playSignals 33 = .ok (.getfield 65, 3) := by decide +kernel
theorem dX5_playSignals_36 : decode cX5_playSignals 36 = .ok (.aload_n 0, 1) := by decide +kernel
theorem dX5_playSignals_37 : decode cX5_playSignals 37 = .ok (.getfield 20, 3) := by decide +kernel
theorem dX5_playSignals_40 : decode cX5_playSignals 40 = .ok (.iload_n 1, 1) := by decide +kernel
theorem dX5_playSignals_41 : decode cX5_playSignals 41 = .ok (.aaload, 1) := by decide +kernel
theorem dX5_playSignals_42 : decode cX5_playSignals 42 = .ok (.invokevirtual 134, 3) := by decide +kernel
theorem dX5_playSignals_45 : decode cX5_playSignals 45 = .ok (.invokevirtual 138, 3) := by decide +kernel
theorem dX5_playSignals_48 : decode cX5_playSignals 48 = .ok (.invokevirtual 142, 3) := by decide +kernel
set_option maxRecDepth 100000 in
set_option maxHeartbeats 4000000 in
/-- Traffic.find: none -/
theorem c_Traffic_find_none (l : Launch) (dC : Nat → ClassId) (dI : Nat → Nat → Nat) (cy : Nat → ClassId) (L : Lay) (tr : Option Nat) (a : St) (κ : Kap) (τ : Tau) (n : Int32) (sz : Nat) (hT : TL L tr τ) (hf : T_no a n) : Met l yX5_find (tp_w yX5_find cX5_find 2 (some (.object "Turnpike$Vehicle"))) ({ frames := 0, cells := 0, slots := 0, locals := 0 }) (va_Pc [.ref (L 0 0), .int n] (mPre dC dI cy (TW cy L tr a κ τ) sz)) (va_Qq (fun (r u : Option Nat) => r = u) (fun (u : Option Nat) (t : State) => (u = (none : Option Nat)) ∧ mw (dC, dI) vwCl (mA (TW cy L tr a κ τ) sz) (TW cy L tr a κ τ) t.heap) (mA (TW cy L tr a κ τ) sz)) (0) (0) (mA (TW cy L tr a κ τ) sz) := by
  refine Met.ofW (cc := cX5_find) (maxL := 2) (ret := (some (.object "Turnpike$Vehicle"))) (by decide) rfl ?_
  intro p e s m args below meth c s₁ B hml hv
  obtain ⟨rfl, hsz, hP, hK, hE⟩ := hv
  have hx := B.exec
  have hb := B.bytes
  have hr := B.returns
  have hts0 := atoms_spec (ws := tp_w yX5_find cX5_find 2 (some (.object "Turnpike$Vehicle"))) B.pre
  have hts : ∀ w ∈ tp_all, w.before _ s = true := fun w h => hts0 w (List.mem_cons_of_mem _ h)
  have hown : s.vm.findClass RX5 = some m.cls := findClass_of_methodNamed B.named
  have hlocks := B.notSynchronized
  subst hsz
  have hP := hP.self s.heap.size
  generalize hAe : mA (TW cy L tr a κ τ) s.heap.size = A at hP ⊢
  have hA : ∀ q : Nat, s.heap.size ≤ q → A q := fun q h => by rw [← hAe]; exact Or.inr h
  have hS : va_S A s.heap s.heap [] := va_S.rf
  have hl9 := lv_entry ([.ref (L 0 0), .int n]) (n := 2) (Nat.le_of_ble_eq_true rfl)
  rw [lg_entry_eq]
  generalize (lg_sl ([.ref (L 0 0), .int n]) ++ List.replicate (2 - (lg_sl ([.ref (L 0 0), .int n])).length) Slot.unset).toArray = ls at hl9 ⊢
  have hl : lv_has ls 2 [(0, .ref (L 0 0)), (1, .int n)] := hl9
  refine lv_iload_n hx hb dX5_find_0 rfl (lv_at hl 1 rfl) ?_
  refine lv_if_lt (tgt := 21) hx hb dX5_find_1 (by decide) (fun c_1 => ?_) (fun c_1 => ?_)
  · refine lv_null hx hb dX5_find_21 ?_
    refine W.widen (k := 0) (n := 0) (Nat.le_of_ble_eq_true rfl) (Nat.le_of_ble_eq_true rfl) ?_
    have g_1 : none = (none : Option Nat) := by
      first | rfl | assumption | (simp only [if_pos c_1])
    exact W.aret (v := .null) hx hb hr (Or.inl ⟨_, rfl⟩) (Or.inl rfl) (fun t ht hW => ⟨⟨none, none, rfl, rfl, ⟨g_1, by show mw _ _ _ _ t.heap; rw [ht]; exact hP⟩⟩, hS.F ht⟩) hS.2.2 dX5_find_22
  · refine lv_iload_n hx hb dX5_find_4 rfl (lv_at hl 1 rfl) ?_
    refine lv_aload_n hx hb dX5_find_5 rfl (lv_at hl 0 rfl) ?_
    refine va_get (D := (dC, dI)) (ws := [(L 0 0, .inr (5, [.ref (L 1 0), .ref (L 20 0), .ref (L 21 0), .ref (L 22 0), .ref (L 23 0), va_rf tr, .int ((a 0 0) 0), .int ((a 0 0) 1), .int ((a 0 0) 2), .int ((a 0 0) 3), .int ((a 0 0) 4), .int ((a 0 0) 5)]))]) (ci := 5) (v := .int ((a 0 0) 4)) (C := RX5) (T := TX5) (N := 12) hx hb hts tl_X5 hown hK (hP.one (tw_mem (f := 0) (i := 0) (by decide) rfl)) 0 rfl rfl 10 (by decide) (hts _ tw_893) (fun _ h9 => h9) rfl dX5_find_6 ?_
    refine lv_icmp_ge (tgt := 21) hx hb dX5_find_9 (by decide) (fun c_2 => ?_) (fun c_2 => ?_)
    · refine lv_null hx hb dX5_find_21 ?_
      refine W.widen (k := 0) (n := 0) (Nat.le_of_ble_eq_true rfl) (Nat.le_of_ble_eq_true rfl) ?_
      have g_2 : none = (none : Option Nat) := by
        first | rfl | assumption | (simp only [if_neg c_1, if_pos c_2])
      exact W.aret (v := .null) hx hb hr (Or.inl ⟨_, rfl⟩) (Or.inl rfl) (fun t ht hW => ⟨⟨none, none, rfl, rfl, ⟨g_2, by show mw _ _ _ _ t.heap; rw [ht]; exact hP⟩⟩, hS.F ht⟩) hS.2.2 dX5_find_22
    · exact absurd hf (fun h => h.elim c_1 c_2)
set_option maxRecDepth 100000 in
set_option maxHeartbeats 4000000 in
/-- Traffic.find: a vehicle -/
theorem c_Traffic_find_some (l : Launch) (dC : Nat → ClassId) (dI : Nat → Nat → Nat) (cy : Nat → ClassId) (L : Lay) (tr : Option Nat) (a : St) (κ : Kap) (τ : Tau) (M : Nat) (n : Int32) (sz : Nat) (hT : TL L tr τ) (hw : Wf M a) (hf : ¬ T_no a n) : Met l yX5_find (tp_w yX5_find cX5_find 2 (some (.object "Turnpike$Vehicle"))) ({ frames := 0, cells := 0, slots := 0, locals := 0 }) (va_Pc [.ref (L 0 0), .int n] (mPre dC dI cy (TW cy L tr a κ τ) sz)) (va_Qr (fun _ : Unit => True) (fun (_ : Unit) (rv : Nat) (t : State) => (rv = L 15 n.toNatClampNeg) ∧ mw (dC, dI) vwCl (mA (TW cy L tr a κ τ) sz) (TW cy L tr a κ τ) t.heap) (mA (TW cy L tr a κ τ) sz)) (0) (0) (mA (TW cy L tr a κ τ) sz) := by
  refine Met.ofW (cc := cX5_find) (maxL := 2) (ret := (some (.object "Turnpike$Vehicle"))) (by decide) rfl ?_
  intro p e s m args below meth c s₁ B hml hv
  obtain ⟨rfl, hsz, hP, hK, hE⟩ := hv
  have hx := B.exec
  have hb := B.bytes
  have hr := B.returns
  have hts0 := atoms_spec (ws := tp_w yX5_find cX5_find 2 (some (.object "Turnpike$Vehicle"))) B.pre
  have hts : ∀ w ∈ tp_all, w.before _ s = true := fun w h => hts0 w (List.mem_cons_of_mem _ h)
  have hown : s.vm.findClass RX5 = some m.cls := findClass_of_methodNamed B.named
  have hlocks := B.notSynchronized
  subst hsz
  have hP := hP.self s.heap.size
  generalize hAe : mA (TW cy L tr a κ τ) s.heap.size = A at hP ⊢
  have hA : ∀ q : Nat, s.heap.size ≤ q → A q := fun q h => by rw [← hAe]; exact Or.inr h
  have hS : va_S A s.heap s.heap [] := va_S.rf
  have hl9 := lv_entry ([.ref (L 0 0), .int n]) (n := 2) (Nat.le_of_ble_eq_true rfl)
  rw [lg_entry_eq]
  generalize (lg_sl ([.ref (L 0 0), .int n]) ++ List.replicate (2 - (lg_sl ([.ref (L 0 0), .int n])).length) Slot.unset).toArray = ls at hl9 ⊢
  have hl : lv_has ls 2 [(0, .ref (L 0 0)), (1, .int n)] := hl9
  refine lv_iload_n hx hb dX5_find_0 rfl (lv_at hl 1 rfl) ?_
  refine lv_if_lt (tgt := 21) hx hb dX5_find_1 (by decide) (fun c_1 => absurd c_1 (fun h => hf (Or.inl h))) (fun _ => ?_)
  refine lv_iload_n hx hb dX5_find_4 rfl (lv_at hl 1 rfl) ?_
  refine lv_aload_n hx hb dX5_find_5 rfl (lv_at hl 0 rfl) ?_
  refine va_get (D := (dC, dI)) (ws := [(L 0 0, .inr (5, [.ref (L 1 0), .ref (L 20 0), .ref (L 21 0), .ref (L 22 0), .ref (L 23 0), va_rf tr, .int ((a 0 0) 0), .int ((a 0 0) 1), .int ((a 0 0) 2), .int ((a 0 0) 3), .int ((a 0 0) 4), .int ((a 0 0) 5)]))]) (ci := 5) (v := .int ((a 0 0) 4)) (C := RX5) (T := TX5) (N := 12) hx hb hts tl_X5 hown hK (hP.one (tw_mem (f := 0) (i := 0) (by decide) rfl)) 0 rfl rfl 10 (by decide) (hts _ tw_893) (fun _ h9 => h9) rfl dX5_find_6 ?_
  refine lv_icmp_ge (tgt := 21) hx hb dX5_find_9 (by decide) (fun c_2 => absurd c_2 (fun h => hf (Or.inr h))) (fun _ => ?_)
  refine lv_aload_n hx hb dX5_find_12 rfl (lv_at hl 0 rfl) ?_
  refine va_get (D := (dC, dI)) (ws := [(L 0 0, .inr (5, [.ref (L 1 0), .ref (L 20 0), .ref (L 21 0), .ref (L 22 0), .ref (L 23 0), va_rf tr, .int ((a 0 0) 0), .int ((a 0 0) 1), .int ((a 0 0) 2), .int ((a 0 0) 3), .int ((a 0 0) 4), .int ((a 0 0) 5)]))]) (ci := 5) (v := .ref (L 23 0)) (C := RX5) (T := TX5) (N := 12) hx hb hts tl_X5 hown hK (hP.one (tw_mem (f := 0) (i := 0) (by decide) rfl)) 0 rfl rfl 4 (by decide) (hts _ tw_881) (fun _ h9 => h9) rfl dX5_find_13 ?_
  refine lv_iload_n hx hb dX5_find_16 rfl (lv_at hl 1 rfl) ?_
  have j_1 : (n : Int32).toNatClampNeg = n.toNatClampNeg := m_cl (m_nI (fun h => hf (Or.inl h))) (m_lt (n := 200) (fun h => hf (Or.inl h)) (fun h => hf (Or.inr h)) hw.1.2.2.2.2) (by decide)
  refine va_aldq hx hb hK (ws := [(L 23 0, .inl (cy 7, 200, .inr (.inr (.inr (.inr (fun j => some (L 15 j)))))))]) (hP.one (tw_mem (f := 23) (i := 0) (by decide) rfl)) 0 7 rfl rfl (m_in (m_nI (fun h => hf (Or.inl h))) (m_lt (n := 200) (fun h => hf (Or.inl h)) (fun h => hf (Or.inr h)) hw.1.2.2.2.2) (by decide)) dX5_find_17 ?_
  refine W.eq (g2 := F0 m 18 ls [.ref (L 15 n.toNatClampNeg)]) (by first | (rw [j_1]; done) | (rw [j_1]; rfl)) ?_
  refine lv_goto (tgt := 22) hx hb dX5_find_18 (by decide) ?_
  refine W.widen (k := 0) (n := 0) (Nat.le_of_ble_eq_true rfl) (Nat.le_of_ble_eq_true rfl) ?_
  have g_1 : (L 15 n.toNatClampNeg) = L 15 n.toNatClampNeg := by
    first | rfl | assumption | (simp only [])
  exact W.aret (v := .ref (L 15 n.toNatClampNeg)) hx hb hr (Or.inl ⟨_, rfl⟩) (Or.inr ⟨_, rfl⟩) (fun t ht hW => ⟨⟨(), L 15 n.toNatClampNeg, rfl, trivial, ⟨g_1, by show mw _ _ _ _ t.heap; rw [ht]; exact hP⟩⟩, hS.F ht⟩) hS.2.2 dX5_find_22
set_option maxRecDepth 100000 in
set_option maxHeartbeats 4000000 in
/-- Traffic.nextOf -/
theorem c_Traffic_nextOf (l : Launch) (dC : Nat → ClassId) (dI : Nat → Nat → Nat) (cy : Nat → ClassId) (L : Lay) (tr : Option Nat) (a : St) (κ : Kap) (τ : Tau) (M : Nat) (v : Nat) (nd : Int32) (sz : Nat) (hT : TL L tr τ) (hw : Wf M a) (hv : v < 200) (hnd : in_ nd 11) (hκ : CV a κ) : Met l yX5_nextOf (tp_w yX5_nextOf cX5_nextOf 3 (some .int)) ({ frames := 3, cells := 0, slots := 0, locals := 77 }) (va_Pc [.ref (L 0 0), .ref (L 15 v), .int nd] (mPre dC dI cy (TW cy L tr a κ τ) sz)) (va_Qi (fun (r u : Int32) => r = u) (fun (u : Int32) (t : State) => ∃ (κ2 : Kap), (u = T_next a v nd) ∧ (CV a κ2) ∧ mw (dC, dI) vwCl (mA (TW cy L tr a κ τ) sz) (TW cy L tr a κ2 τ) t.heap) (mA (TW cy L tr a κ τ) sz)) (0) (0) (mA (TW cy L tr a κ τ) sz) := by
  refine Met.ofW (cc := cX5_nextOf) (maxL := 3) (ret := (some .int)) (by decide) rfl ?_
  intro p e s m args below meth c s₁ B hml hv
  obtain ⟨rfl, hsz, hP, hK, hE⟩ := hv
  have hx := B.exec
  have hb := B.bytes
  have hr := B.returns
  have hts0 := atoms_spec (ws := tp_w yX5_nextOf cX5_nextOf 3 (some .int)) B.pre
  have hts : ∀ w ∈ tp_all, w.before _ s = true := fun w h => hts0 w (List.mem_cons_of_mem _ h)
  have hown : s.vm.findClass RX5 = some m.cls := findClass_of_methodNamed B.named
  have hlocks := B.notSynchronized
  subst hsz
  have hP := hP.self s.heap.size
  generalize hAe : mA (TW cy L tr a κ τ) s.heap.size = A at hP ⊢
  have hA : ∀ q : Nat, s.heap.size ≤ q → A q := fun q h => by rw [← hAe]; exact Or.inr h
  have hS : va_S A s.heap s.heap [] := va_S.rf
  have hl9 := lv_entry ([.ref (L 0 0), .ref (L 15 v), .int nd]) (n := 3) (Nat.le_of_ble_eq_true rfl)
  rw [lg_entry_eq]
  generalize (lg_sl ([.ref (L 0 0), .ref (L 15 v), .int nd]) ++ List.replicate (3 - (lg_sl ([.ref (L 0 0), .ref (L 15 v), .int nd])).length) Slot.unset).toArray = ls at hl9 ⊢
  have hl : lv_has ls 3 [(0, .ref (L 0 0)), (1, .ref (L 15 v)), (2, .int nd)] := hl9
  refine lv_aload_n hx hb dX5_nextOf_0 rfl (lv_at hl 1 rfl) ?_
  refine va_getN (D := (dC, dI)) (ws := [(L 15 v, .inr (7, [.int ((a 15 v) 0), .int ((a 15 v) 1), .int ((a 15 v) 2), .int ((a 15 v) 3), .int ((a 15 v) 4), .int ((a 15 v) 5), .int ((a 15 v) 6), .int ((a 15 v) 7), .int ((a 15 v) 8), .int ((a 15 v) 9), .int ((a 15 v) 10), .int ((a 15 v) 11), .ref (L 16 v)]))]) (ci := 7) (v := .int ((a 15 v) 2)) (C := RX7) (T := TX7) (N := 13) hx hb hts tl_X7 hown hK (hP.one (tw_mem (f := 15) (i := v) hv rfl)) 0 rfl rfl 2 (by decide) (va_Nw.use rfl (te_f48 hE)) (fun _ h9 => h9) rfl dX5_nextOf_1 ?_
  refine lv_if_ne (tgt := 14) hx hb dX5_nextOf_4 (by decide) (fun c_1 => ?_) (fun c_1 => ?_)
  · refine lv_aload_n hx hb dX5_nextOf_14 rfl (lv_at hl 0 rfl) ?_
    refine va_get (D := (dC, dI)) (ws := [(L 0 0, .inr (5, [.ref (L 1 0), .ref (L 20 0), .ref (L 21 0), .ref (L 22 0), .ref (L 23 0), va_rf tr, .int ((a 0 0) 0), .int ((a 0 0) 1), .int ((a 0 0) 2), .int ((a 0 0) 3), .int ((a 0 0) 4), .int ((a 0 0) 5)]))]) (ci := 5) (v := .ref (L 1 0)) (C := RX5) (T := TX5) (N := 12) hx hb hts tl_X5 hown hK (hP.one (tw_mem (f := 0) (i := 0) (by decide) rfl)) 0 rfl rfl 0 (by decide) (hts _ tw_873) (fun _ h9 => h9) rfl dX5_nextOf_15 ?_
    refine lv_iload_n hx hb dX5_nextOf_18 rfl (lv_at hl 2 rfl) ?_
    refine lv_aload_n hx hb dX5_nextOf_19 rfl (lv_at hl 1 rfl) ?_
    refine va_getN (D := (dC, dI)) (ws := [(L 15 v, .inr (7, [.int ((a 15 v) 0), .int ((a 15 v) 1), .int ((a 15 v) 2), .int ((a 15 v) 3), .int ((a 15 v) 4), .int ((a 15 v) 5), .int ((a 15 v) 6), .int ((a 15 v) 7), .int ((a 15 v) 8), .int ((a 15 v) 9), .int ((a 15 v) 10), .int ((a 15 v) 11), .ref (L 16 v)]))]) (ci := 7) (v := .int ((a 15 v) 1)) (C := RX7) (T := TX7) (N := 13) hx hb hts tl_X7 hown hK (hP.one (tw_mem (f := 15) (i := v) hv rfl)) 0 rfl rfl 1 (by decide) (va_Nw.use rfl (te_f46 hE)) (fun _ h9 => h9) rfl dX5_nextOf_20 ?_
    have hFc := m_free (C := (TW cy L tr a κ τ)) hP hS hA (fun _ _ h => h)
    refine va_calli (va_runV (As := [.int nd, .int ((a 15 v) 1)]) (rest := []) ⟨hx, hb, hml, hown, hts⟩ (c_Roads_firstOfWay l dC dI cy L tr a κ τ M nd ((a 15 v) 1) s.heap.size hT hw hnd (hw.2.2.2.2 v hv).2.1 hκ) (tp_cwV 2 hts tw_302 tw_213 tw_214 tw_22 tw_215 rfl rfl (by decide +kernel) ⟨Nat.le_of_ble_eq_true rfl, Nat.le_of_ble_eq_true rfl⟩) ⟨m_blind, va_recv hK (hP.one (e := .inr (2, [.ref (L 24 0), .int ((a 1 0) 0), .ref (L 25 0), .int κ.1])) (tw_mem (f := 1) (i := 0) (by decide) rfl)) (ci := 2) (q0 := 0) rfl rfl, fun U hU hW => ⟨rfl, m_pay hK hP hE (fun _ _ h => h) U hU hW⟩⟩ rfl rfl hl.1 rfl (lv_room (Nat.le_of_ble_eq_true rfl)) dX5_nextOf_23 ⟨(Nat.le_of_ble_eq_true rfl), (Nat.le_of_ble_eq_true rfl)⟩) hS (fun q _ h => hFc q h) hFc (fun r_1 u t H1 locs ht hvm hpo hB hz1 hk1 hS => ?_)
    obtain rfl := hpo
    obtain ⟨z_1, f_1, f_2, hP1⟩ := hB
    subst f_1
    rw [ht] at hP1
    have hP : mw (dC, dI) vwCl A (TW cy L tr a z_1 τ) H1 := hP.join (fun _ _ h => h) hk1 hFc hP1 (fun _ _ h => Or.inl h)
    generalize H1 = H at hP hS ⊢
    clear hP1 hk1 hFc
    refine W.widen (k := 0) (n := 0) (Nat.le_of_ble_eq_true rfl) (Nat.le_of_ble_eq_true rfl) ?_
    have g_1 : (G_first a nd ((a 15 v) 1)) = T_next a v nd := by
      simp only [T_next, if_neg c_1]
    have g_2 : CV a z_1 := by
      exact f_2
    exact W.iret (v := G_first a nd ((a 15 v) 1)) hx hb hr (fun t ht hW => ⟨⟨(G_first a nd ((a 15 v) 1)), (G_first a nd ((a 15 v) 1)), rfl, rfl, ⟨z_1, g_1, g_2, by show mw _ _ _ _ t.heap; rw [ht]; exact hP⟩⟩, hS.F ht⟩) hS.2.2 dX5_nextOf_26
  · refine lv_aload_n hx hb dX5_nextOf_7 rfl (lv_at hl 1 rfl) ?_
    have hFc := m_free (C := (TW cy L tr a κ τ)) hP hS hA (fun _ _ h => h)
    refine va_calli (va_runV (As := []) (rest := []) ⟨hx, hb, hml, hown, hts⟩ (c_Vehicle_nextOfWay l dC dI cy L tr a κ τ v s.heap.size hT hv (hw.2.2.2.2 v hv).1.2) (tp_cwV 0 hts tw_298 tw_299 tw_300 tw_29 tw_301 rfl rfl (by decide +kernel) ⟨Nat.le_of_ble_eq_true rfl, Nat.le_of_ble_eq_true rfl⟩) ⟨m_blind, va_recv hK (hP.one (e := .inr (7, [.int ((a 15 v) 0), .int ((a 15 v) 1), .int ((a 15 v) 2), .int ((a 15 v) 3), .int ((a 15 v) 4), .int ((a 15 v) 5), .int ((a 15 v) 6), .int ((a 15 v) 7), .int ((a 15 v) 8), .int ((a 15 v) 9), .int ((a 15 v) 10), .int ((a 15 v) 11), .ref (L 16 v)])) (tw_mem (f := 15) (i := v) hv rfl)) (ci := 7) (q0 := 0) rfl rfl, fun U hU hW => ⟨rfl, m_pay hK hP hE (fun _ _ h => h) U hU hW⟩⟩ rfl rfl hl.1 rfl (lv_room (Nat.le_of_ble_eq_true rfl)) dX5_nextOf_8 ⟨(Nat.le_of_ble_eq_true rfl), (Nat.le_of_ble_eq_true rfl)⟩) hS (fun q _ h => hFc q h) hFc (fun r_2 u t H1 locs ht hvm hpo hB hz1 hk1 hS => ?_)
    obtain rfl := hpo
    obtain ⟨f_3, hP1⟩ := hB
    subst f_3
    rw [ht] at hP1
    have hP : mw (dC, dI) vwCl A (TW cy L tr a κ τ) H1 := hP.join (fun _ _ h => h) hk1 hFc hP1 (fun _ _ h => Or.inl h)
    generalize H1 = H at hP hS ⊢
    clear hP1 hk1 hFc
    refine lv_goto (tgt := 26) hx hb dX5_nextOf_11 (by decide) ?_
    refine W.widen (k := 0) (n := 0) (Nat.le_of_ble_eq_true rfl) (Nat.le_of_ble_eq_true rfl) ?_
    have g_3 : (V_next a v) = T_next a v nd := by
      simp only [T_next, if_pos c_1]
    have g_4 : CV a κ := by
      exact hκ
    exact W.iret (v := V_next a v) hx hb hr (fun t ht hW => ⟨⟨(V_next a v), (V_next a v), rfl, rfl, ⟨κ, g_3, g_4, by show mw _ _ _ _ t.heap; rw [ht]; exact hP⟩⟩, hS.F ht⟩) hS.2.2 dX5_nextOf_26
set_option maxRecDepth 100000 in
set_option maxHeartbeats 4000000 in
/-- Traffic.arrive -/
theorem c_Traffic_arrive (l : Launch) (dC : Nat → ClassId) (dI : Nat → Nat → Nat) (cy : Nat → ClassId) (L : Lay) (tr : Option Nat) (a : St) (κ : Kap) (τ : Tau) (M : Nat) (v : Nat) (sz : Nat) (hT : TL L tr τ) (hw : Wf M a) (hv : v < 200) : Met l yX5_arrive (tp_w yX5_arrive cX5_arrive 2 none) ({ frames := 2, cells := 0, slots := 0, locals := 36 }) (va_Pc [.ref (L 0 0), .ref (L 15 v)] (mPre dC dI cy (TW cy L tr a κ τ) sz)) (va_Qv (fun _ : Unit => True) (fun (_ : Unit) (t : State) => mw (dC, dI) vwCl (mA (TW cy L tr a κ τ) sz) (TW cy L tr (T_arrive a v) κ τ) t.heap) (mA (TW cy L tr a κ τ) sz)) (0) (0) (mA (TW cy L tr a κ τ) sz) := by
  refine Met.ofW (cc := cX5_arrive) (maxL := 2) (ret := none) (by decide) rfl ?_
  intro p e s m args below meth c s₁ B hml hv
  obtain ⟨rfl, hsz, hP, hK, hE⟩ := hv
  have hx := B.exec
  have hb := B.bytes
  have hr := B.returns
  have hts0 := atoms_spec (ws := tp_w yX5_arrive cX5_arrive 2 none) B.pre
  have hts : ∀ w ∈ tp_all, w.before _ s = true := fun w h => hts0 w (List.mem_cons_of_mem _ h)
  have hown : s.vm.findClass RX5 = some m.cls := findClass_of_methodNamed B.named
  have hlocks := B.notSynchronized
  subst hsz
  have hP := hP.self s.heap.size
  generalize hAe : mA (TW cy L tr a κ τ) s.heap.size = A at hP ⊢
  have hA : ∀ q : Nat, s.heap.size ≤ q → A q := fun q h => by rw [← hAe]; exact Or.inr h
  have hS : va_S A s.heap s.heap [] := va_S.rf
  have hl9 := lv_entry ([.ref (L 0 0), .ref (L 15 v)]) (n := 2) (Nat.le_of_ble_eq_true rfl)
  rw [lg_entry_eq]
  generalize (lg_sl ([.ref (L 0 0), .ref (L 15 v)]) ++ List.replicate (2 - (lg_sl ([.ref (L 0 0), .ref (L 15 v)])).length) Slot.unset).toArray = ls at hl9 ⊢
  have hl : lv_has ls 2 [(0, .ref (L 0 0)), (1, .ref (L 15 v))] := hl9
  refine lv_aload_n hx hb dX5_arrive_0 rfl (lv_at hl 1 rfl) ?_
  refine lv_aload_n hx hb dX5_arrive_1 rfl (lv_at hl 0 rfl) ?_
  refine va_get (D := (dC, dI)) (ws := [(L 0 0, .inr (5, [.ref (L 1 0), .ref (L 20 0), .ref (L 21 0), .ref (L 22 0), .ref (L 23 0), va_rf tr, .int ((a 0 0) 0), .int ((a 0 0) 1), .int ((a 0 0) 2), .int ((a 0 0) 3), .int ((a 0 0) 4), .int ((a 0 0) 5)]))]) (ci := 5) (v := .int ((a 0 0) 0)) (C := RX5) (T := TX5) (N := 12) hx hb hts tl_X5 hown hK (hP.one (tw_mem (f := 0) (i := 0) (by decide) rfl)) 0 rfl rfl 6 (by decide) (hts _ tw_885) (fun _ h9 => h9) rfl dX5_arrive_2 ?_
  have hFc := m_free (C := (TW cy L tr a κ τ)) hP hS hA (fun _ _ h => h)
  refine va_callv (va_runV (As := [.int ((a 0 0) 0)]) (rest := []) ⟨hx, hb, hml, hown, hts⟩ (c_Vehicle_arrive l dC dI cy L tr a κ τ v ((a 0 0) 0) s.heap.size hT hv) (tp_cwV 1 hts tw_283 tw_284 tw_285 tw_29 tw_286 rfl rfl (by decide +kernel) ⟨Nat.le_of_ble_eq_true rfl, Nat.le_of_ble_eq_true rfl⟩) ⟨m_blind, va_recv hK (hP.one (e := .inr (7, [.int ((a 15 v) 0), .int ((a 15 v) 1), .int ((a 15 v) 2), .int ((a 15 v) 3), .int ((a 15 v) 4), .int ((a 15 v) 5), .int ((a 15 v) 6), .int ((a 15 v) 7), .int ((a 15 v) 8), .int ((a 15 v) 9), .int ((a 15 v) 10), .int ((a 15 v) 11), .ref (L 16 v)])) (tw_mem (f := 15) (i := v) hv rfl)) (ci := 7) (q0 := 0) rfl rfl, fun U hU hW => ⟨rfl, m_pay hK hP hE (fun _ _ h => h) U hU hW⟩⟩ rfl rfl hl.1 rfl (lv_room (Nat.le_of_ble_eq_true rfl)) dX5_arrive_5 ⟨(Nat.le_of_ble_eq_true rfl), (Nat.le_of_ble_eq_true rfl)⟩) hS (fun q _ h => hFc q h) hFc (fun u t H1 locs ht hvm hpo hB hz1 hk1 hS => ?_)
  have hP1 := hB
  rw [ht] at hP1
  have hP : mw (dC, dI) vwCl A (TW cy L tr (V_arr a v ((a 0 0) 0)) κ τ) H1 := hP.join (fun _ _ h => h) hk1 hFc hP1 (fun _ _ h => Or.inl h)
  generalize H1 = H at hP hS ⊢
  clear hP1 hk1 hFc
  obtain ⟨b1, eb1⟩ : ∃ z : St, z = V_arr a v ((a 0 0) 0) := ⟨_, rfl⟩
  rw [← eb1] at hP
  refine lv_aload_n hx hb dX5_arrive_8 rfl (lv_at hl 0 rfl) ?_
  refine lv_dup hx hb dX5_arrive_9 rfl ?_
  refine va_get (D := (dC, dI)) (ws := [(L 0 0, .inr (5, [.ref (L 1 0), .ref (L 20 0), .ref (L 21 0), .ref (L 22 0), .ref (L 23 0), va_rf tr, .int ((b1 0 0) 0), .int ((b1 0 0) 1), .int ((b1 0 0) 2), .int ((b1 0 0) 3), .int ((b1 0 0) 4), .int ((b1 0 0) 5)]))]) (ci := 5) (v := .int ((b1 0 0) 5)) (C := RX5) (T := TX5) (N := 12) hx hb hts tl_X5 hown hK (hP.one (tw_mem (f := 0) (i := 0) (by decide) rfl)) 0 rfl rfl 11 (by decide) (hts _ tw_895) (fun _ h9 => h9) rfl dX5_arrive_10 ?_
  refine lv_iconst (v := 1) hx hb dX5_arrive_13 (by decide) ?_
  refine lv_isub hx hb dX5_arrive_14 ?_
  obtain ⟨ws9, k9, hPw, hDw, hk9, -, hbk⟩ := hP.cut (e := .inr (5, [.ref (L 1 0), .ref (L 20 0), .ref (L 21 0), .ref (L 22 0), .ref (L 23 0), va_rf tr, .int ((b1 0 0) 0), .int ((b1 0 0) 1), .int ((b1 0 0) 2), .int ((b1 0 0) 3), .int ((b1 0 0) 4), .int ((b1 0 0) 5)])) (tw_mem (f := 0) (i := 0) (by decide) rfl)
  refine va_put (D := (dC, dI)) (ci := 5) (v := .int (((b1 0 0) 5) - 1)) (ty := .int) (C := RX5) (T := TX5) (N := 12) hx hb hts tl_X5 tyX5 tyX5_ok nmX5 hown hK hPw hDw hS k9 hk9 rfl 11 (by decide) (hts _ tw_895) (fun _ h9 => h9) rfl (by decide +kernel) rfl rfl (Nat.le_of_ble_eq_true rfl) dX5_arrive_15 (fun H locs hPw hDw hS => ?_)
  have hP : mw (dC, dI) vwCl A (TW cy L tr (S2 b1 0 0 (upd (b1 0 0) 5 (((b1 0 0) 5) - 1))) κ τ) H := (hbk _ _ hPw hDw).sub (tw_set (b := S2 b1 0 0 (upd (b1 0 0) 5 (((b1 0 0) 5) - 1))) (f := 0) (i := 0) (x := upd (b1 0 0) 5 (((b1 0 0) 5) - 1)) hT (by decide) (by decide) rfl)
  clear hbk hPw hDw hk9
  obtain ⟨b2, eb2⟩ : ∃ z : St, z = S2 b1 0 0 (upd (b1 0 0) 5 (((b1 0 0) 5) - 1)) := ⟨_, rfl⟩
  rw [← eb2] at hP
  refine lv_aload_n hx hb dX5_arrive_18 rfl (lv_at hl 1 rfl) ?_
  refine va_getN (D := (dC, dI)) (ws := [(L 15 v, .inr (7, [.int ((b2 15 v) 0), .int ((b2 15 v) 1), .int ((b2 15 v) 2), .int ((b2 15 v) 3), .int ((b2 15 v) 4), .int ((b2 15 v) 5), .int ((b2 15 v) 6), .int ((b2 15 v) 7), .int ((b2 15 v) 8), .int ((b2 15 v) 9), .int ((b2 15 v) 10), .int ((b2 15 v) 11), .ref (L 16 v)]))]) (ci := 7) (v := .int ((b2 15 v) 0)) (C := RX7) (T := TX7) (N := 13) hx hb hts tl_X7 hown hK (hP.one (tw_mem (f := 15) (i := v) hv rfl)) 0 rfl rfl 0 (by decide) (va_Nw.use rfl (te_f45 hE)) (fun _ h9 => h9) rfl dX5_arrive_19 ?_
  refine lv_if_lt (tgt := 56) hx hb dX5_arrive_22 (by decide) (fun c_1 => ?_) (fun c_1 => ?_)
  · refine W.widen (k := 0) (n := 0) (Nat.le_of_ble_eq_true rfl) (Nat.le_of_ble_eq_true rfl) ?_
    have s_1 : b2 = T_arrive a v := by
      simp only [T_arrive, T_arr1, ← eb1, ← eb2]
      unfold T_arr2
      simp only [if_pos c_1]
    rw [s_1] at hP
    exact W.vret hx hb hr (fun t ht hW => ⟨⟨(), rfl, trivial, (by show mw _ _ _ _ t.heap; rw [ht]; exact hP)⟩, hS.F ht⟩) hS.2.2 dX5_arrive_56
  · refine lv_aload_n hx hb dX5_arrive_25 rfl (lv_at hl 1 rfl) ?_
    refine va_getN (D := (dC, dI)) (ws := [(L 15 v, .inr (7, [.int ((b2 15 v) 0), .int ((b2 15 v) 1), .int ((b2 15 v) 2), .int ((b2 15 v) 3), .int ((b2 15 v) 4), .int ((b2 15 v) 5), .int ((b2 15 v) 6), .int ((b2 15 v) 7), .int ((b2 15 v) 8), .int ((b2 15 v) 9), .int ((b2 15 v) 10), .int ((b2 15 v) 11), .ref (L 16 v)]))]) (ci := 7) (v := .int ((b2 15 v) 0)) (C := RX7) (T := TX7) (N := 13) hx hb hts tl_X7 hown hK (hP.one (tw_mem (f := 15) (i := v) hv rfl)) 0 rfl rfl 0 (by decide) (va_Nw.use rfl (te_f45 hE)) (fun _ h9 => h9) rfl dX5_arrive_26 ?_
    refine lv_aload_n hx hb dX5_arrive_29 rfl (lv_at hl 0 rfl) ?_
    refine va_get (D := (dC, dI)) (ws := [(L 0 0, .inr (5, [.ref (L 1 0), .ref (L 20 0), .ref (L 21 0), .ref (L 22 0), .ref (L 23 0), va_rf tr, .int ((b2 0 0) 0), .int ((b2 0 0) 1), .int ((b2 0 0) 2), .int ((b2 0 0) 3), .int ((b2 0 0) 4), .int ((b2 0 0) 5)]))]) (ci := 5) (v := .int ((b2 0 0) 3)) (C := RX5) (T := TX5) (N := 12) hx hb hts tl_X5 hown hK (hP.one (tw_mem (f := 0) (i := 0) (by decide) rfl)) 0 rfl rfl 9 (by decide) (hts _ tw_891) (fun _ h9 => h9) rfl dX5_arrive_30 ?_
    refine lv_icmp_ge (tgt := 56) hx hb dX5_arrive_33 (by decide) (fun c_2 => ?_) (fun c_2 => ?_)
    · refine W.widen (k := 0) (n := 0) (Nat.le_of_ble_eq_true rfl) (Nat.le_of_ble_eq_true rfl) ?_
      have s_2 : b2 = T_arrive a v := by
        simp only [T_arrive, T_arr1, ← eb1, ← eb2]
        unfold T_arr2
        simp only [if_neg c_1, if_pos c_2]
      rw [s_2] at hP
      exact W.vret hx hb hr (fun t ht hW => ⟨⟨(), rfl, trivial, (by show mw _ _ _ _ t.heap; rw [ht]; exact hP)⟩, hS.F ht⟩) hS.2.2 dX5_arrive_56
    · refine lv_aload_n hx hb dX5_arrive_36 rfl (lv_at hl 0 rfl) ?_
      refine va_get (D := (dC, dI)) (ws := [(L 0 0, .inr (5, [.ref (L 1 0), .ref (L 20 0), .ref (L 21 0), .ref (L 22 0), .ref (L 23 0), va_rf tr, .int ((b2 0 0) 0), .int ((b2 0 0) 1), .int ((b2 0 0) 2), .int ((b2 0 0) 3), .int ((b2 0 0) 4), .int ((b2 0 0) 5)]))]) (ci := 5) (v := .ref (L 22 0)) (C := RX5) (T := TX5) (N := 12) hx hb hts tl_X5 hown hK (hP.one (tw_mem (f := 0) (i := 0) (by decide) rfl)) 0 rfl rfl 3 (by decide) (hts _ tw_879) (fun _ h9 => h9) rfl dX5_arrive_37 ?_
      refine lv_aload_n hx hb dX5_arrive_40 rfl (lv_at hl 1 rfl) ?_
      refine va_getN (D := (dC, dI)) (ws := [(L 15 v, .inr (7, [.int ((b2 15 v) 0), .int ((b2 15 v) 1), .int ((b2 15 v) 2), .int ((b2 15 v) 3), .int ((b2 15 v) 4), .int ((b2 15 v) 5), .int ((b2 15 v) 6), .int ((b2 15 v) 7), .int ((b2 15 v) 8), .int ((b2 15 v) 9), .int ((b2 15 v) 10), .int ((b2 15 v) 11), .ref (L 16 v)]))]) (ci := 7) (v := .int ((b2 15 v) 0)) (C := RX7) (T := TX7) (N := 13) hx hb hts tl_X7 hown hK (hP.one (tw_mem (f := 15) (i := v) hv rfl)) 0 rfl rfl 0 (by decide) (va_Nw.use rfl (te_f45 hE)) (fun _ h9 => h9) rfl dX5_arrive_41 ?_
      have j_1 : ((b2 15 v) 0 : Int32).toNatClampNeg = ((b2 15 v) 0).toNatClampNeg := m_cl (m_nI c_1) (m_lt (n := 10) c_1 c_2 (by rw [eb2, eb1]; exact hw.1.2.2.1.2)) (by decide)
      refine va_aldq hx hb hK (ws := [(L 22 0, .inl (cy 6, 10, .inr (.inr (.inr (.inr (fun j => some (L 14 j)))))))]) (hP.one (tw_mem (f := 22) (i := 0) (by decide) rfl)) 0 6 rfl rfl (m_in (m_nI c_1) (m_lt (n := 10) c_1 c_2 (by rw [eb2, eb1]; exact hw.1.2.2.1.2)) (by decide)) dX5_arrive_44 ?_
      refine W.eq (g2 := F0 m 45 ls [.ref (L 14 (((b2 15 v) 0).toNatClampNeg))]) (by first | (rw [j_1]; done) | (rw [j_1]; rfl)) ?_
      refine lv_aload_n hx hb dX5_arrive_45 rfl (lv_at hl 1 rfl) ?_
      refine va_getN (D := (dC, dI)) (ws := [(L 15 v, .inr (7, [.int ((b2 15 v) 0), .int ((b2 15 v) 1), .int ((b2 15 v) 2), .int ((b2 15 v) 3), .int ((b2 15 v) 4), .int ((b2 15 v) 5), .int ((b2 15 v) 6), .int ((b2 15 v) 7), .int ((b2 15 v) 8), .int ((b2 15 v) 9), .int ((b2 15 v) 10), .int ((b2 15 v) 11), .ref (L 16 v)]))]) (ci := 7) (v := .int ((b2 15 v) 9)) (C := RX7) (T := TX7) (N := 13) hx hb hts tl_X7 hown hK (hP.one (tw_mem (f := 15) (i := v) hv rfl)) 0 rfl rfl 9 (by decide) (va_Nw.use rfl (te_f56 hE)) (fun _ h9 => h9) rfl dX5_arrive_46 ?_
      refine lv_aload_n hx hb dX5_arrive_49 rfl (lv_at hl 1 rfl) ?_
      refine va_getN (D := (dC, dI)) (ws := [(L 15 v, .inr (7, [.int ((b2 15 v) 0), .int ((b2 15 v) 1), .int ((b2 15 v) 2), .int ((b2 15 v) 3), .int ((b2 15 v) 4), .int ((b2 15 v) 5), .int ((b2 15 v) 6), .int ((b2 15 v) 7), .int ((b2 15 v) 8), .int ((b2 15 v) 9), .int ((b2 15 v) 10), .int ((b2 15 v) 11), .ref (L 16 v)]))]) (ci := 7) (v := .int ((b2 15 v) 10)) (C := RX7) (T := TX7) (N := 13) hx hb hts tl_X7 hown hK (hP.one (tw_mem (f := 15) (i := v) hv rfl)) 0 rfl rfl 10 (by decide) (va_Nw.use rfl (te_f58 hE)) (fun _ h9 => h9) rfl dX5_arrive_50 ?_
      have hFc := m_free (C := (TW cy L tr b2 κ τ)) hP hS hA (fun _ _ h => h)
      refine va_callv (va_runV (As := [.int ((b2 15 v) 9), .int ((b2 15 v) 10)]) (rest := []) ⟨hx, hb, hml, hown, hts⟩ (c_Flow_countTrip l dC dI cy L tr b2 κ τ (((b2 15 v) 0).toNatClampNeg) ((b2 15 v) 9) ((b2 15 v) 10) H.size hT (m_lt (n := 10) c_1 c_2 (by rw [eb2, eb1]; exact hw.1.2.2.1.2))) (tp_cwV 2 hts tw_287 tw_288 tw_289 tw_28 tw_290 rfl rfl (by decide +kernel) ⟨Nat.le_of_ble_eq_true rfl, Nat.le_of_ble_eq_true rfl⟩) ⟨m_blind, va_recv hK (hP.one (e := .inr (0, [.int ((b2 14 (((b2 15 v) 0).toNatClampNeg)) 0), .int ((b2 14 (((b2 15 v) 0).toNatClampNeg)) 1), .int ((b2 14 (((b2 15 v) 0).toNatClampNeg)) 2), .int ((b2 14 (((b2 15 v) 0).toNatClampNeg)) 3), .int ((b2 14 (((b2 15 v) 0).toNatClampNeg)) 4), .int ((b2 14 (((b2 15 v) 0).toNatClampNeg)) 5), .int ((b2 14 (((b2 15 v) 0).toNatClampNeg)) 6), .int ((b2 14 (((b2 15 v) 0).toNatClampNeg)) 7), .int ((b2 14 (((b2 15 v) 0).toNatClampNeg)) 8), .int ((b2 14 (((b2 15 v) 0).toNatClampNeg)) 9), .int ((b2 14 (((b2 15 v) 0).toNatClampNeg)) 10), .int ((b2 14 (((b2 15 v) 0).toNatClampNeg)) 11)])) (tw_mem (f := 14) (i := ((b2 15 v) 0).toNatClampNeg) (m_lt (n := 10) c_1 c_2 (by rw [eb2, eb1]; exact hw.1.2.2.1.2)) rfl)) (ci := 0) (q0 := 0) rfl rfl, fun U hU hW => ⟨rfl, m_pay hK hP hE (fun _ _ h => h) U hU hW⟩⟩ rfl rfl hl.1 rfl (lv_room (Nat.le_of_ble_eq_true rfl)) dX5_arrive_53 ⟨(Nat.le_of_ble_eq_true rfl), (Nat.le_of_ble_eq_true rfl)⟩) hS (fun q _ h => hFc q h) hFc (fun u t H1 locs ht hvm hpo hB hz1 hk1 hS => ?_)
      have hP1 := hB
      rw [ht] at hP1
      have hP : mw (dC, dI) vwCl A (TW cy L tr (F_trip b2 (((b2 15 v) 0).toNatClampNeg) ((b2 15 v) 9) ((b2 15 v) 10)) κ τ) H1 := hP.join (fun _ _ h => h) hk1 hFc hP1 (fun _ _ h => Or.inl h)
      generalize H1 = H at hP hS ⊢
      clear hP1 hk1 hFc
      obtain ⟨b3, eb3⟩ : ∃ z : St, z = F_trip b2 (((b2 15 v) 0).toNatClampNeg) ((b2 15 v) 9) ((b2 15 v) 10) := ⟨_, rfl⟩
      rw [← eb3] at hP
      refine W.widen (k := 0) (n := 0) (Nat.le_of_ble_eq_true rfl) (Nat.le_of_ble_eq_true rfl) ?_
      have s_3 : b3 = T_arrive a v := by
        rw [eb3]
        simp only [T_arrive, T_arr1, ← eb1, ← eb2]
        unfold T_arr2
        simp only [if_neg c_1, if_neg c_2]
      rw [s_3] at hP
      exact W.vret hx hb hr (fun t ht hW => ⟨⟨(), rfl, trivial, (by show mw _ _ _ _ t.heap; rw [ht]; exact hP)⟩, hS.F ht⟩) hS.2.2 dX5_arrive_56
set_option maxRecDepth 100000 in
set_option maxHeartbeats 4000000 in
/-- Traffic.playSignals -/
theorem c_Traffic_playSignals (l : Launch) (dC : Nat → ClassId) (dI : Nat → Nat → Nat) (cy : Nat → ClassId) (L : Lay) (tr : Option Nat) (a : St) (κ : Kap) (τ : Tau) (M : Nat) (sz : Nat) (hT : TL L tr τ) (hw : Wf M a) : Met l yX5_playSignals (tp_w yX5_playSignals cX5_playSignals 2 none) ({ frames := 3, cells := 0, slots := 0, locals := 65 }) (va_Pc [.ref (L 0 0)] (mPre dC dI cy (TW cy L tr a κ τ) sz)) (va_Qv (fun _ : Unit => True) (fun (_ : Unit) (t : State) => mw (dC, dI) vwCl (mA (TW cy L tr a κ τ) sz) (TW cy L tr (T_sigs a) κ τ) t.heap) (mA (TW cy L tr a κ τ) sz)) (0) (0) (mA (TW cy L tr a κ τ) sz) := by
  refine Met.ofW (cc := cX5_playSignals) (maxL := 2) (ret := none) (by decide) rfl ?_
  intro p e s m args below meth c s₁ B hml hv
  obtain ⟨rfl, hsz, hP, hK, hE⟩ := hv
  have hx := B.exec
  have hb := B.bytes
  have hr := B.returns
  have hts0 := atoms_spec (ws := tp_w yX5_playSignals cX5_playSignals 2 none) B.pre
  have hts : ∀ w ∈ tp_all, w.before _ s = true := fun w h => hts0 w (List.mem_cons_of_mem _ h)
  have hown : s.vm.findClass RX5 = some m.cls := findClass_of_methodNamed B.named
  have hlocks := B.notSynchronized
  subst hsz
  have hP := hP.self s.heap.size
  generalize hAe : mA (TW cy L tr a κ τ) s.heap.size = A at hP ⊢
  have hA : ∀ q : Nat, s.heap.size ≤ q → A q := fun q h => by rw [← hAe]; exact Or.inr h
  have hS : va_S A s.heap s.heap [] := va_S.rf
  have hl9 := lv_entry ([.ref (L 0 0)]) (n := 2) (Nat.le_of_ble_eq_true rfl)
  rw [lg_entry_eq]
  generalize (lg_sl ([.ref (L 0 0)]) ++ List.replicate (2 - (lg_sl ([.ref (L 0 0)])).length) Slot.unset).toArray = ls at hl9 ⊢
  have hl : lv_has ls 2 [(0, .ref (L 0 0))] := hl9
  refine lv_iconst (v := 0) hx hb dX5_playSignals_0 (by decide) ?_
  refine lv_istore_n (lv' := [(1, .int 0), (0, .ref (L 0 0))]) hx hb dX5_playSignals_1 rfl hl (by decide) rfl (fun ls hl => ?_)
  have hN : nN a ≤ 12 := in_le hw.1.2.1
  refine W.widen (k := (fun i => 0 + 0 * i) 0) (n := (fun i => 0 + 0 * i) 0) (Nat.le_refl _) (Nat.le_refl _) ?_
  refine tp_for (σ := Unit) (nN a) (fun i => 0 + 0 * i) (fun i => 0 + 0 * i) (fun (i : Nat) (x : Unit) (H : Heap) (locs : List Loc) (ls : Array Slot) => mw (dC, dI) vwCl A (TW cy L tr (itN (T_sig (a 0 0 0)) i a) κ τ) H ∧ va_S A s.heap H locs ∧ lv_has ls 2 [(1, .int (nI i)), (0, .ref (L 0 0))]) ?_ ?_ (nN a) 0 (Nat.zero_add _) (()) _ _ ls ⟨hP, hS, lv_sub hl [0, 1] rfl⟩
  · rintro _ H locs ls ⟨hP, hS, hl⟩
    have hl : lv_has ls 2 [(1, .int (nI (nN a))), (0, .ref (L 0 0))] := hl
    obtain ⟨b1, eb1⟩ : ∃ z : St, z = itN (T_sig (a 0 0 0)) (nN a) a := ⟨_, rfl⟩
    rw [← eb1] at hP
    have h0b1 : b1 0 = a 0 := by rw [eb1]; exact itN_keep (P := fun b => b 0 = a 0) rfl (fun i b h => by rw [T_sig_off (by decide)]; exact h) _
    refine lv_iload_n hx hb dX5_playSignals_2 rfl (lv_at hl 0 rfl) ?_
    refine lv_aload_n hx hb dX5_playSignals_3 rfl (lv_at hl 1 rfl) ?_
    refine va_get (D := (dC, dI)) (ws := [(L 0 0, .inr (5, [.ref (L 1 0), .ref (L 20 0), .ref (L 21 0), .ref (L 22 0), .ref (L 23 0), va_rf tr, .int ((b1 0 0) 0), .int ((b1 0 0) 1), .int ((b1 0 0) 2), .int ((b1 0 0) 3), .int ((b1 0 0) 4), .int ((b1 0 0) 5)]))]) (ci := 5) (v := .int ((b1 0 0) 2)) (C := RX5) (T := TX5) (N := 12) hx hb hts tl_X5 hown hK (hP.one (tw_mem (f := 0) (i := 0) (by decide) rfl)) 0 rfl rfl 8 (by decide) (hts _ tw_890) (fun _ h9 => h9) rfl dX5_playSignals_4 ?_
    refine W.eq (g2 := F0 m 7 ls [.int (nI (nN a)), .int (nI (nN a))]) (by rw [h0b1, in_nI hw.1.2.1]) ?_
    refine lv_icmp_ge (tgt := 57) hx hb dX5_playSignals_7 (by decide) (fun _ => ?_) (fun c_1 => absurd (Int32.le_refl _) c_1)
    refine W.widen (k := 0) (n := 0) (by show 0 + 0 * (nN a) + 0 ≤ 0; omega) (by show 0 + 0 * (nN a) + 0 ≤ 0; omega) ?_
    have s_1 : b1 = T_sigs a := by
      rw [eb1]
      rfl
    rw [s_1] at hP
    exact W.vret hx hb hr (fun t ht hW => ⟨⟨(), rfl, trivial, (by show mw _ _ _ _ t.heap; rw [ht]; exact hP)⟩, hS.F ht⟩) hS.2.2 dX5_playSignals_57
  · rintro i _ H locs ls hi ⟨hP, hS, hl⟩ ih
    have hl : lv_has ls 2 [(1, .int (nI i)), (0, .ref (L 0 0))] := hl
    obtain ⟨b1, eb1⟩ : ∃ z : St, z = itN (T_sig (a 0 0 0)) i a := ⟨_, rfl⟩
    rw [← eb1] at hP
    have h0b1 : b1 0 = a 0 := by rw [eb1]; exact itN_keep (P := fun b => b 0 = a 0) rfl (fun i b h => by rw [T_sig_off (by decide)]; exact h) _
    have hwb1 : Wf M b1 := by rw [eb1]; exact itN_keepB (N := nN a) hw (fun j _ hj hb => T_sig_Wf (Nat.lt_of_lt_of_le hj (in_le hw.1.2.1)) hb) _ (Nat.le_of_lt hi)
    refine lv_iload_n hx hb dX5_playSignals_2 rfl (lv_at hl 0 rfl) ?_
    refine lv_aload_n hx hb dX5_playSignals_3 rfl (lv_at hl 1 rfl) ?_
    refine va_get (D := (dC, dI)) (ws := [(L 0 0, .inr (5, [.ref (L 1 0), .ref (L 20 0), .ref (L 21 0), .ref (L 22 0), .ref (L 23 0), va_rf tr, .int ((b1 0 0) 0), .int ((b1 0 0) 1), .int ((b1 0 0) 2), .int ((b1 0 0) 3), .int ((b1 0 0) 4), .int ((b1 0 0) 5)]))]) (ci := 5) (v := .int ((b1 0 0) 2)) (C := RX5) (T := TX5) (N := 12) hx hb hts tl_X5 hown hK (hP.one (tw_mem (f := 0) (i := 0) (by decide) rfl)) 0 rfl rfl 8 (by decide) (hts _ tw_890) (fun _ h9 => h9) rfl dX5_playSignals_4 ?_
    refine W.eq (g2 := F0 m 7 ls [.int (nI (nN a)), .int (nI i)]) (by rw [h0b1, in_nI hw.1.2.1]) ?_
    refine lv_icmp_ge (tgt := 57) hx hb dX5_playSignals_7 (by decide) (fun c_2 => absurd c_2 (nI_ge hi (by omega))) (fun _ => ?_)
    refine lv_aload_n hx hb dX5_playSignals_10 rfl (lv_at hl 1 rfl) ?_
    refine va_get (D := (dC, dI)) (ws := [(L 0 0, .inr (5, [.ref (L 1 0), .ref (L 20 0), .ref (L 21 0), .ref (L 22 0), .ref (L 23 0), va_rf tr, .int ((b1 0 0) 0), .int ((b1 0 0) 1), .int ((b1 0 0) 2), .int ((b1 0 0) 3), .int ((b1 0 0) 4), .int ((b1 0 0) 5)]))]) (ci := 5) (v := .ref (L 20 0)) (C := RX5) (T := TX5) (N := 12) hx hb hts tl_X5 hown hK (hP.one (tw_mem (f := 0) (i := 0) (by decide) rfl)) 0 rfl rfl 1 (by decide) (hts _ tw_875) (fun _ h9 => h9) rfl dX5_playSignals_11 ?_
    refine lv_iload_n hx hb dX5_playSignals_14 rfl (lv_at hl 0 rfl) ?_
    have j_1 : (nI i : Int32).toNatClampNeg = i := m_cl rfl (Nat.lt_of_lt_of_le hi hN) (by decide)
    refine va_aldq hx hb hK (ws := [(L 20 0, .inl (cy 4, 12, .inr (.inr (.inr (.inr (fun j => some (L 8 j)))))))]) (hP.one (tw_mem (f := 20) (i := 0) (by decide) rfl)) 0 4 rfl rfl (m_in rfl (Nat.lt_of_lt_of_le hi hN) (by decide)) dX5_playSignals_15 ?_
    refine W.eq (g2 := F0 m 16 ls [.ref (L 8 i)]) (by first | (rw [j_1]; done) | (rw [j_1]; rfl)) ?_
    refine va_getN (D := (dC, dI)) (ws := [(L 8 i, .inr (4, [.ref (L 9 i), .ref (L 10 i), .ref (L 11 i), .int ((b1 8 i) 0), .int ((b1 8 i) 1), .int ((b1 8 i) 2)]))]) (ci := 4) (v := .int ((b1 8 i) 0)) (C := RX4) (T := TX4) (N := 6) hx hb hts tl_X4 hown hK (hP.one (tw_mem (f := 8) (i := i) (Nat.lt_of_lt_of_le hi hN) rfl)) 0 rfl rfl 3 (by decide) (va_Nw.use rfl (te_f28 hE)) (fun _ h9 => h9) rfl dX5_playSignals_16 ?_
    refine lv_if_le (tgt := 51) hx hb dX5_playSignals_19 (by decide) (fun c_3 => ?_) (fun c_3 => ?_)
    · refine lv_iinc (v := nI (i + 1)) (lv' := [(1, .int (nI (i + 1))), (0, .ref (L 0 0))]) hx hb dX5_playSignals_51 hl (k := 0) rfl (nI_1 i) (by decide) rfl (fun ls hl => ?_)
      refine lv_goto (tgt := 2) hx hb dX5_playSignals_54 (by decide) ?_
      have e9 : b1 = itN (T_sig (a 0 0 0)) (i + 1) a := by
        rw [show itN (T_sig (a 0 0 0)) (i + 1) a = T_sig (a 0 0 0) i b1 from by rw [eb1]; rfl]
        unfold T_sig
        rw [if_pos c_3]
      rw [e9] at hP
      refine W.widen (k := (fun i => 0 + 0 * i) (i + 1)) (n := (fun i => 0 + 0 * i) (i + 1)) (by show _ ≤ 0 + 0 * (i + 1); omega) (by show _ ≤ 0 + 0 * (i + 1); omega) ?_
      exact ih () _ _ ls ⟨hP, hS, lv_sub hl [0, 1] rfl⟩
    · refine lv_aload_n hx hb dX5_playSignals_22 rfl (lv_at hl 1 rfl) ?_
      refine va_get (D := (dC, dI)) (ws := [(L 0 0, .inr (5, [.ref (L 1 0), .ref (L 20 0), .ref (L 21 0), .ref (L 22 0), .ref (L 23 0), va_rf tr, .int ((b1 0 0) 0), .int ((b1 0 0) 1), .int ((b1 0 0) 2), .int ((b1 0 0) 3), .int ((b1 0 0) 4), .int ((b1 0 0) 5)]))]) (ci := 5) (v := .ref (L 20 0)) (C := RX5) (T := TX5) (N := 12) hx hb hts tl_X5 hown hK (hP.one (tw_mem (f := 0) (i := 0) (by decide) rfl)) 0 rfl rfl 1 (by decide) (hts _ tw_875) (fun _ h9 => h9) rfl dX5_playSignals_23 ?_
      refine lv_iload_n hx hb dX5_playSignals_26 rfl (lv_at hl 0 rfl) ?_
      have j_2 : (nI i : Int32).toNatClampNeg = i := m_cl rfl (Nat.lt_of_lt_of_le hi hN) (by decide)
      refine va_aldq hx hb hK (ws := [(L 20 0, .inl (cy 4, 12, .inr (.inr (.inr (.inr (fun j => some (L 8 j)))))))]) (hP.one (tw_mem (f := 20) (i := 0) (by decide) rfl)) 0 4 rfl rfl (m_in rfl (Nat.lt_of_lt_of_le hi hN) (by decide)) dX5_playSignals_27 ?_
      refine W.eq (g2 := F0 m 28 ls [.ref (L 8 i)]) (by first | (rw [j_2]; done) | (rw [j_2]; rfl)) ?_
      refine lv_aload_n hx hb dX5_playSignals_28 rfl (lv_at hl 1 rfl) ?_
      refine va_get (D := (dC, dI)) (ws := [(L 0 0, .inr (5, [.ref (L 1 0), .ref (L 20 0), .ref (L 21 0), .ref (L 22 0), .ref (L 23 0), va_rf tr, .int ((b1 0 0) 0), .int ((b1 0 0) 1), .int ((b1 0 0) 2), .int ((b1 0 0) 3), .int ((b1 0 0) 4), .int ((b1 0 0) 5)]))]) (ci := 5) (v := .ref (L 1 0)) (C := RX5) (T := TX5) (N := 12) hx hb hts tl_X5 hown hK (hP.one (tw_mem (f := 0) (i := 0) (by decide) rfl)) 0 rfl rfl 0 (by decide) (hts _ tw_873) (fun _ h9 => h9) rfl dX5_playSignals_29 ?_
      refine lv_aload_n hx hb dX5_playSignals_32 rfl (lv_at hl 1 rfl) ?_
      refine va_get (D := (dC, dI)) (ws := [(L 0 0, .inr (5, [.ref (L 1 0), .ref (L 20 0), .ref (L 21 0), .ref (L 22 0), .ref (L 23 0), va_rf tr, .int ((b1 0 0) 0), .int ((b1 0 0) 1), .int ((b1 0 0) 2), .int ((b1 0 0) 3), .int ((b1 0 0) 4), .int ((b1 0 0) 5)]))]) (ci := 5) (v := .int ((b1 0 0) 0)) (C := RX5) (T := TX5) (N := 12) hx hb hts tl_X5 hown hK (hP.one (tw_mem (f := 0) (i := 0) (by decide) rfl)) 0 rfl rfl 6 (by decide) (hts _ tw_885) (fun _ h9 => h9) rfl dX5_playSignals_33 ?_
      refine lv_aload_n hx hb dX5_playSignals_36 rfl (lv_at hl 1 rfl) ?_
      refine va_get (D := (dC, dI)) (ws := [(L 0 0, .inr (5, [.ref (L 1 0), .ref (L 20 0), .ref (L 21 0), .ref (L 22 0), .ref (L 23 0), va_rf tr, .int ((b1 0 0) 0), .int ((b1 0 0) 1), .int ((b1 0 0) 2), .int ((b1 0 0) 3), .int ((b1 0 0) 4), .int ((b1 0 0) 5)]))]) (ci := 5) (v := .ref (L 20 0)) (C := RX5) (T := TX5) (N := 12) hx hb hts tl_X5 hown hK (hP.one (tw_mem (f := 0) (i := 0) (by decide) rfl)) 0 rfl rfl 1 (by decide) (hts _ tw_875) (fun _ h9 => h9) rfl dX5_playSignals_37 ?_
      refine lv_iload_n hx hb dX5_playSignals_40 rfl (lv_at hl 0 rfl) ?_
      have j_3 : (nI i : Int32).toNatClampNeg = i := m_cl rfl (Nat.lt_of_lt_of_le hi hN) (by decide)
      refine va_aldq hx hb hK (ws := [(L 20 0, .inl (cy 4, 12, .inr (.inr (.inr (.inr (fun j => some (L 8 j)))))))]) (hP.one (tw_mem (f := 20) (i := 0) (by decide) rfl)) 0 4 rfl rfl (m_in rfl (Nat.lt_of_lt_of_le hi hN) (by decide)) dX5_playSignals_41 ?_
      refine W.eq (g2 := F0 m 42 ls [.ref (L 8 i), .int ((b1 0 0) 0), .ref (L 1 0), .ref (L 8 i)]) (by first | (rw [j_3]; done) | (rw [j_3]; rfl)) ?_
      have hFc := m_free (C := (TW cy L tr b1 κ τ)) hP hS hA (fun _ _ h => h)
      refine va_calli (va_runV (As := []) (rest := [.int ((b1 0 0) 0), .ref (L 1 0), .ref (L 8 i)]) ⟨hx, hb, hml, hown, hts⟩ (c_Signal_linksOn l dC dI cy L tr b1 κ τ i H.size hT (Nat.lt_of_lt_of_le hi hN) (hwb1.2.2.1 i (Nat.lt_of_lt_of_le hi hN)).1.2) (tp_cwV 0 hts tw_236 tw_237 tw_238 tw_27 tw_239 rfl rfl (by decide +kernel) ⟨Nat.le_of_ble_eq_true rfl, Nat.le_of_ble_eq_true rfl⟩) ⟨m_blind, va_recv hK (hP.one (e := .inr (4, [.ref (L 9 i), .ref (L 10 i), .ref (L 11 i), .int ((b1 8 i) 0), .int ((b1 8 i) 1), .int ((b1 8 i) 2)])) (tw_mem (f := 8) (i := i) (Nat.lt_of_lt_of_le hi hN) rfl)) (ci := 4) (q0 := 0) rfl rfl, fun U hU hW => ⟨rfl, m_pay hK hP hE (fun _ _ h => h) U hU hW⟩⟩ rfl rfl hl.1 rfl (lv_room (Nat.le_of_ble_eq_true rfl)) dX5_playSignals_42 ⟨(by show 0 + 0 * i + 0 ≤ 0; omega), (by show 0 + 0 * i + 0 ≤ 0; omega)⟩) hS (fun q _ h => hFc q h) hFc (fun r_1 u t H1 locs ht hvm hpo hB hz1 hk1 hS => ?_)
      obtain rfl := hpo
      obtain ⟨f_1, hP1⟩ := hB
      subst f_1
      rw [ht] at hP1
      have hP : mw (dC, dI) vwCl A (TW cy L tr b1 κ τ) H1 := hP.join (fun _ _ h => h) hk1 hFc hP1 (fun _ _ h => Or.inl h)
      generalize H1 = H at hP hS ⊢
      clear hP1 hk1 hFc
      have hFc := m_free (C := (TW cy L tr b1 κ τ)) hP hS hA (fun _ _ h => h)
      refine va_calli (va_runV (As := [.int ((b1 0 0) 0), .int (S_links b1 i)]) (rest := [.ref (L 8 i)]) ⟨hx, hb, hml, hown, hts⟩ (c_Roads_anyHasQueueIn l dC dI cy L tr b1 κ τ M ((b1 0 0) 0) (S_links b1 i) H.size hT hwb1) (tp_cwV 2 hts tw_245 tw_246 tw_247 tw_22 tw_248 rfl rfl (by decide +kernel) ⟨Nat.le_of_ble_eq_true rfl, Nat.le_of_ble_eq_true rfl⟩) ⟨m_blind, va_recv hK (hP.one (e := .inr (2, [.ref (L 24 0), .int ((b1 1 0) 0), .ref (L 25 0), .int κ.1])) (tw_mem (f := 1) (i := 0) (by decide) rfl)) (ci := 2) (q0 := 0) rfl rfl, fun U hU hW => ⟨rfl, m_pay hK hP hE (fun _ _ h => h) U hU hW⟩⟩ rfl rfl hl.1 rfl (lv_room (Nat.le_of_ble_eq_true rfl)) dX5_playSignals_45 ⟨(by show 0 + 0 * i + 0 + 0 ≤ 0; omega), (by show 0 + 0 * i + 0 + 0 ≤ 0; omega)⟩) hS (fun q _ h => hFc q h) hFc (fun r_2 u t H1 locs ht hvm hpo hB hz1 hk1 hS => ?_)
      obtain rfl := hpo
      obtain ⟨f_2, hP1⟩ := hB
      subst f_2
      rw [ht] at hP1
      have hP : mw (dC, dI) vwCl A (TW cy L tr b1 κ τ) H1 := hP.join (fun _ _ h => h) hk1 hFc hP1 (fun _ _ h => Or.inl h)
      generalize H1 = H at hP hS ⊢
      clear hP1 hk1 hFc
      have hFc := m_free (C := (TW cy L tr b1 κ τ)) hP hS hA (fun _ _ h => h)
      refine va_callv (va_runV (As := [.int (G_any b1 ((b1 0 0) 0) (S_links b1 i) (nL b1) 0)]) (rest := []) ⟨hx, hb, hml, hown, hts⟩ (c_Signal_playTick l dC dI cy L tr b1 κ τ i (G_any b1 ((b1 0 0) 0) (S_links b1 i) (nL b1) 0) H.size hT (Nat.lt_of_lt_of_le hi hN) (hwb1.2.2.1 i (Nat.lt_of_lt_of_le hi hN)).1.2) (tp_cwV 1 hts tw_253 tw_254 tw_255 tw_27 tw_256 rfl rfl (by decide +kernel) ⟨Nat.le_of_ble_eq_true rfl, Nat.le_of_ble_eq_true rfl⟩) ⟨m_blind, va_recv hK (hP.one (e := .inr (4, [.ref (L 9 i), .ref (L 10 i), .ref (L 11 i), .int ((b1 8 i) 0), .int ((b1 8 i) 1), .int ((b1 8 i) 2)])) (tw_mem (f := 8) (i := i) (Nat.lt_of_lt_of_le hi hN) rfl)) (ci := 4) (q0 := 0) rfl rfl, fun U hU hW => ⟨rfl, m_pay hK hP hE (fun _ _ h => h) U hU hW⟩⟩ rfl rfl hl.1 rfl (lv_room (Nat.le_of_ble_eq_true rfl)) dX5_playSignals_48 ⟨(by show 0 + 0 * i + 0 + 0 + 0 ≤ 0; omega), (by show 0 + 0 * i + 0 + 0 + 0 ≤ 0; omega)⟩) hS (fun q _ h => hFc q h) hFc (fun u t H1 locs ht hvm hpo hB hz1 hk1 hS => ?_)
      have hP1 := hB
      rw [ht] at hP1
      have hP : mw (dC, dI) vwCl A (TW cy L tr (S_play b1 i (G_any b1 ((b1 0 0) 0) (S_links b1 i) (nL b1) 0)) κ τ) H1 := hP.join (fun _ _ h => h) hk1 hFc hP1 (fun _ _ h => Or.inl h)
      generalize H1 = H at hP hS ⊢
      clear hP1 hk1 hFc
      obtain ⟨b2, eb2⟩ : ∃ z : St, z = S_play b1 i (G_any b1 ((b1 0 0) 0) (S_links b1 i) (nL b1) 0) := ⟨_, rfl⟩
      rw [← eb2] at hP
      refine lv_iinc (v := nI (i + 1)) (lv' := [(1, .int (nI (i + 1))), (0, .ref (L 0 0))]) hx hb dX5_playSignals_51 hl (k := 0) rfl (nI_1 i) (by decide) rfl (fun ls hl => ?_)
      refine lv_goto (tgt := 2) hx hb dX5_playSignals_54 (by decide) ?_
      have e9 : b2 = itN (T_sig (a 0 0 0)) (i + 1) a := by
        rw [show itN (T_sig (a 0 0 0)) (i + 1) a = T_sig (a 0 0 0) i b1 from by rw [eb1]; rfl]
        unfold T_sig
        rw [if_neg c_3, eb2, h0b1]
      rw [e9] at hP
      refine W.widen (k := (fun i => 0 + 0 * i) (i + 1)) (n := (fun i => 0 + 0 * i) (i + 1)) (by show _ ≤ 0 + 0 * (i + 1); omega) (by show _ ≤ 0 + 0 * (i + 1); omega) ?_
      exact ih () _ _ ls ⟨hP, hS, lv_sub hl [0, 1] rfl⟩
end
section
theorem tw_207 : Cond.code yX7_come cX7_come 5 none ∈ tp_all := tp_mem 207 (by decide +kernel) rfl
theorem tw_204 : Cond.methodLink RX5 102 yX7_come ∈ tp_all := tp_mem 204 (by decide +kernel) rfl
theorem tw_205 : Cond.instanceMethod yX7_come ∈ tp_all := tp_mem 205 (by decide +kernel) rfl
theorem tw_206 : Cond.selects RX7 yX7_come yX7_come ∈ tp_all := tp_mem 206 (by decide +kernel) rfl
theorem tw_877 : Cond.fieldLink RX5 26 "Turnpike$Traffic" "row" "[LTurnpike$Row;" ∈ tp_all := tp_mem 877 (by decide +kernel) rfl
theorem tw_228 : Cond.methodLink RX5 122 yX3_append ∈ tp_all := tp_mem 228 (by decide +kernel) rfl
theorem tw_211 : Cond.code yX2_planWay cX2_planWay 7 (some .boolean) ∈ tp_all := tp_mem 211 (by decide +kernel) rfl
theorem tw_208 : Cond.methodLink RX5 112 yX2_planWay ∈ tp_all := tp_mem 208 (by decide +kernel) rfl
theorem tw_209 : Cond.instanceMethod yX2_planWay ∈ tp_all := tp_mem 209 (by decide +kernel) rfl
theorem tw_210 : Cond.selects RX2 yX2_planWay yX2_planWay ∈ tp_all := tp_mem 210 (by decide +kernel) rfl
theorem tw_199 : Cond.code yX0_bringsIn cX0_bringsIn 3 (some .boolean) ∈ tp_all := tp_mem 199 (by decide +kernel) rfl
theorem tw_196 : Cond.methodLink RX5 89 yX0_bringsIn ∈ tp_all := tp_mem 196 (by decide +kernel) rfl
theorem tw_197 : Cond.instanceMethod yX0_bringsIn ∈ tp_all := tp_mem 197 (by decide +kernel) rfl
theorem tw_198 : Cond.selects RX0 yX0_bringsIn yX0_bringsIn ∈ tp_all := tp_mem 198 (by decide +kernel) rfl
theorem tw_203 : Cond.code yX5_bring cX5_bring 4 none ∈ tp_all := tp_mem 203 (by decide +kernel) rfl
theorem tw_200 : Cond.methodLink RX5 93 yX5_bring ∈ tp_all := tp_mem 200 (by decide +kernel) rfl
theorem tw_202 : Cond.instanceMethod yX5_bring ∈ tp_all := tp_mem 202 (by decide +kernel) rfl
theorem tw_3 : Cond.selects RX5 yX5_bring yX5_bring ∈ tp_all := tp_mem 3 (by decide +kernel) rfl
theorem tw_21 : Cond.initialized RX5 ∈ tp_all := tp_mem 21 (by decide +kernel) rfl
theorem te_f32 {U : State} (h : tp_E U) : va_Nw (.fieldLinkNest "Turnpike$Traffic" 96 "Turnpike$Flow" "to" "I" "Turnpike") U := h.1 _ (List.mem_of_getElem? (i := 32) rfl)
theorem te_f33 {U : State} (h : tp_E U) : va_Nw (.fieldLinkNest "Turnpike$Traffic" 99 "Turnpike$Flow" "kind" "I" "Turnpike") U := h.1 _ (List.mem_of_getElem? (i := 33) rfl)
theorem te_f37 {U : State} (h : tp_E U) : va_Nw (.fieldLinkNest "Turnpike$Traffic" 106 "Turnpike$Flow" "came" "I" "Turnpike") U := h.1 _ (List.mem_of_getElem? (i := 37) rfl)
theorem te_f31 {U : State} (h : tp_E U) : va_Nw (.fieldLinkNest "Turnpike$Traffic" 109 "Turnpike$Flow" "from" "I" "Turnpike") U := h.1 _ (List.mem_of_getElem? (i := 31) rfl)
theorem te_f49 {U : State} (h : tp_E U) : va_Nw (.fieldLinkNest "Turnpike$Traffic" 116 "Turnpike$Vehicle" "state" "I" "Turnpike") U := h.1 _ (List.mem_of_getElem? (i := 49) rfl)
theorem te_f40 {U : State} (h : tp_E U) : va_Nw (.fieldLinkNest "Turnpike$Traffic" 119 "Turnpike$Flow" "givenUp" "I" "Turnpike") U := h.1 _ (List.mem_of_getElem? (i := 40) rfl)
theorem dX5_bring_0 : decode cX5_bring 0 = .ok (.aload_n 0, 1) := by decide +kernel
theorem dX5_bring_1 : decode cX5_bring 1 = .ok (.getfield 32, 3) := by decide +kernel
theorem dX5_bring_4 : decode cX5_bring 4 = .ok (.iload_n 1, 1) := by decide +kernel
theorem dX5_bring_5 : decode cX5_bring 5 = .ok (.aaload, 1) := by decide +kernel
theorem dX5_bring_6 : decode cX5_bring 6 = .ok (.astore_n 2, 1) := by decide +kernel
theorem dX5_bring_7 : decode cX5_bring 7 = .ok (.aload_n 0, 1) := by decide +kernel
theorem dX5_bring_8 : decode cX5_bring 8 = .ok (.getfield 38, 3) := by decide +kernel
theorem dX5_bring_11 : decode cX5_bring 11 = .ok (.aload_n 0, 1) := by decide +kernel
theorem dX5_bring_12 : decode cX5_bring 12 = .ok (.getfield 59, 3) := by decide +kernel
theorem dX5_bring_15 : decode cX5_bring 15 = .ok (.aaload, 1) := by decide +kernel
theorem dX5_bring_16 : decode cX5_bring 16 = .ok (.astore_n 3, 1) := by decide +kernel
theorem dX5_bring_17 : decode cX5_bring 17 = .ok (.aload_n 3, 1) := by decide +kernel
theorem dX5_bring_18 : decode cX5_bring 18 = .ok (.iload_n 1, 1) := by decide +kernel
theorem dX5_bring_19 : decode cX5_bring 19 = .ok (.aload_n 2, 1) := by decide +kernel
theorem dX5_bring_20 : decode cX5_bring 20 = .ok (.getfield 96, 3) := by decide +kernel
theorem dX5_bring_23 : decode cX5_bring 23 = .ok (.aload_n 2, 1) := by decide +kernel
theorem dX5_bring_24 : decode cX5_bring 24 = .ok (.getfield 99, 3) := by decide +kernel
theorem dX5_bring_27 : decode cX5_bring 27 = .ok (.aload_n 0, 1) := by decide +kernel
theorem dX5_bring_28 : decode cX5_bring 28 = .ok (.getfield 65, 3) := by decide +kernel
theorem dX5_bring_31 : decode cX5_bring 31 = .ok (.invokevirtual 102, 3) := by decide +kernel
theorem dX5_bring_34 : decode cX5_bring 34 = .ok (.aload_n 2, 1) := by decide +kernel
theorem dX5_bring_35 : decode cX5_bring 35 = .ok (.dup, 1) := by decide +kernel
theorem dX5_bring_36 : decode cX5_bring 36 = .ok (.getfield 106, 3) := by decide +kernel
theorem dX5_bring_39 : decode cX5_bring 39 = .ok (.iconst 1, 1) := by decide +kernel
theorem dX5_bring_40 : decode cX5_bring 40 = .ok (.iadd, 1) := by decide +kernel
theorem dX5_bring_41 : decode cX5_bring 41 = .ok (.putfield 106, 3) := by decide +kernel
theorem dX5_bring_44 : decode cX5_bring 44 = .ok (.aload_n 2, 1) := by decide +kernel
theorem dX5_bring_45 : decode cX5_bring 45 = .ok (.getfield 99, 3) := by decide +kernel
theorem dX5_bring_48 : decode cX5_bring 48 = .ok (.ifCond .ne 36, 3) := by decide +kernel
theorem dX5_bring_84 : decode cX5_bring 84 = .ok (.aload_n 0, 1) := by decide +kernel
theorem dX5_bring_85 : decode cX5_bring 85 = .ok (.getfield 26, 3) := by decide +kernel
theorem dX5_bring_88 : decode cX5_bring 88 = .ok (.aload_n 2, 1) := by decide +kernel
theorem dX5_bring_89 : decode cX5_bring 89 = .ok (.getfield 109, 3) := by decide +kernel
theorem dX5_bring_92 : decode cX5_bring 92 = .ok (.aaload, 1) := by decide +kernel
theorem dX5_bring_93 : decode cX5_bring 93 = .ok (.aload_n 0, 1) := by decide +kernel
theorem dX5_bring_94 : decode cX5_bring 94 = .ok (.getfield 59, 3) := by decide +kernel
theorem dX5_bring_97 : decode cX5_bring 97 = .ok (.invokevirtual 122, 3) := by decide +kernel
theorem dX5_bring_100 : decode cX5_bring 100 = .ok (.aload_n 0, 1) := by decide +kernel
theorem dX5_bring_101 : decode cX5_bring 101 = .ok (.dup, 1) := by decide +kernel
theorem dX5_bring_102 : decode cX5_bring 102 = .ok (.getfield 125, 3) := by decide +kernel
theorem dX5_bring_105 : decode cX5_bring 105 = .ok (.iconst 1, 1) := by decide +kernel
theorem dX5_bring_106 : decode cX5_bring 106 = .ok (.iadd, 1) := by decide +kernel
theorem dX5_bring_107 : decode cX5_bring 107 = .ok (.putfield 125, 3) := by decide +kernel
theorem dX5_bring_110 : decode cX5_bring 110 = .ok (.aload_n 0, 1) := by decide +kernel
theorem dX5_bring_111 : decode cX5_bring 111 = .ok (.dup, 1) := by decide +kernel
theorem dX5_bring_112 : decode cX5_bring 112 = .ok (.getfield 59, 3) := by decide +kernel
theorem dX5_bring_115 : decode cX5_bring 115 = .ok (.iconst 1, 1) := by decide +kernel
theorem dX5_bring_116 : decode cX5_bring 116 = .ok (.iadd, 1) := by decide +kernel
theorem dX5_bring_117 : decode cX5_bring 117 = .ok (.putfield 59, 3) := by decide +kernel
theorem dX5_bring_120 : decode cX5_bring 120 = .ok (.return_, 1) := by decide +kernel
theorem dX5_bring_51 : decode cX5_bring 51 = .ok (.aload_n 0, 1) := by decide +kernel
theorem dX5_bring_52 : decode cX5_bring 52 = .ok (.getfield 12, 3) := by decide +kernel
theorem dX5_bring_55 : decode cX5_bring 55 = .ok (.aload_n 3, 1) := by decide +kernel
theorem dX5_bring_56 : decode cX5_bring 56 = .ok (.aload_n 2, 1) := by decide +kernel
theorem dX5_bring_57 : decode cX5_bring 57 = .ok (.getfield 109, 3) := by decide +kernel
theorem dX5_bring_60 : decode cX5_bring 60 = .ok (.invokevirtual 112, 3) := by decide +kernel
theorem dX5_bring_63 : decode cX5_bring 63 = .ok (.ifCond .ne 21, 3) := by decide +kernel
theorem dX5_bring_66 : decode cX5_bring 66 = .ok (.aload_n 3, 1) := by decide +kernel
theorem dX5_bring_67 : decode cX5_bring 67 = .ok (.iconst 3, 1) := by decide +kernel
theorem dX5_bring_68 : decode cX5_bring 68 = .ok (.putfield 116, 3) := by decide +kernel
theorem dX5_bring_71 : decode cX5_bring 71 = .ok (.aload_n 2, 1) := by decide +kernel
theorem dX5_bring_72 : decode cX5_bring 72 = .ok (.dup, 1) := by decide +kernel
theorem dX5_bring_73 : decode cX5_bring 73 = .ok (.getfield 119, 3) := by decide +kernel
theorem dX5_bring_76 : decode cX5_bring 76 = .ok (.iconst 1, 1) := by decide +kernel
theorem dX5_bring_77 : decode cX5_bring 77 = .ok (.iadd, 1) := by decide +kernel
theorem dX5_bring_78 : decode cX5_bring 78 = .ok (.putfield 119, 3) := by decide +kernel
theorem dX5_bring_81 : decode cX5_bring 81 = .ok (.goto 29, 3) := by decide +kernel
theorem dX5_bringVehicles_0 : decode cX5_bringVehicles 0 = .ok (.iconst 0, 1) := by decide +kernel
theorem dX5_bringVehicles_1 : decode cX5_bringVehicles 1 = .ok (.istore_n 1, 1) := by decide +kernel
theorem dX5_bringVehicles_2 : decode cX5_bringVehicles 2 = .ok (.iload_n 1, 1) := by decide +kernel
theorem dX5_bringVehicles_3 : decode cX5_bringVehicles 3 = .ok (.aload_n 0, 1) := by decide +kernel
theorem dX5_bringVehicles_4 : decode cX5_bringVehicles 4 = .ok (.getfield 86, 3) := by decide +kernel
theorem dX5_bringVehicles_7 : decode cX5_bringVehicles 7 = .ok (.if_icmp .ge 40, 3) := by decide +kernel
theorem dX5_bringVehicles_47 : decode cX5_bringVehicles 47 = .ok (.return_, 1) := by decide +kernel
theorem dX5_bringVehicles_10 : decode cX5_bringVehicles 10 = .ok (.aload_n 0, 1) := by decide +kernel
theorem dX5_bringVehicles_11 : decode cX5_bringVehicles 11 = .ok (.getfield 32, 3) := by decide +kernel
theorem dX5_bringVehicles_14 : decode cX5_bringVehicles 14 = .ok (.iload_n 1, 1) := by decide +kernel
theorem dX5_bringVehicles_15 : decode cX5_bringVehicles 15 = .ok (.aaload, 1) := by decide +kernel
theorem dX5_bringVehicles_16 : decode cX5_bringVehicles 16 = .ok (.aload_n 0, 1) := by decide +kernel
theorem dX5_bringVehicles_17 : decode cX5_bringVehicles 17 = .ok (.getfield 65, 3) := by decide +kernel
theorem dX5_bringVehicles_20 : decode cX5_bringVehicles 20 = .ok (.invokevirtual 89, 3) := by decide +kernel
theorem dX5_bringVehicles_23 : decode cX5_bringVehicles 23 = .ok (.ifCond .eq 18, 3) := by decide +kernel
theorem dX5_bringVehicles_41 : decode cX5_bringVehicles 41 = .ok (.iinc 1 1, 3) := by decide +kernel
theorem dX5_bringVehicles_44 : decode cX5_bringVehicles 44 = .ok (.goto (-42), 3) := by decide +kernel
theorem dX5_bringVehicles_26 : decode cX5_bringVehicles 26 = .ok (.aload_n 0, 1) := by decide +kernel
theorem dX5_bringVehicles_27 : decode cX5_bringVehicles 27 = .ok (.getfield 59, 3) := by decide +kernel
theorem dX5_bringVehicles_30 : decode cX5_bringVehicles 30 = .ok (.sipush 200, 3) := by decide +kernel
theorem dX5_bringVehicles_33 : decode cX5_bringVehicles 33 = .ok (.if_icmp .ge 8, 3) := by decide +kernel
theorem dX5_bringVehicles_36 : decode cX5_bringVehicles 36 = .ok (.aload_n 0, 1) := by decide +kernel
theorem dX5_bringVehicles_37 : decode cX5_bringVehicles 37 = .ok (.iload_n 1, 1) := by decide +kernel
theorem dX5_bringVehicles_38 : decode cX5_bringVehicles 38 = .ok (.invokevirtual 93, 3) := by decide +kernel
set_option maxRecDepth 100000 in
set_option maxHeartbeats 4000000 in
/-- Traffic.bring -/
theorem c_Traffic_bring (l : Launch) (dC : Nat → ClassId) (dI : Nat → Nat → Nat) (cy : Nat → ClassId) (L : Lay) (tr : Option Nat) (a : St) (κ : Kap) (τ : Tau) (M : Nat) (f : Nat) (sz : Nat) (hT : TL L tr τ) (hw : Wf M a) (hf : f < 10) (hv : (a 0 0 4).toInt < 200) (hκ : CV a κ) : Met l yX5_bring (tp_w yX5_bring cX5_bring 4 none) ({ frames := 4, cells := 0, slots := 0, locals := 103 }) (va_Pc [.ref (L 0 0), .int (nI f)] (mPre dC dI cy (TW cy L tr a κ τ) sz)) (va_Qv (fun _ : Unit => True) (fun (_ : Unit) (t : State) => ∃ (κ2 : Kap), (CV (T_bring a f) κ2) ∧ mw (dC, dI) vwCl (mA (TW cy L tr a κ τ) sz) (TW cy L tr (T_bring a f) κ2 τ) t.heap) (mA (TW cy L tr a κ τ) sz)) (0) (0) (mA (TW cy L tr a κ τ) sz) := by
  refine Met.ofW (cc := cX5_bring) (maxL := 4) (ret := none) (by decide) rfl ?_
  intro p e s m args below meth c s₁ B hml hv
  obtain ⟨rfl, hsz, hP, hK, hE⟩ := hv
  have hx := B.exec
  have hb := B.bytes
  have hr := B.returns
  have hts0 := atoms_spec (ws := tp_w yX5_bring cX5_bring 4 none) B.pre
  have hts : ∀ w ∈ tp_all, w.before _ s = true := fun w h => hts0 w (List.mem_cons_of_mem _ h)
  have hown : s.vm.findClass RX5 = some m.cls := findClass_of_methodNamed B.named
  have hlocks := B.notSynchronized
  subst hsz
  have hP := hP.self s.heap.size
  generalize hAe : mA (TW cy L tr a κ τ) s.heap.size = A at hP ⊢
  have hA : ∀ q : Nat, s.heap.size ≤ q → A q := fun q h => by rw [← hAe]; exact Or.inr h
  have hS : va_S A s.heap s.heap [] := va_S.rf
  have hl9 := lv_entry ([.ref (L 0 0), .int (nI f)]) (n := 4) (Nat.le_of_ble_eq_true rfl)
  rw [lg_entry_eq]
  generalize (lg_sl ([.ref (L 0 0), .int (nI f)]) ++ List.replicate (4 - (lg_sl ([.ref (L 0 0), .int (nI f)])).length) Slot.unset).toArray = ls at hl9 ⊢
  have hl : lv_has ls 4 [(0, .ref (L 0 0)), (1, .int (nI f))] := hl9
  refine lv_aload_n hx hb dX5_bring_0 rfl (lv_at hl 0 rfl) ?_
  have hv2 : (a 0 0 4).toNatClampNeg < 200 := m_ltI hw.1.2.2.2.1 hv
  refine va_get (D := (dC, dI)) (ws := [(L 0 0, .inr (5, [.ref (L 1 0), .ref (L 20 0), .ref (L 21 0), .ref (L 22 0), .ref (L 23 0), va_rf tr, .int ((a 0 0) 0), .int ((a 0 0) 1), .int ((a 0 0) 2), .int ((a 0 0) 3), .int ((a 0 0) 4), .int ((a 0 0) 5)]))]) (ci := 5) (v := .ref (L 22 0)) (C := RX5) (T := TX5) (N := 12) hx hb hts tl_X5 hown hK (hP.one (tw_mem (f := 0) (i := 0) (by decide) rfl)) 0 rfl rfl 3 (by decide) (hts _ tw_879) (fun _ h9 => h9) rfl dX5_bring_1 ?_
  refine lv_iload_n hx hb dX5_bring_4 rfl (lv_at hl 1 rfl) ?_
  have j_1 : (nI f : Int32).toNatClampNeg = f := m_cl rfl hf (by decide)
  refine va_aldq hx hb hK (ws := [(L 22 0, .inl (cy 6, 10, .inr (.inr (.inr (.inr (fun j => some (L 14 j)))))))]) (hP.one (tw_mem (f := 22) (i := 0) (by decide) rfl)) 0 6 rfl rfl (m_in rfl hf (by decide)) dX5_bring_5 ?_
  refine W.eq (g2 := F0 m 6 ls [.ref (L 14 f)]) (by first | (rw [j_1]; done) | (rw [j_1]; rfl)) ?_
  refine lv_astore_n (lv' := [(2, .ref (L 14 f)), (0, .ref (L 0 0)), (1, .int (nI f))]) hx hb dX5_bring_6 rfl hl (by decide) rfl (fun ls hl => ?_)
  refine lv_aload_n hx hb dX5_bring_7 rfl (lv_at hl 1 rfl) ?_
  refine va_get (D := (dC, dI)) (ws := [(L 0 0, .inr (5, [.ref (L 1 0), .ref (L 20 0), .ref (L 21 0), .ref (L 22 0), .ref (L 23 0), va_rf tr, .int ((a 0 0) 0), .int ((a 0 0) 1), .int ((a 0 0) 2), .int ((a 0 0) 3), .int ((a 0 0) 4), .int ((a 0 0) 5)]))]) (ci := 5) (v := .ref (L 23 0)) (C := RX5) (T := TX5) (N := 12) hx hb hts tl_X5 hown hK (hP.one (tw_mem (f := 0) (i := 0) (by decide) rfl)) 0 rfl rfl 4 (by decide) (hts _ tw_881) (fun _ h9 => h9) rfl dX5_bring_8 ?_
  refine lv_aload_n hx hb dX5_bring_11 rfl (lv_at hl 1 rfl) ?_
  refine va_get (D := (dC, dI)) (ws := [(L 0 0, .inr (5, [.ref (L 1 0), .ref (L 20 0), .ref (L 21 0), .ref (L 22 0), .ref (L 23 0), va_rf tr, .int ((a 0 0) 0), .int ((a 0 0) 1), .int ((a 0 0) 2), .int ((a 0 0) 3), .int ((a 0 0) 4), .int ((a 0 0) 5)]))]) (ci := 5) (v := .int ((a 0 0) 4)) (C := RX5) (T := TX5) (N := 12) hx hb hts tl_X5 hown hK (hP.one (tw_mem (f := 0) (i := 0) (by decide) rfl)) 0 rfl rfl 10 (by decide) (hts _ tw_893) (fun _ h9 => h9) rfl dX5_bring_12 ?_
  have j_2 : ((a 0 0) 4 : Int32).toNatClampNeg = (a 0 0 4).toNatClampNeg := m_cl (in_nI hw.1.2.2.2) hv2 (by decide)
  refine va_aldq hx hb hK (ws := [(L 23 0, .inl (cy 7, 200, .inr (.inr (.inr (.inr (fun j => some (L 15 j)))))))]) (hP.one (tw_mem (f := 23) (i := 0) (by decide) rfl)) 0 7 rfl rfl (m_in (in_nI hw.1.2.2.2) hv2 (by decide)) dX5_bring_15 ?_
  refine W.eq (g2 := F0 m 16 ls [.ref (L 15 ((a 0 0 4).toNatClampNeg))]) (by first | (rw [j_2]; done) | (rw [j_2]; rfl)) ?_
  refine lv_astore_n (lv' := [(3, .ref (L 15 ((a 0 0 4).toNatClampNeg))), (2, .ref (L 14 f)), (0, .ref (L 0 0)), (1, .int (nI f))]) hx hb dX5_bring_16 rfl hl (by decide) rfl (fun ls hl => ?_)
  refine lv_aload_n hx hb dX5_bring_17 rfl (lv_at hl 0 rfl) ?_
  refine lv_iload_n hx hb dX5_bring_18 rfl (lv_at hl 3 rfl) ?_
  refine lv_aload_n hx hb dX5_bring_19 rfl (lv_at hl 1 rfl) ?_
  refine va_getN (D := (dC, dI)) (ws := [(L 14 f, .inr (0, [.int ((a 14 f) 0), .int ((a 14 f) 1), .int ((a 14 f) 2), .int ((a 14 f) 3), .int ((a 14 f) 4), .int ((a 14 f) 5), .int ((a 14 f) 6), .int ((a 14 f) 7), .int ((a 14 f) 8), .int ((a 14 f) 9), .int ((a 14 f) 10), .int ((a 14 f) 11)]))]) (ci := 0) (v := .int ((a 14 f) 1)) (C := RX0) (T := TX0) (N := 12) hx hb hts tl_X0 hown hK (hP.one (tw_mem (f := 14) (i := f) hf rfl)) 0 rfl rfl 1 (by decide) (va_Nw.use rfl (te_f32 hE)) (fun _ h9 => h9) rfl dX5_bring_20 ?_
  refine lv_aload_n hx hb dX5_bring_23 rfl (lv_at hl 1 rfl) ?_
  refine va_getN (D := (dC, dI)) (ws := [(L 14 f, .inr (0, [.int ((a 14 f) 0), .int ((a 14 f) 1), .int ((a 14 f) 2), .int ((a 14 f) 3), .int ((a 14 f) 4), .int ((a 14 f) 5), .int ((a 14 f) 6), .int ((a 14 f) 7), .int ((a 14 f) 8), .int ((a 14 f) 9), .int ((a 14 f) 10), .int ((a 14 f) 11)]))]) (ci := 0) (v := .int ((a 14 f) 2)) (C := RX0) (T := TX0) (N := 12) hx hb hts tl_X0 hown hK (hP.one (tw_mem (f := 14) (i := f) hf rfl)) 0 rfl rfl 2 (by decide) (va_Nw.use rfl (te_f33 hE)) (fun _ h9 => h9) rfl dX5_bring_24 ?_
  refine lv_aload_n hx hb dX5_bring_27 rfl (lv_at hl 2 rfl) ?_
  refine va_get (D := (dC, dI)) (ws := [(L 0 0, .inr (5, [.ref (L 1 0), .ref (L 20 0), .ref (L 21 0), .ref (L 22 0), .ref (L 23 0), va_rf tr, .int ((a 0 0) 0), .int ((a 0 0) 1), .int ((a 0 0) 2), .int ((a 0 0) 3), .int ((a 0 0) 4), .int ((a 0 0) 5)]))]) (ci := 5) (v := .int ((a 0 0) 0)) (C := RX5) (T := TX5) (N := 12) hx hb hts tl_X5 hown hK (hP.one (tw_mem (f := 0) (i := 0) (by decide) rfl)) 0 rfl rfl 6 (by decide) (hts _ tw_885) (fun _ h9 => h9) rfl dX5_bring_28 ?_
  have hFc := m_free (C := (TW cy L tr a κ τ)) hP hS hA (fun _ _ h => h)
  refine va_callv (va_runV (As := [.int (nI f), .int ((a 14 f) 1), .int ((a 14 f) 2), .int ((a 0 0) 0)]) (rest := []) ⟨hx, hb, hml, hown, hts⟩ (c_Vehicle_come l dC dI cy L tr a κ τ ((a 0 0 4).toNatClampNeg) (nI f) ((a 14 f) 1) ((a 14 f) 2) ((a 0 0) 0) s.heap.size hT hv2) (tp_cwV 4 hts tw_204 tw_205 tw_206 tw_29 tw_207 rfl rfl (by decide +kernel) ⟨Nat.le_of_ble_eq_true rfl, Nat.le_of_ble_eq_true rfl⟩) ⟨m_blind, va_recv hK (hP.one (e := .inr (7, [.int ((a 15 ((a 0 0 4).toNatClampNeg)) 0), .int ((a 15 ((a 0 0 4).toNatClampNeg)) 1), .int ((a 15 ((a 0 0 4).toNatClampNeg)) 2), .int ((a 15 ((a 0 0 4).toNatClampNeg)) 3), .int ((a 15 ((a 0 0 4).toNatClampNeg)) 4), .int ((a 15 ((a 0 0 4).toNatClampNeg)) 5), .int ((a 15 ((a 0 0 4).toNatClampNeg)) 6), .int ((a 15 ((a 0 0 4).toNatClampNeg)) 7), .int ((a 15 ((a 0 0 4).toNatClampNeg)) 8), .int ((a 15 ((a 0 0 4).toNatClampNeg)) 9), .int ((a 15 ((a 0 0 4).toNatClampNeg)) 10), .int ((a 15 ((a 0 0 4).toNatClampNeg)) 11), .ref (L 16 ((a 0 0 4).toNatClampNeg))])) (tw_mem (f := 15) (i := (a 0 0 4).toNatClampNeg) hv2 rfl)) (ci := 7) (q0 := 0) rfl rfl, fun U hU hW => ⟨rfl, m_pay hK hP hE (fun _ _ h => h) U hU hW⟩⟩ rfl rfl hl.1 rfl (lv_room (Nat.le_of_ble_eq_true rfl)) dX5_bring_31 ⟨(Nat.le_of_ble_eq_true rfl), (Nat.le_of_ble_eq_true rfl)⟩) hS (fun q _ h => hFc q h) hFc (fun u t H1 locs ht hvm hpo hB hz1 hk1 hS => ?_)
  have hP1 := hB
  rw [ht] at hP1
  have hP : mw (dC, dI) vwCl A (TW cy L tr (V_come a ((a 0 0 4).toNatClampNeg) (nI f) ((a 14 f) 1) ((a 14 f) 2) ((a 0 0) 0)) κ τ) H1 := hP.join (fun _ _ h => h) hk1 hFc hP1 (fun _ _ h => Or.inl h)
  generalize H1 = H at hP hS ⊢
  clear hP1 hk1 hFc
  obtain ⟨b1, eb1⟩ : ∃ z : St, z = V_come a ((a 0 0 4).toNatClampNeg) (nI f) ((a 14 f) 1) ((a 14 f) 2) ((a 0 0) 0) := ⟨_, rfl⟩
  rw [← eb1] at hP
  have hwb1 : Wf M b1 := by rw [eb1]; exact T_br1_Wf hf hw
  refine lv_aload_n hx hb dX5_bring_34 rfl (lv_at hl 1 rfl) ?_
  refine lv_dup hx hb dX5_bring_35 rfl ?_
  refine va_getN (D := (dC, dI)) (ws := [(L 14 f, .inr (0, [.int ((b1 14 f) 0), .int ((b1 14 f) 1), .int ((b1 14 f) 2), .int ((b1 14 f) 3), .int ((b1 14 f) 4), .int ((b1 14 f) 5), .int ((b1 14 f) 6), .int ((b1 14 f) 7), .int ((b1 14 f) 8), .int ((b1 14 f) 9), .int ((b1 14 f) 10), .int ((b1 14 f) 11)]))]) (ci := 0) (v := .int ((b1 14 f) 6)) (C := RX0) (T := TX0) (N := 12) hx hb hts tl_X0 hown hK (hP.one (tw_mem (f := 14) (i := f) hf rfl)) 0 rfl rfl 6 (by decide) (va_Nw.use rfl (te_f37 hE)) (fun _ h9 => h9) rfl dX5_bring_36 ?_
  refine lv_iconst (v := 1) hx hb dX5_bring_39 (by decide) ?_
  refine lv_iadd hx hb dX5_bring_40 ?_
  obtain ⟨ws9, k9, hPw, hDw, hk9, -, hbk⟩ := hP.cut (e := .inr (0, [.int ((b1 14 f) 0), .int ((b1 14 f) 1), .int ((b1 14 f) 2), .int ((b1 14 f) 3), .int ((b1 14 f) 4), .int ((b1 14 f) 5), .int ((b1 14 f) 6), .int ((b1 14 f) 7), .int ((b1 14 f) 8), .int ((b1 14 f) 9), .int ((b1 14 f) 10), .int ((b1 14 f) 11)])) (tw_mem (f := 14) (i := f) hf rfl)
  refine va_putN (D := (dC, dI)) (ci := 0) (v := .int (((b1 14 f) 6) + 1)) (ty := .int) (C := RX0) (T := TX0) (N := 12) hx hb hts tl_X0 tyX0 tyX0_ok nmX0 hown hK hPw hDw hS k9 hk9 rfl 6 (by decide) (va_Nw.use rfl (te_f37 hE)) (fun _ h9 => h9) rfl (by decide +kernel) rfl rfl (Nat.le_of_ble_eq_true rfl) dX5_bring_41 (fun H locs hPw hDw hS => ?_)
  have hP : mw (dC, dI) vwCl A (TW cy L tr (S2 b1 14 f (upd (b1 14 f) 6 (((b1 14 f) 6) + 1))) κ τ) H := (hbk _ _ hPw hDw).sub (tw_set (b := S2 b1 14 f (upd (b1 14 f) 6 (((b1 14 f) 6) + 1))) (f := 14) (i := f) (x := upd (b1 14 f) 6 (((b1 14 f) 6) + 1)) hT hf (by decide) rfl)
  clear hbk hPw hDw hk9
  obtain ⟨b2, eb2⟩ : ∃ z : St, z = S2 b1 14 f (upd (b1 14 f) 6 (((b1 14 f) 6) + 1)) := ⟨_, rfl⟩
  rw [← eb2] at hP
  have hwb2 : Wf M b2 := by rw [eb2]; exact T_br2_Wf hf hwb1
  have hcb2 : CV b2 κ := by rw [eb2, eb1]; exact CV.same ((sameR.off (by decide) (by decide)).trans (sameR.off (by decide) (by decide))) (in_le hw.1.1) hκ
  refine lv_aload_n hx hb dX5_bring_44 rfl (lv_at hl 1 rfl) ?_
  refine va_getN (D := (dC, dI)) (ws := [(L 14 f, .inr (0, [.int ((b2 14 f) 0), .int ((b2 14 f) 1), .int ((b2 14 f) 2), .int ((b2 14 f) 3), .int ((b2 14 f) 4), .int ((b2 14 f) 5), .int ((b2 14 f) 6), .int ((b2 14 f) 7), .int ((b2 14 f) 8), .int ((b2 14 f) 9), .int ((b2 14 f) 10), .int ((b2 14 f) 11)]))]) (ci := 0) (v := .int ((b2 14 f) 2)) (C := RX0) (T := TX0) (N := 12) hx hb hts tl_X0 hown hK (hP.one (tw_mem (f := 14) (i := f) hf rfl)) 0 rfl rfl 2 (by decide) (va_Nw.use rfl (te_f33 hE)) (fun _ h9 => h9) rfl dX5_bring_45 ?_
  refine lv_if_ne (tgt := 84) hx hb dX5_bring_48 (by decide) (fun c_1 => ?_) (fun c_1 => ?_)
  · refine lv_aload_n hx hb dX5_bring_84 rfl (lv_at hl 2 rfl) ?_
    refine va_get (D := (dC, dI)) (ws := [(L 0 0, .inr (5, [.ref (L 1 0), .ref (L 20 0), .ref (L 21 0), .ref (L 22 0), .ref (L 23 0), va_rf tr, .int ((b2 0 0) 0), .int ((b2 0 0) 1), .int ((b2 0 0) 2), .int ((b2 0 0) 3), .int ((b2 0 0) 4), .int ((b2 0 0) 5)]))]) (ci := 5) (v := .ref (L 21 0)) (C := RX5) (T := TX5) (N := 12) hx hb hts tl_X5 hown hK (hP.one (tw_mem (f := 0) (i := 0) (by decide) rfl)) 0 rfl rfl 2 (by decide) (hts _ tw_877) (fun _ h9 => h9) rfl dX5_bring_85 ?_
    refine lv_aload_n hx hb dX5_bring_88 rfl (lv_at hl 1 rfl) ?_
    refine va_getN (D := (dC, dI)) (ws := [(L 14 f, .inr (0, [.int ((b2 14 f) 0), .int ((b2 14 f) 1), .int ((b2 14 f) 2), .int ((b2 14 f) 3), .int ((b2 14 f) 4), .int ((b2 14 f) 5), .int ((b2 14 f) 6), .int ((b2 14 f) 7), .int ((b2 14 f) 8), .int ((b2 14 f) 9), .int ((b2 14 f) 10), .int ((b2 14 f) 11)]))]) (ci := 0) (v := .int ((b2 14 f) 0)) (C := RX0) (T := TX0) (N := 12) hx hb hts tl_X0 hown hK (hP.one (tw_mem (f := 14) (i := f) hf rfl)) 0 rfl rfl 0 (by decide) (va_Nw.use rfl (te_f31 hE)) (fun _ h9 => h9) rfl dX5_bring_89 ?_
    have j_3 : ((b2 14 f) 0 : Int32).toNatClampNeg = ((b2 14 f) 0).toNatClampNeg := m_cl (in_nI (hwb2.2.2.2.1 f hf).1) (in_lt (hwb2.2.2.2.1 f hf).1) (by decide)
    refine va_aldq hx hb hK (ws := [(L 21 0, .inl (cy 5, 12, .inr (.inr (.inr (.inr (fun j => some (L 12 j)))))))]) (hP.one (tw_mem (f := 21) (i := 0) (by decide) rfl)) 0 5 rfl rfl (m_in (in_nI (hwb2.2.2.2.1 f hf).1) (in_lt (hwb2.2.2.2.1 f hf).1) (by decide)) dX5_bring_92 ?_
    refine W.eq (g2 := F0 m 93 ls [.ref (L 12 (((b2 14 f) 0).toNatClampNeg))]) (by first | (rw [j_3]; done) | (rw [j_3]; rfl)) ?_
    refine lv_aload_n hx hb dX5_bring_93 rfl (lv_at hl 2 rfl) ?_
    refine va_get (D := (dC, dI)) (ws := [(L 0 0, .inr (5, [.ref (L 1 0), .ref (L 20 0), .ref (L 21 0), .ref (L 22 0), .ref (L 23 0), va_rf tr, .int ((b2 0 0) 0), .int ((b2 0 0) 1), .int ((b2 0 0) 2), .int ((b2 0 0) 3), .int ((b2 0 0) 4), .int ((b2 0 0) 5)]))]) (ci := 5) (v := .int ((b2 0 0) 4)) (C := RX5) (T := TX5) (N := 12) hx hb hts tl_X5 hown hK (hP.one (tw_mem (f := 0) (i := 0) (by decide) rfl)) 0 rfl rfl 10 (by decide) (hts _ tw_893) (fun _ h9 => h9) rfl dX5_bring_94 ?_
    have hFc := m_free (C := (TW cy L tr b2 κ τ)) hP hS hA (fun _ _ h => h)
    refine va_callv (va_runV (As := [.int ((b2 0 0) 4)]) (rest := []) ⟨hx, hb, hml, hown, hts⟩ (c_Row_append_wait l dC dI cy L tr b2 κ τ (((b2 14 f) 0).toNatClampNeg) ((b2 0 0) 4) H.size hT (in_lt (hwb2.2.2.2.1 f hf).1) (hwb2.2.2.1 _ (in_lt (hwb2.2.2.2.1 f hf).1)).2.1) (tp_cwV 1 hts tw_228 tw_229 tw_230 tw_24 tw_231 rfl rfl (by decide +kernel) ⟨Nat.le_of_ble_eq_true rfl, Nat.le_of_ble_eq_true rfl⟩) ⟨m_blind, va_recv hK (hP.one (e := .inr (3, [.ref (L 13 (((b2 14 f) 0).toNatClampNeg)), .int ((b2 12 (((b2 14 f) 0).toNatClampNeg)) 0)])) (tw_mem (f := 12) (i := ((b2 14 f) 0).toNatClampNeg) (in_lt (hwb2.2.2.2.1 f hf).1) rfl)) (ci := 3) (q0 := 0) rfl rfl, fun U hU hW => ⟨rfl, m_pay hK hP hE (fun _ _ h => h) U hU hW⟩⟩ rfl rfl hl.1 rfl (lv_room (Nat.le_of_ble_eq_true rfl)) dX5_bring_97 ⟨(Nat.le_of_ble_eq_true rfl), (Nat.le_of_ble_eq_true rfl)⟩) hS (fun q _ h => hFc q h) hFc (fun u t H1 locs ht hvm hpo hB hz1 hk1 hS => ?_)
    have hP1 := hB
    rw [ht] at hP1
    have hP : mw (dC, dI) vwCl A (TW cy L tr (R_app 12 13 200 b2 (((b2 14 f) 0).toNatClampNeg) ((b2 0 0) 4)) κ τ) H1 := hP.join (fun _ _ h => h) hk1 hFc hP1 (fun _ _ h => Or.inl h)
    generalize H1 = H at hP hS ⊢
    clear hP1 hk1 hFc
    obtain ⟨b3, eb3⟩ : ∃ z : St, z = R_app 12 13 200 b2 (((b2 14 f) 0).toNatClampNeg) ((b2 0 0) 4) := ⟨_, rfl⟩
    rw [← eb3] at hP
    refine lv_aload_n hx hb dX5_bring_100 rfl (lv_at hl 2 rfl) ?_
    refine lv_dup hx hb dX5_bring_101 rfl ?_
    refine va_get (D := (dC, dI)) (ws := [(L 0 0, .inr (5, [.ref (L 1 0), .ref (L 20 0), .ref (L 21 0), .ref (L 22 0), .ref (L 23 0), va_rf tr, .int ((b3 0 0) 0), .int ((b3 0 0) 1), .int ((b3 0 0) 2), .int ((b3 0 0) 3), .int ((b3 0 0) 4), .int ((b3 0 0) 5)]))]) (ci := 5) (v := .int ((b3 0 0) 5)) (C := RX5) (T := TX5) (N := 12) hx hb hts tl_X5 hown hK (hP.one (tw_mem (f := 0) (i := 0) (by decide) rfl)) 0 rfl rfl 11 (by decide) (hts _ tw_895) (fun _ h9 => h9) rfl dX5_bring_102 ?_
    refine lv_iconst (v := 1) hx hb dX5_bring_105 (by decide) ?_
    refine lv_iadd hx hb dX5_bring_106 ?_
    obtain ⟨ws9, k9, hPw, hDw, hk9, -, hbk⟩ := hP.cut (e := .inr (5, [.ref (L 1 0), .ref (L 20 0), .ref (L 21 0), .ref (L 22 0), .ref (L 23 0), va_rf tr, .int ((b3 0 0) 0), .int ((b3 0 0) 1), .int ((b3 0 0) 2), .int ((b3 0 0) 3), .int ((b3 0 0) 4), .int ((b3 0 0) 5)])) (tw_mem (f := 0) (i := 0) (by decide) rfl)
    refine va_put (D := (dC, dI)) (ci := 5) (v := .int (((b3 0 0) 5) + 1)) (ty := .int) (C := RX5) (T := TX5) (N := 12) hx hb hts tl_X5 tyX5 tyX5_ok nmX5 hown hK hPw hDw hS k9 hk9 rfl 11 (by decide) (hts _ tw_895) (fun _ h9 => h9) rfl (by decide +kernel) rfl rfl (Nat.le_of_ble_eq_true rfl) dX5_bring_107 (fun H locs hPw hDw hS => ?_)
    have hP : mw (dC, dI) vwCl A (TW cy L tr (S2 b3 0 0 (upd (b3 0 0) 5 (((b3 0 0) 5) + 1))) κ τ) H := (hbk _ _ hPw hDw).sub (tw_set (b := S2 b3 0 0 (upd (b3 0 0) 5 (((b3 0 0) 5) + 1))) (f := 0) (i := 0) (x := upd (b3 0 0) 5 (((b3 0 0) 5) + 1)) hT (by decide) (by decide) rfl)
    clear hbk hPw hDw hk9
    obtain ⟨b4, eb4⟩ : ∃ z : St, z = S2 b3 0 0 (upd (b3 0 0) 5 (((b3 0 0) 5) + 1)) := ⟨_, rfl⟩
    rw [← eb4] at hP
    refine lv_aload_n hx hb dX5_bring_110 rfl (lv_at hl 2 rfl) ?_
    refine lv_dup hx hb dX5_bring_111 rfl ?_
    refine va_get (D := (dC, dI)) (ws := [(L 0 0, .inr (5, [.ref (L 1 0), .ref (L 20 0), .ref (L 21 0), .ref (L 22 0), .ref (L 23 0), va_rf tr, .int ((b4 0 0) 0), .int ((b4 0 0) 1), .int ((b4 0 0) 2), .int ((b4 0 0) 3), .int ((b4 0 0) 4), .int ((b4 0 0) 5)]))]) (ci := 5) (v := .int ((b4 0 0) 4)) (C := RX5) (T := TX5) (N := 12) hx hb hts tl_X5 hown hK (hP.one (tw_mem (f := 0) (i := 0) (by decide) rfl)) 0 rfl rfl 10 (by decide) (hts _ tw_893) (fun _ h9 => h9) rfl dX5_bring_112 ?_
    refine lv_iconst (v := 1) hx hb dX5_bring_115 (by decide) ?_
    refine lv_iadd hx hb dX5_bring_116 ?_
    obtain ⟨ws9, k9, hPw, hDw, hk9, -, hbk⟩ := hP.cut (e := .inr (5, [.ref (L 1 0), .ref (L 20 0), .ref (L 21 0), .ref (L 22 0), .ref (L 23 0), va_rf tr, .int ((b4 0 0) 0), .int ((b4 0 0) 1), .int ((b4 0 0) 2), .int ((b4 0 0) 3), .int ((b4 0 0) 4), .int ((b4 0 0) 5)])) (tw_mem (f := 0) (i := 0) (by decide) rfl)
    refine va_put (D := (dC, dI)) (ci := 5) (v := .int (((b4 0 0) 4) + 1)) (ty := .int) (C := RX5) (T := TX5) (N := 12) hx hb hts tl_X5 tyX5 tyX5_ok nmX5 hown hK hPw hDw hS k9 hk9 rfl 10 (by decide) (hts _ tw_893) (fun _ h9 => h9) rfl (by decide +kernel) rfl rfl (Nat.le_of_ble_eq_true rfl) dX5_bring_117 (fun H locs hPw hDw hS => ?_)
    have hP : mw (dC, dI) vwCl A (TW cy L tr (S2 b4 0 0 (upd (b4 0 0) 4 (((b4 0 0) 4) + 1))) κ τ) H := (hbk _ _ hPw hDw).sub (tw_set (b := S2 b4 0 0 (upd (b4 0 0) 4 (((b4 0 0) 4) + 1))) (f := 0) (i := 0) (x := upd (b4 0 0) 4 (((b4 0 0) 4) + 1)) hT (by decide) (by decide) rfl)
    clear hbk hPw hDw hk9
    refine W.widen (k := 0) (n := 0) (Nat.le_of_ble_eq_true rfl) (Nat.le_of_ble_eq_true rfl) ?_
    have s_1 : S2 b4 0 0 (upd (b4 0 0) 4 (((b4 0 0) 4) + 1)) = T_bring a f := by
      have e9 : T_br2 (T_br1 a f) f = b2 := by rw [eb2, eb1]; rfl
      unfold T_bring
      rw [e9]
      unfold T_br3
      rw [if_neg c_1, eb4, eb3]
      rfl
    rw [s_1] at hP
    have g_1 : CV (T_bring a f) κ := by
      exact CV.same T_bring_sameR (in_le hw.1.1) hκ
    exact W.vret hx hb hr (fun t ht hW => ⟨⟨(), rfl, trivial, ⟨κ, g_1, by show mw _ _ _ _ t.heap; rw [ht]; exact hP⟩⟩, hS.F ht⟩) hS.2.2 dX5_bring_120
  · refine lv_aload_n hx hb dX5_bring_51 rfl (lv_at hl 2 rfl) ?_
    refine va_get (D := (dC, dI)) (ws := [(L 0 0, .inr (5, [.ref (L 1 0), .ref (L 20 0), .ref (L 21 0), .ref (L 22 0), .ref (L 23 0), va_rf tr, .int ((b2 0 0) 0), .int ((b2 0 0) 1), .int ((b2 0 0) 2), .int ((b2 0 0) 3), .int ((b2 0 0) 4), .int ((b2 0 0) 5)]))]) (ci := 5) (v := .ref (L 1 0)) (C := RX5) (T := TX5) (N := 12) hx hb hts tl_X5 hown hK (hP.one (tw_mem (f := 0) (i := 0) (by decide) rfl)) 0 rfl rfl 0 (by decide) (hts _ tw_873) (fun _ h9 => h9) rfl dX5_bring_52 ?_
    refine lv_aload_n hx hb dX5_bring_55 rfl (lv_at hl 0 rfl) ?_
    refine lv_aload_n hx hb dX5_bring_56 rfl (lv_at hl 1 rfl) ?_
    refine va_getN (D := (dC, dI)) (ws := [(L 14 f, .inr (0, [.int ((b2 14 f) 0), .int ((b2 14 f) 1), .int ((b2 14 f) 2), .int ((b2 14 f) 3), .int ((b2 14 f) 4), .int ((b2 14 f) 5), .int ((b2 14 f) 6), .int ((b2 14 f) 7), .int ((b2 14 f) 8), .int ((b2 14 f) 9), .int ((b2 14 f) 10), .int ((b2 14 f) 11)]))]) (ci := 0) (v := .int ((b2 14 f) 0)) (C := RX0) (T := TX0) (N := 12) hx hb hts tl_X0 hown hK (hP.one (tw_mem (f := 14) (i := f) hf rfl)) 0 rfl rfl 0 (by decide) (va_Nw.use rfl (te_f31 hE)) (fun _ h9 => h9) rfl dX5_bring_57 ?_
    have hFc := m_free (C := (TW cy L tr b2 κ τ)) hP hS hA (fun _ _ h => h)
    refine va_calli (va_runV (As := [.ref (L 15 ((a 0 0 4).toNatClampNeg)), .int ((b2 14 f) 0)]) (rest := []) ⟨hx, hb, hml, hown, hts⟩ (c_Roads_planWay l dC dI cy L tr b2 κ τ M ((a 0 0 4).toNatClampNeg) ((b2 14 f) 0) H.size hT hwb2 hv2 (hwb2.2.2.2.1 f hf).1 hcb2) (tp_cwV 2 hts tw_208 tw_209 tw_210 tw_22 tw_211 rfl rfl (by decide +kernel) ⟨Nat.le_of_ble_eq_true rfl, Nat.le_of_ble_eq_true rfl⟩) ⟨m_blind, va_recv hK (hP.one (e := .inr (2, [.ref (L 24 0), .int ((b2 1 0) 0), .ref (L 25 0), .int κ.1])) (tw_mem (f := 1) (i := 0) (by decide) rfl)) (ci := 2) (q0 := 0) rfl rfl, fun U hU hW => ⟨rfl, m_pay hK hP hE (fun _ _ h => h) U hU hW⟩⟩ rfl rfl hl.1 rfl (lv_room (Nat.le_of_ble_eq_true rfl)) dX5_bring_60 ⟨(Nat.le_of_ble_eq_true rfl), (Nat.le_of_ble_eq_true rfl)⟩) hS (fun q _ h => hFc q h) hFc (fun r_3 u t H1 locs ht hvm hpo hB hz1 hk1 hS => ?_)
    obtain rfl := hpo
    obtain ⟨z_1, f_1, f_2, hP1⟩ := hB
    subst f_1
    rw [ht] at hP1
    have hP : mw (dC, dI) vwCl A (TW cy L tr ((P_way ((a 0 0 4).toNatClampNeg) (b2 15 ((a 0 0 4).toNatClampNeg) 1) 12 ((b2 14 f) 0) b2).1) z_1 τ) H1 := hP.join (fun _ _ h => h) hk1 hFc hP1 (fun _ _ h => Or.inl h)
    generalize H1 = H at hP hS ⊢
    clear hP1 hk1 hFc
    obtain ⟨b3, eb3⟩ : ∃ z : St, z = (P_way ((a 0 0 4).toNatClampNeg) (b2 15 ((a 0 0 4).toNatClampNeg) 1) 12 ((b2 14 f) 0) b2).1 := ⟨_, rfl⟩
    rw [← eb3] at hP
    have hwb3 : Wf M b3 := by rw [eb3]; exact P_way_Wf hv2 _ _ _ hwb2
    have hcb3 : CV b3 z_1 := by rw [eb3]; exact f_2
    refine lv_if_ne (tgt := 84) hx hb dX5_bring_63 (by decide) (fun c_2 => ?_) (fun c_2 => ?_)
    · refine lv_aload_n hx hb dX5_bring_84 rfl (lv_at hl 2 rfl) ?_
      refine va_get (D := (dC, dI)) (ws := [(L 0 0, .inr (5, [.ref (L 1 0), .ref (L 20 0), .ref (L 21 0), .ref (L 22 0), .ref (L 23 0), va_rf tr, .int ((b3 0 0) 0), .int ((b3 0 0) 1), .int ((b3 0 0) 2), .int ((b3 0 0) 3), .int ((b3 0 0) 4), .int ((b3 0 0) 5)]))]) (ci := 5) (v := .ref (L 21 0)) (C := RX5) (T := TX5) (N := 12) hx hb hts tl_X5 hown hK (hP.one (tw_mem (f := 0) (i := 0) (by decide) rfl)) 0 rfl rfl 2 (by decide) (hts _ tw_877) (fun _ h9 => h9) rfl dX5_bring_85 ?_
      refine lv_aload_n hx hb dX5_bring_88 rfl (lv_at hl 1 rfl) ?_
      refine va_getN (D := (dC, dI)) (ws := [(L 14 f, .inr (0, [.int ((b3 14 f) 0), .int ((b3 14 f) 1), .int ((b3 14 f) 2), .int ((b3 14 f) 3), .int ((b3 14 f) 4), .int ((b3 14 f) 5), .int ((b3 14 f) 6), .int ((b3 14 f) 7), .int ((b3 14 f) 8), .int ((b3 14 f) 9), .int ((b3 14 f) 10), .int ((b3 14 f) 11)]))]) (ci := 0) (v := .int ((b3 14 f) 0)) (C := RX0) (T := TX0) (N := 12) hx hb hts tl_X0 hown hK (hP.one (tw_mem (f := 14) (i := f) hf rfl)) 0 rfl rfl 0 (by decide) (va_Nw.use rfl (te_f31 hE)) (fun _ h9 => h9) rfl dX5_bring_89 ?_
      have j_4 : ((b3 14 f) 0 : Int32).toNatClampNeg = ((b3 14 f) 0).toNatClampNeg := m_cl (in_nI (hwb3.2.2.2.1 f hf).1) (in_lt (hwb3.2.2.2.1 f hf).1) (by decide)
      refine va_aldq hx hb hK (ws := [(L 21 0, .inl (cy 5, 12, .inr (.inr (.inr (.inr (fun j => some (L 12 j)))))))]) (hP.one (tw_mem (f := 21) (i := 0) (by decide) rfl)) 0 5 rfl rfl (m_in (in_nI (hwb3.2.2.2.1 f hf).1) (in_lt (hwb3.2.2.2.1 f hf).1) (by decide)) dX5_bring_92 ?_
      refine W.eq (g2 := F0 m 93 ls [.ref (L 12 (((b3 14 f) 0).toNatClampNeg))]) (by first | (rw [j_4]; done) | (rw [j_4]; rfl)) ?_
      refine lv_aload_n hx hb dX5_bring_93 rfl (lv_at hl 2 rfl) ?_
      refine va_get (D := (dC, dI)) (ws := [(L 0 0, .inr (5, [.ref (L 1 0), .ref (L 20 0), .ref (L 21 0), .ref (L 22 0), .ref (L 23 0), va_rf tr, .int ((b3 0 0) 0), .int ((b3 0 0) 1), .int ((b3 0 0) 2), .int ((b3 0 0) 3), .int ((b3 0 0) 4), .int ((b3 0 0) 5)]))]) (ci := 5) (v := .int ((b3 0 0) 4)) (C := RX5) (T := TX5) (N := 12) hx hb hts tl_X5 hown hK (hP.one (tw_mem (f := 0) (i := 0) (by decide) rfl)) 0 rfl rfl 10 (by decide) (hts _ tw_893) (fun _ h9 => h9) rfl dX5_bring_94 ?_
      have hFc := m_free (C := (TW cy L tr b3 z_1 τ)) hP hS hA (fun _ _ h => h)
      refine va_callv (va_runV (As := [.int ((b3 0 0) 4)]) (rest := []) ⟨hx, hb, hml, hown, hts⟩ (c_Row_append_wait l dC dI cy L tr b3 z_1 τ (((b3 14 f) 0).toNatClampNeg) ((b3 0 0) 4) H.size hT (in_lt (hwb3.2.2.2.1 f hf).1) (hwb3.2.2.1 _ (in_lt (hwb3.2.2.2.1 f hf).1)).2.1) (tp_cwV 1 hts tw_228 tw_229 tw_230 tw_24 tw_231 rfl rfl (by decide +kernel) ⟨Nat.le_of_ble_eq_true rfl, Nat.le_of_ble_eq_true rfl⟩) ⟨m_blind, va_recv hK (hP.one (e := .inr (3, [.ref (L 13 (((b3 14 f) 0).toNatClampNeg)), .int ((b3 12 (((b3 14 f) 0).toNatClampNeg)) 0)])) (tw_mem (f := 12) (i := ((b3 14 f) 0).toNatClampNeg) (in_lt (hwb3.2.2.2.1 f hf).1) rfl)) (ci := 3) (q0 := 0) rfl rfl, fun U hU hW => ⟨rfl, m_pay hK hP hE (fun _ _ h => h) U hU hW⟩⟩ rfl rfl hl.1 rfl (lv_room (Nat.le_of_ble_eq_true rfl)) dX5_bring_97 ⟨(Nat.le_of_ble_eq_true rfl), (Nat.le_of_ble_eq_true rfl)⟩) hS (fun q _ h => hFc q h) hFc (fun u t H1 locs ht hvm hpo hB hz1 hk1 hS => ?_)
      have hP1 := hB
      rw [ht] at hP1
      have hP : mw (dC, dI) vwCl A (TW cy L tr (R_app 12 13 200 b3 (((b3 14 f) 0).toNatClampNeg) ((b3 0 0) 4)) z_1 τ) H1 := hP.join (fun _ _ h => h) hk1 hFc hP1 (fun _ _ h => Or.inl h)
      generalize H1 = H at hP hS ⊢
      clear hP1 hk1 hFc
      obtain ⟨b4, eb4⟩ : ∃ z : St, z = R_app 12 13 200 b3 (((b3 14 f) 0).toNatClampNeg) ((b3 0 0) 4) := ⟨_, rfl⟩
      rw [← eb4] at hP
      refine lv_aload_n hx hb dX5_bring_100 rfl (lv_at hl 2 rfl) ?_
      refine lv_dup hx hb dX5_bring_101 rfl ?_
      refine va_get (D := (dC, dI)) (ws := [(L 0 0, .inr (5, [.ref (L 1 0), .ref (L 20 0), .ref (L 21 0), .ref (L 22 0), .ref (L 23 0), va_rf tr, .int ((b4 0 0) 0), .int ((b4 0 0) 1), .int ((b4 0 0) 2), .int ((b4 0 0) 3), .int ((b4 0 0) 4), .int ((b4 0 0) 5)]))]) (ci := 5) (v := .int ((b4 0 0) 5)) (C := RX5) (T := TX5) (N := 12) hx hb hts tl_X5 hown hK (hP.one (tw_mem (f := 0) (i := 0) (by decide) rfl)) 0 rfl rfl 11 (by decide) (hts _ tw_895) (fun _ h9 => h9) rfl dX5_bring_102 ?_
      refine lv_iconst (v := 1) hx hb dX5_bring_105 (by decide) ?_
      refine lv_iadd hx hb dX5_bring_106 ?_
      obtain ⟨ws9, k9, hPw, hDw, hk9, -, hbk⟩ := hP.cut (e := .inr (5, [.ref (L 1 0), .ref (L 20 0), .ref (L 21 0), .ref (L 22 0), .ref (L 23 0), va_rf tr, .int ((b4 0 0) 0), .int ((b4 0 0) 1), .int ((b4 0 0) 2), .int ((b4 0 0) 3), .int ((b4 0 0) 4), .int ((b4 0 0) 5)])) (tw_mem (f := 0) (i := 0) (by decide) rfl)
      refine va_put (D := (dC, dI)) (ci := 5) (v := .int (((b4 0 0) 5) + 1)) (ty := .int) (C := RX5) (T := TX5) (N := 12) hx hb hts tl_X5 tyX5 tyX5_ok nmX5 hown hK hPw hDw hS k9 hk9 rfl 11 (by decide) (hts _ tw_895) (fun _ h9 => h9) rfl (by decide +kernel) rfl rfl (Nat.le_of_ble_eq_true rfl) dX5_bring_107 (fun H locs hPw hDw hS => ?_)
      have hP : mw (dC, dI) vwCl A (TW cy L tr (S2 b4 0 0 (upd (b4 0 0) 5 (((b4 0 0) 5) + 1))) z_1 τ) H := (hbk _ _ hPw hDw).sub (tw_set (b := S2 b4 0 0 (upd (b4 0 0) 5 (((b4 0 0) 5) + 1))) (f := 0) (i := 0) (x := upd (b4 0 0) 5 (((b4 0 0) 5) + 1)) hT (by decide) (by decide) rfl)
      clear hbk hPw hDw hk9
      obtain ⟨b5, eb5⟩ : ∃ z : St, z = S2 b4 0 0 (upd (b4 0 0) 5 (((b4 0 0) 5) + 1)) := ⟨_, rfl⟩
      rw [← eb5] at hP
      refine lv_aload_n hx hb dX5_bring_110 rfl (lv_at hl 2 rfl) ?_
      refine lv_dup hx hb dX5_bring_111 rfl ?_
      refine va_get (D := (dC, dI)) (ws := [(L 0 0, .inr (5, [.ref (L 1 0), .ref (L 20 0), .ref (L 21 0), .ref (L 22 0), .ref (L 23 0), va_rf tr, .int ((b5 0 0) 0), .int ((b5 0 0) 1), .int ((b5 0 0) 2), .int ((b5 0 0) 3), .int ((b5 0 0) 4), .int ((b5 0 0) 5)]))]) (ci := 5) (v := .int ((b5 0 0) 4)) (C := RX5) (T := TX5) (N := 12) hx hb hts tl_X5 hown hK (hP.one (tw_mem (f := 0) (i := 0) (by decide) rfl)) 0 rfl rfl 10 (by decide) (hts _ tw_893) (fun _ h9 => h9) rfl dX5_bring_112 ?_
      refine lv_iconst (v := 1) hx hb dX5_bring_115 (by decide) ?_
      refine lv_iadd hx hb dX5_bring_116 ?_
      obtain ⟨ws9, k9, hPw, hDw, hk9, -, hbk⟩ := hP.cut (e := .inr (5, [.ref (L 1 0), .ref (L 20 0), .ref (L 21 0), .ref (L 22 0), .ref (L 23 0), va_rf tr, .int ((b5 0 0) 0), .int ((b5 0 0) 1), .int ((b5 0 0) 2), .int ((b5 0 0) 3), .int ((b5 0 0) 4), .int ((b5 0 0) 5)])) (tw_mem (f := 0) (i := 0) (by decide) rfl)
      refine va_put (D := (dC, dI)) (ci := 5) (v := .int (((b5 0 0) 4) + 1)) (ty := .int) (C := RX5) (T := TX5) (N := 12) hx hb hts tl_X5 tyX5 tyX5_ok nmX5 hown hK hPw hDw hS k9 hk9 rfl 10 (by decide) (hts _ tw_893) (fun _ h9 => h9) rfl (by decide +kernel) rfl rfl (Nat.le_of_ble_eq_true rfl) dX5_bring_117 (fun H locs hPw hDw hS => ?_)
      have hP : mw (dC, dI) vwCl A (TW cy L tr (S2 b5 0 0 (upd (b5 0 0) 4 (((b5 0 0) 4) + 1))) z_1 τ) H := (hbk _ _ hPw hDw).sub (tw_set (b := S2 b5 0 0 (upd (b5 0 0) 4 (((b5 0 0) 4) + 1))) (f := 0) (i := 0) (x := upd (b5 0 0) 4 (((b5 0 0) 4) + 1)) hT (by decide) (by decide) rfl)
      clear hbk hPw hDw hk9
      refine W.widen (k := 0) (n := 0) (Nat.le_of_ble_eq_true rfl) (Nat.le_of_ble_eq_true rfl) ?_
      have s_2 : S2 b5 0 0 (upd (b5 0 0) 4 (((b5 0 0) 4) + 1)) = T_bring a f := by
        have e9 : T_br2 (T_br1 a f) f = b2 := by rw [eb2, eb1]; rfl
        unfold T_bring
        rw [e9]
        unfold T_br3
        rw [if_pos c_1, if_neg c_2, eb5, eb4, eb3]
        rfl
      rw [s_2] at hP
      have g_2 : CV (T_bring a f) z_1 := by
        refine CV.same (a := b3) (sameR.trans (b := a) ?_ T_bring_sameR) (in_le hwb3.1.1) hcb3
        rw [eb3, eb2, eb1]
        exact (((sameR.off (by decide) (by decide)).trans (sameR.off (by decide) (by decide))).trans P_way_sameR).symm
      exact W.vret hx hb hr (fun t ht hW => ⟨⟨(), rfl, trivial, ⟨z_1, g_2, by show mw _ _ _ _ t.heap; rw [ht]; exact hP⟩⟩, hS.F ht⟩) hS.2.2 dX5_bring_120
    · refine lv_aload_n hx hb dX5_bring_66 rfl (lv_at hl 0 rfl) ?_
      refine lv_iconst (v := 3) hx hb dX5_bring_67 (by decide) ?_
      obtain ⟨ws9, k9, hPw, hDw, hk9, -, hbk⟩ := hP.cut (e := .inr (7, [.int ((b3 15 ((a 0 0 4).toNatClampNeg)) 0), .int ((b3 15 ((a 0 0 4).toNatClampNeg)) 1), .int ((b3 15 ((a 0 0 4).toNatClampNeg)) 2), .int ((b3 15 ((a 0 0 4).toNatClampNeg)) 3), .int ((b3 15 ((a 0 0 4).toNatClampNeg)) 4), .int ((b3 15 ((a 0 0 4).toNatClampNeg)) 5), .int ((b3 15 ((a 0 0 4).toNatClampNeg)) 6), .int ((b3 15 ((a 0 0 4).toNatClampNeg)) 7), .int ((b3 15 ((a 0 0 4).toNatClampNeg)) 8), .int ((b3 15 ((a 0 0 4).toNatClampNeg)) 9), .int ((b3 15 ((a 0 0 4).toNatClampNeg)) 10), .int ((b3 15 ((a 0 0 4).toNatClampNeg)) 11), .ref (L 16 ((a 0 0 4).toNatClampNeg))])) (tw_mem (f := 15) (i := (a 0 0 4).toNatClampNeg) hv2 rfl)
      refine va_putN (D := (dC, dI)) (ci := 7) (v := .int 3) (ty := .int) (C := RX7) (T := TX7) (N := 13) hx hb hts tl_X7 tyX7 tyX7_ok nmX7 hown hK hPw hDw hS k9 hk9 rfl 3 (by decide) (va_Nw.use rfl (te_f49 hE)) (fun _ h9 => h9) rfl (by decide +kernel) rfl rfl (Nat.le_of_ble_eq_true rfl) dX5_bring_68 (fun H locs hPw hDw hS => ?_)
      have hP : mw (dC, dI) vwCl A (TW cy L tr (S2 b3 15 ((a 0 0 4).toNatClampNeg) (upd (b3 15 ((a 0 0 4).toNatClampNeg)) 3 3)) z_1 τ) H := (hbk _ _ hPw hDw).sub (tw_set (b := S2 b3 15 ((a 0 0 4).toNatClampNeg) (upd (b3 15 ((a 0 0 4).toNatClampNeg)) 3 3)) (f := 15) (i := (a 0 0 4).toNatClampNeg) (x := upd (b3 15 ((a 0 0 4).toNatClampNeg)) 3 3) hT hv2 (by decide) rfl)
      clear hbk hPw hDw hk9
      refine lv_aload_n hx hb dX5_bring_71 rfl (lv_at hl 1 rfl) ?_
      refine lv_dup hx hb dX5_bring_72 rfl ?_
      refine va_getN (D := (dC, dI)) (ws := [(L 14 f, .inr (0, [.int ((b3 14 f) 0), .int ((b3 14 f) 1), .int ((b3 14 f) 2), .int ((b3 14 f) 3), .int ((b3 14 f) 4), .int ((b3 14 f) 5), .int ((b3 14 f) 6), .int ((b3 14 f) 7), .int ((b3 14 f) 8), .int ((b3 14 f) 9), .int ((b3 14 f) 10), .int ((b3 14 f) 11)]))]) (ci := 0) (v := .int ((b3 14 f) 8)) (C := RX0) (T := TX0) (N := 12) hx hb hts tl_X0 hown hK (hP.one (tw_mem (f := 14) (i := f) hf (S2_nf (by decide)))) 0 rfl rfl 8 (by decide) (va_Nw.use rfl (te_f40 hE)) (fun _ h9 => h9) rfl dX5_bring_73 ?_
      refine lv_iconst (v := 1) hx hb dX5_bring_76 (by decide) ?_
      refine lv_iadd hx hb dX5_bring_77 ?_
      obtain ⟨ws9, k9, hPw, hDw, hk9, -, hbk⟩ := hP.cut (e := .inr (0, [.int ((b3 14 f) 0), .int ((b3 14 f) 1), .int ((b3 14 f) 2), .int ((b3 14 f) 3), .int ((b3 14 f) 4), .int ((b3 14 f) 5), .int ((b3 14 f) 6), .int ((b3 14 f) 7), .int ((b3 14 f) 8), .int ((b3 14 f) 9), .int ((b3 14 f) 10), .int ((b3 14 f) 11)])) (tw_mem (f := 14) (i := f) hf (S2_nf (by decide)))
      refine va_putN (D := (dC, dI)) (ci := 0) (v := .int (((b3 14 f) 8) + 1)) (ty := .int) (C := RX0) (T := TX0) (N := 12) hx hb hts tl_X0 tyX0 tyX0_ok nmX0 hown hK hPw hDw hS k9 hk9 rfl 8 (by decide) (va_Nw.use rfl (te_f40 hE)) (fun _ h9 => h9) rfl (by decide +kernel) rfl rfl (Nat.le_of_ble_eq_true rfl) dX5_bring_78 (fun H locs hPw hDw hS => ?_)
      have hP : mw (dC, dI) vwCl A (TW cy L tr (S2 (S2 b3 15 ((a 0 0 4).toNatClampNeg) (upd (b3 15 ((a 0 0 4).toNatClampNeg)) 3 3)) 14 f (upd (b3 14 f) 8 (((b3 14 f) 8) + 1))) z_1 τ) H := (hbk _ _ hPw hDw).sub (tw_set (b := S2 (S2 b3 15 ((a 0 0 4).toNatClampNeg) (upd (b3 15 ((a 0 0 4).toNatClampNeg)) 3 3)) 14 f (upd (b3 14 f) 8 (((b3 14 f) 8) + 1))) (f := 14) (i := f) (x := upd (b3 14 f) 8 (((b3 14 f) 8) + 1)) hT hf (by decide) rfl)
      clear hbk hPw hDw hk9
      obtain ⟨b4, eb4⟩ : ∃ z : St, z = S2 (S2 b3 15 ((a 0 0 4).toNatClampNeg) (upd (b3 15 ((a 0 0 4).toNatClampNeg)) 3 3)) 14 f (upd (b3 14 f) 8 (((b3 14 f) 8) + 1)) := ⟨_, rfl⟩
      rw [← eb4] at hP
      refine lv_goto (tgt := 110) hx hb dX5_bring_81 (by decide) ?_
      refine lv_aload_n hx hb dX5_bring_110 rfl (lv_at hl 2 rfl) ?_
      refine lv_dup hx hb dX5_bring_111 rfl ?_
      refine va_get (D := (dC, dI)) (ws := [(L 0 0, .inr (5, [.ref (L 1 0), .ref (L 20 0), .ref (L 21 0), .ref (L 22 0), .ref (L 23 0), va_rf tr, .int ((b4 0 0) 0), .int ((b4 0 0) 1), .int ((b4 0 0) 2), .int ((b4 0 0) 3), .int ((b4 0 0) 4), .int ((b4 0 0) 5)]))]) (ci := 5) (v := .int ((b4 0 0) 4)) (C := RX5) (T := TX5) (N := 12) hx hb hts tl_X5 hown hK (hP.one (tw_mem (f := 0) (i := 0) (by decide) rfl)) 0 rfl rfl 10 (by decide) (hts _ tw_893) (fun _ h9 => h9) rfl dX5_bring_112 ?_
      refine lv_iconst (v := 1) hx hb dX5_bring_115 (by decide) ?_
      refine lv_iadd hx hb dX5_bring_116 ?_
      obtain ⟨ws9, k9, hPw, hDw, hk9, -, hbk⟩ := hP.cut (e := .inr (5, [.ref (L 1 0), .ref (L 20 0), .ref (L 21 0), .ref (L 22 0), .ref (L 23 0), va_rf tr, .int ((b4 0 0) 0), .int ((b4 0 0) 1), .int ((b4 0 0) 2), .int ((b4 0 0) 3), .int ((b4 0 0) 4), .int ((b4 0 0) 5)])) (tw_mem (f := 0) (i := 0) (by decide) rfl)
      refine va_put (D := (dC, dI)) (ci := 5) (v := .int (((b4 0 0) 4) + 1)) (ty := .int) (C := RX5) (T := TX5) (N := 12) hx hb hts tl_X5 tyX5 tyX5_ok nmX5 hown hK hPw hDw hS k9 hk9 rfl 10 (by decide) (hts _ tw_893) (fun _ h9 => h9) rfl (by decide +kernel) rfl rfl (Nat.le_of_ble_eq_true rfl) dX5_bring_117 (fun H locs hPw hDw hS => ?_)
      have hP : mw (dC, dI) vwCl A (TW cy L tr (S2 b4 0 0 (upd (b4 0 0) 4 (((b4 0 0) 4) + 1))) z_1 τ) H := (hbk _ _ hPw hDw).sub (tw_set (b := S2 b4 0 0 (upd (b4 0 0) 4 (((b4 0 0) 4) + 1))) (f := 0) (i := 0) (x := upd (b4 0 0) 4 (((b4 0 0) 4) + 1)) hT (by decide) (by decide) rfl)
      clear hbk hPw hDw hk9
      refine W.widen (k := 0) (n := 0) (Nat.le_of_ble_eq_true rfl) (Nat.le_of_ble_eq_true rfl) ?_
      have s_3 : S2 b4 0 0 (upd (b4 0 0) 4 (((b4 0 0) 4) + 1)) = T_bring a f := by
        have e9 : T_br2 (T_br1 a f) f = b2 := by rw [eb2, eb1]; rfl
        unfold T_bring
        rw [e9]
        unfold T_br3
        rw [if_pos c_1, if_pos c_2, eb4, eb3]
        rfl
      rw [s_3] at hP
      have g_3 : CV (T_bring a f) z_1 := by
        refine CV.same (a := b3) (sameR.trans (b := a) ?_ T_bring_sameR) (in_le hwb3.1.1) hcb3
        rw [eb3, eb2, eb1]
        exact (((sameR.off (by decide) (by decide)).trans (sameR.off (by decide) (by decide))).trans P_way_sameR).symm
      exact W.vret hx hb hr (fun t ht hW => ⟨⟨(), rfl, trivial, ⟨z_1, g_3, by show mw _ _ _ _ t.heap; rw [ht]; exact hP⟩⟩, hS.F ht⟩) hS.2.2 dX5_bring_120
set_option maxRecDepth 100000 in
set_option maxHeartbeats 4000000 in
/-- Traffic.bringVehicles -/
theorem c_Traffic_bringVehicles (l : Launch) (dC : Nat → ClassId) (dI : Nat → Nat → Nat) (cy : Nat → ClassId) (L : Lay) (tr : Option Nat) (a : St) (κ : Kap) (τ : Tau) (M : Nat) (sz : Nat) (hT : TL L tr τ) (hw : Wf M a) (hκ : CV a κ) : Met l yX5_bringVehicles (tp_w yX5_bringVehicles cX5_bringVehicles 2 none) ({ frames := 5, cells := 0, slots := 0, locals := 126 }) (va_Pc [.ref (L 0 0)] (mPre dC dI cy (TW cy L tr a κ τ) sz)) (va_Qv (fun _ : Unit => True) (fun (_ : Unit) (t : State) => ∃ (κ2 : Kap), (CV (T_flows a) κ2) ∧ mw (dC, dI) vwCl (mA (TW cy L tr a κ τ) sz) (TW cy L tr (T_flows a) κ2 τ) t.heap) (mA (TW cy L tr a κ τ) sz)) (0) (0) (mA (TW cy L tr a κ τ) sz) := by
  refine Met.ofW (cc := cX5_bringVehicles) (maxL := 2) (ret := none) (by decide) rfl ?_
  intro p e s m args below meth c s₁ B hml hv
  obtain ⟨rfl, hsz, hP, hK, hE⟩ := hv
  have hx := B.exec
  have hb := B.bytes
  have hr := B.returns
  have hts0 := atoms_spec (ws := tp_w yX5_bringVehicles cX5_bringVehicles 2 none) B.pre
  have hts : ∀ w ∈ tp_all, w.before _ s = true := fun w h => hts0 w (List.mem_cons_of_mem _ h)
  have hown : s.vm.findClass RX5 = some m.cls := findClass_of_methodNamed B.named
  have hlocks := B.notSynchronized
  subst hsz
  have hP := hP.self s.heap.size
  generalize hAe : mA (TW cy L tr a κ τ) s.heap.size = A at hP ⊢
  have hA : ∀ q : Nat, s.heap.size ≤ q → A q := fun q h => by rw [← hAe]; exact Or.inr h
  have hS : va_S A s.heap s.heap [] := va_S.rf
  have hl9 := lv_entry ([.ref (L 0 0)]) (n := 2) (Nat.le_of_ble_eq_true rfl)
  rw [lg_entry_eq]
  generalize (lg_sl ([.ref (L 0 0)]) ++ List.replicate (2 - (lg_sl ([.ref (L 0 0)])).length) Slot.unset).toArray = ls at hl9 ⊢
  have hl : lv_has ls 2 [(0, .ref (L 0 0))] := hl9
  refine lv_iconst (v := 0) hx hb dX5_bringVehicles_0 (by decide) ?_
  refine lv_istore_n (lv' := [(1, .int 0), (0, .ref (L 0 0))]) hx hb dX5_bringVehicles_1 rfl hl (by decide) rfl (fun ls hl => ?_)
  have hN : nFl a ≤ 10 := in_le hw.1.2.2.1
  refine W.widen (k := (fun i => 0 + 0 * i) 0) (n := (fun i => 0 + 0 * i) 0) (Nat.le_refl _) (Nat.le_refl _) ?_
  refine tp_for (σ := Kap) (nFl a) (fun i => 0 + 0 * i) (fun i => 0 + 0 * i) (fun (i : Nat) (x : Kap) (H : Heap) (locs : List Loc) (ls : Array Slot) => CV (itN (T_flow) i a) x ∧ mw (dC, dI) vwCl A (TW cy L tr (itN (T_flow) i a) x τ) H ∧ va_S A s.heap H locs ∧ lv_has ls 2 [(1, .int (nI i)), (0, .ref (L 0 0))]) ?_ ?_ (nFl a) 0 (Nat.zero_add _) κ _ _ ls ⟨hκ, hP, hS, lv_sub hl [0, 1] rfl⟩
  · rintro κ9 H locs ls ⟨hκ9, hP, hS, hl⟩
    have hl : lv_has ls 2 [(1, .int (nI (nFl a))), (0, .ref (L 0 0))] := hl
    have hκ9 : CV (itN (T_flow) (nFl a) a) κ9 := hκ9
    obtain ⟨b1, eb1⟩ : ∃ z : St, z = itN (T_flow) (nFl a) a := ⟨_, rfl⟩
    rw [← eb1] at hP
    rw [← eb1] at hκ9
    have h0b1 : ∀ k, k ≠ 4 → k ≠ 5 → b1 0 0 k = a 0 0 k := fun k h4 h5 => by rw [eb1]; exact itN_keep (P := fun b => b 0 0 k = a 0 0 k) rfl (fun i b h => by rw [T_flow_00 h4 h5]; exact h) _
    refine lv_iload_n hx hb dX5_bringVehicles_2 rfl (lv_at hl 0 rfl) ?_
    refine lv_aload_n hx hb dX5_bringVehicles_3 rfl (lv_at hl 1 rfl) ?_
    refine va_get (D := (dC, dI)) (ws := [(L 0 0, .inr (5, [.ref (L 1 0), .ref (L 20 0), .ref (L 21 0), .ref (L 22 0), .ref (L 23 0), va_rf tr, .int ((b1 0 0) 0), .int ((b1 0 0) 1), .int ((b1 0 0) 2), .int ((b1 0 0) 3), .int ((b1 0 0) 4), .int ((b1 0 0) 5)]))]) (ci := 5) (v := .int ((b1 0 0) 3)) (C := RX5) (T := TX5) (N := 12) hx hb hts tl_X5 hown hK (hP.one (tw_mem (f := 0) (i := 0) (by decide) rfl)) 0 rfl rfl 9 (by decide) (hts _ tw_891) (fun _ h9 => h9) rfl dX5_bringVehicles_4 ?_
    refine W.eq (g2 := F0 m 7 ls [.int (nI (nFl a)), .int (nI (nFl a))]) (by rw [h0b1 3 (by decide) (by decide), in_nI hw.1.2.2.1]) ?_
    refine lv_icmp_ge (tgt := 47) hx hb dX5_bringVehicles_7 (by decide) (fun _ => ?_) (fun c_1 => absurd (Int32.le_refl _) c_1)
    refine W.widen (k := 0) (n := 0) (by show 0 + 0 * (nFl a) + 0 ≤ 0; omega) (by show 0 + 0 * (nFl a) + 0 ≤ 0; omega) ?_
    have s_1 : b1 = T_flows a := by
      rw [eb1]
      rfl
    rw [s_1] at hP
    have g_1 : CV (T_flows a) κ9 := by
      rw [← s_1]
      exact hκ9
    exact W.vret hx hb hr (fun t ht hW => ⟨⟨(), rfl, trivial, ⟨κ9, g_1, by show mw _ _ _ _ t.heap; rw [ht]; exact hP⟩⟩, hS.F ht⟩) hS.2.2 dX5_bringVehicles_47
  · rintro i κ9 H locs ls hi ⟨hκ9, hP, hS, hl⟩ ih
    have hl : lv_has ls 2 [(1, .int (nI i)), (0, .ref (L 0 0))] := hl
    have hκ9 : CV (itN (T_flow) i a) κ9 := hκ9
    obtain ⟨b1, eb1⟩ : ∃ z : St, z = itN (T_flow) i a := ⟨_, rfl⟩
    rw [← eb1] at hP
    rw [← eb1] at hκ9
    have h0b1 : ∀ k, k ≠ 4 → k ≠ 5 → b1 0 0 k = a 0 0 k := fun k h4 h5 => by rw [eb1]; exact itN_keep (P := fun b => b 0 0 k = a 0 0 k) rfl (fun i b h => by rw [T_flow_00 h4 h5]; exact h) _
    have hwb1 : Wf M b1 := by rw [eb1]; exact itN_keepB (N := nFl a) hw (fun j _ hj hb => T_flow_Wf (Nat.lt_of_lt_of_le hj (in_le hw.1.2.2.1)) hb) _ (Nat.le_of_lt hi)
    refine lv_iload_n hx hb dX5_bringVehicles_2 rfl (lv_at hl 0 rfl) ?_
    refine lv_aload_n hx hb dX5_bringVehicles_3 rfl (lv_at hl 1 rfl) ?_
    refine va_get (D := (dC, dI)) (ws := [(L 0 0, .inr (5, [.ref (L 1 0), .ref (L 20 0), .ref (L 21 0), .ref (L 22 0), .ref (L 23 0), va_rf tr, .int ((b1 0 0) 0), .int ((b1 0 0) 1), .int ((b1 0 0) 2), .int ((b1 0 0) 3), .int ((b1 0 0) 4), .int ((b1 0 0) 5)]))]) (ci := 5) (v := .int ((b1 0 0) 3)) (C := RX5) (T := TX5) (N := 12) hx hb hts tl_X5 hown hK (hP.one (tw_mem (f := 0) (i := 0) (by decide) rfl)) 0 rfl rfl 9 (by decide) (hts _ tw_891) (fun _ h9 => h9) rfl dX5_bringVehicles_4 ?_
    refine W.eq (g2 := F0 m 7 ls [.int (nI (nFl a)), .int (nI i)]) (by rw [h0b1 3 (by decide) (by decide), in_nI hw.1.2.2.1]) ?_
    refine lv_icmp_ge (tgt := 47) hx hb dX5_bringVehicles_7 (by decide) (fun c_2 => absurd c_2 (nI_ge hi (by omega))) (fun _ => ?_)
    refine lv_aload_n hx hb dX5_bringVehicles_10 rfl (lv_at hl 1 rfl) ?_
    refine va_get (D := (dC, dI)) (ws := [(L 0 0, .inr (5, [.ref (L 1 0), .ref (L 20 0), .ref (L 21 0), .ref (L 22 0), .ref (L 23 0), va_rf tr, .int ((b1 0 0) 0), .int ((b1 0 0) 1), .int ((b1 0 0) 2), .int ((b1 0 0) 3), .int ((b1 0 0) 4), .int ((b1 0 0) 5)]))]) (ci := 5) (v := .ref (L 22 0)) (C := RX5) (T := TX5) (N := 12) hx hb hts tl_X5 hown hK (hP.one (tw_mem (f := 0) (i := 0) (by decide) rfl)) 0 rfl rfl 3 (by decide) (hts _ tw_879) (fun _ h9 => h9) rfl dX5_bringVehicles_11 ?_
    refine lv_iload_n hx hb dX5_bringVehicles_14 rfl (lv_at hl 0 rfl) ?_
    have j_1 : (nI i : Int32).toNatClampNeg = i := m_cl rfl (Nat.lt_of_lt_of_le hi hN) (by decide)
    refine va_aldq hx hb hK (ws := [(L 22 0, .inl (cy 6, 10, .inr (.inr (.inr (.inr (fun j => some (L 14 j)))))))]) (hP.one (tw_mem (f := 22) (i := 0) (by decide) rfl)) 0 6 rfl rfl (m_in rfl (Nat.lt_of_lt_of_le hi hN) (by decide)) dX5_bringVehicles_15 ?_
    refine W.eq (g2 := F0 m 16 ls [.ref (L 14 i)]) (by first | (rw [j_1]; done) | (rw [j_1]; rfl)) ?_
    refine lv_aload_n hx hb dX5_bringVehicles_16 rfl (lv_at hl 1 rfl) ?_
    refine va_get (D := (dC, dI)) (ws := [(L 0 0, .inr (5, [.ref (L 1 0), .ref (L 20 0), .ref (L 21 0), .ref (L 22 0), .ref (L 23 0), va_rf tr, .int ((b1 0 0) 0), .int ((b1 0 0) 1), .int ((b1 0 0) 2), .int ((b1 0 0) 3), .int ((b1 0 0) 4), .int ((b1 0 0) 5)]))]) (ci := 5) (v := .int ((b1 0 0) 0)) (C := RX5) (T := TX5) (N := 12) hx hb hts tl_X5 hown hK (hP.one (tw_mem (f := 0) (i := 0) (by decide) rfl)) 0 rfl rfl 6 (by decide) (hts _ tw_885) (fun _ h9 => h9) rfl dX5_bringVehicles_17 ?_
    have hFc := m_free (C := (TW cy L tr b1 κ9 τ)) hP hS hA (fun _ _ h => h)
    refine va_calli (va_runV (As := [.int ((b1 0 0) 0)]) (rest := []) ⟨hx, hb, hml, hown, hts⟩ (c_Flow_bringsIn l dC dI cy L tr b1 κ9 τ i ((b1 0 0) 0) H.size hT (Nat.lt_of_lt_of_le hi hN)) (tp_cwV 1 hts tw_196 tw_197 tw_198 tw_28 tw_199 rfl rfl (by decide +kernel) ⟨Nat.le_of_ble_eq_true rfl, Nat.le_of_ble_eq_true rfl⟩) ⟨m_blind, va_recv hK (hP.one (e := .inr (0, [.int ((b1 14 i) 0), .int ((b1 14 i) 1), .int ((b1 14 i) 2), .int ((b1 14 i) 3), .int ((b1 14 i) 4), .int ((b1 14 i) 5), .int ((b1 14 i) 6), .int ((b1 14 i) 7), .int ((b1 14 i) 8), .int ((b1 14 i) 9), .int ((b1 14 i) 10), .int ((b1 14 i) 11)])) (tw_mem (f := 14) (i := i) (Nat.lt_of_lt_of_le hi hN) rfl)) (ci := 0) (q0 := 0) rfl rfl, fun U hU hW => ⟨rfl, m_pay hK hP hE (fun _ _ h => h) U hU hW⟩⟩ rfl rfl hl.1 rfl (lv_room (Nat.le_of_ble_eq_true rfl)) dX5_bringVehicles_20 ⟨(by show 0 + 0 * i + 0 ≤ 0; omega), (by show 0 + 0 * i + 0 ≤ 0; omega)⟩) hS (fun q _ h => hFc q h) hFc (fun r_1 u t H1 locs ht hvm hpo hB hz1 hk1 hS => ?_)
    obtain rfl := hpo
    obtain ⟨f_1, hP1⟩ := hB
    subst f_1
    rw [ht] at hP1
    have hP : mw (dC, dI) vwCl A (TW cy L tr b1 κ9 τ) H1 := hP.join (fun _ _ h => h) hk1 hFc hP1 (fun _ _ h => Or.inl h)
    generalize H1 = H at hP hS ⊢
    clear hP1 hk1 hFc
    refine lv_if_eq (tgt := 41) hx hb dX5_bringVehicles_23 (by decide) (fun c_3 => ?_) (fun c_3 => ?_)
    · refine lv_iinc (v := nI (i + 1)) (lv' := [(1, .int (nI (i + 1))), (0, .ref (L 0 0))]) hx hb dX5_bringVehicles_41 hl (k := 0) rfl (nI_1 i) (by decide) rfl (fun ls hl => ?_)
      refine lv_goto (tgt := 2) hx hb dX5_bringVehicles_44 (by decide) ?_
      have e9 : b1 = itN (T_flow) (i + 1) a := by
        rw [show itN T_flow (i + 1) a = T_flow i b1 from by rw [eb1]; rfl]
        unfold T_flow
        rw [if_pos c_3]
      rw [e9] at hP
      refine W.widen (k := (fun i => 0 + 0 * i) (i + 1)) (n := (fun i => 0 + 0 * i) (i + 1)) (by show _ ≤ 0 + 0 * (i + 1); omega) (by show _ ≤ 0 + 0 * (i + 1); omega) ?_
      exact ih κ9 _ _ ls ⟨(by rw [← e9]; exact hκ9), hP, hS, lv_sub hl [0, 1] rfl⟩
    · refine lv_aload_n hx hb dX5_bringVehicles_26 rfl (lv_at hl 1 rfl) ?_
      refine va_get (D := (dC, dI)) (ws := [(L 0 0, .inr (5, [.ref (L 1 0), .ref (L 20 0), .ref (L 21 0), .ref (L 22 0), .ref (L 23 0), va_rf tr, .int ((b1 0 0) 0), .int ((b1 0 0) 1), .int ((b1 0 0) 2), .int ((b1 0 0) 3), .int ((b1 0 0) 4), .int ((b1 0 0) 5)]))]) (ci := 5) (v := .int ((b1 0 0) 4)) (C := RX5) (T := TX5) (N := 12) hx hb hts tl_X5 hown hK (hP.one (tw_mem (f := 0) (i := 0) (by decide) rfl)) 0 rfl rfl 10 (by decide) (hts _ tw_893) (fun _ h9 => h9) rfl dX5_bringVehicles_27 ?_
      refine lv_sipush (v := 200) hx hb dX5_bringVehicles_30 (by decide) ?_
      refine lv_icmp_ge (tgt := 41) hx hb dX5_bringVehicles_33 (by decide) (fun c_4 => ?_) (fun c_4 => ?_)
      · refine lv_iinc (v := nI (i + 1)) (lv' := [(1, .int (nI (i + 1))), (0, .ref (L 0 0))]) hx hb dX5_bringVehicles_41 hl (k := 0) rfl (nI_1 i) (by decide) rfl (fun ls hl => ?_)
        refine lv_goto (tgt := 2) hx hb dX5_bringVehicles_44 (by decide) ?_
        have e9 : b1 = itN (T_flow) (i + 1) a := by
          rw [show itN T_flow (i + 1) a = T_flow i b1 from by rw [eb1]; rfl]
          unfold T_flow
          rw [if_neg c_3, if_pos c_4]
        rw [e9] at hP
        refine W.widen (k := (fun i => 0 + 0 * i) (i + 1)) (n := (fun i => 0 + 0 * i) (i + 1)) (by show _ ≤ 0 + 0 * (i + 1); omega) (by show _ ≤ 0 + 0 * (i + 1); omega) ?_
        exact ih κ9 _ _ ls ⟨(by rw [← e9]; exact hκ9), hP, hS, lv_sub hl [0, 1] rfl⟩
      · refine lv_aload_n hx hb dX5_bringVehicles_36 rfl (lv_at hl 1 rfl) ?_
        refine lv_iload_n hx hb dX5_bringVehicles_37 rfl (lv_at hl 0 rfl) ?_
        have hFc := m_free (C := (TW cy L tr b1 κ9 τ)) hP hS hA (fun _ _ h => h)
        refine va_callv (va_runV (As := [.int (nI i)]) (rest := []) ⟨hx, hb, hml, hown, hts⟩ (c_Traffic_bring l dC dI cy L tr b1 κ9 τ M i H.size hT hwb1 (Nat.lt_of_lt_of_le hi hN) (m_ge c_4) hκ9) (tp_cwV 1 hts tw_200 tw_202 tw_3 tw_21 tw_203 rfl rfl (by decide +kernel) ⟨Nat.le_of_ble_eq_true rfl, Nat.le_of_ble_eq_true rfl⟩) ⟨m_blind, va_recv hK (hP.one (e := .inr (5, [.ref (L 1 0), .ref (L 20 0), .ref (L 21 0), .ref (L 22 0), .ref (L 23 0), va_rf tr, .int ((b1 0 0) 0), .int ((b1 0 0) 1), .int ((b1 0 0) 2), .int ((b1 0 0) 3), .int ((b1 0 0) 4), .int ((b1 0 0) 5)])) (tw_mem (f := 0) (i := 0) (by decide) rfl)) (ci := 5) (q0 := 0) rfl rfl, fun U hU hW => ⟨rfl, m_pay hK hP hE (fun _ _ h => h) U hU hW⟩⟩ rfl rfl hl.1 rfl (lv_room (Nat.le_of_ble_eq_true rfl)) dX5_bringVehicles_38 ⟨(by show 0 + 0 * i + 0 + 0 ≤ 0; omega), (by show 0 + 0 * i + 0 + 0 ≤ 0; omega)⟩) hS (fun q _ h => hFc q h) hFc (fun u t H1 locs ht hvm hpo hB hz1 hk1 hS => ?_)
        obtain ⟨z_1, f_2, hP1⟩ := hB
        rw [ht] at hP1
        have hP : mw (dC, dI) vwCl A (TW cy L tr (T_bring b1 i) z_1 τ) H1 := hP.join (fun _ _ h => h) hk1 hFc hP1 (fun _ _ h => Or.inl h)
        generalize H1 = H at hP hS ⊢
        clear hP1 hk1 hFc
        obtain ⟨b2, eb2⟩ : ∃ z : St, z = T_bring b1 i := ⟨_, rfl⟩
        rw [← eb2] at hP
        refine lv_iinc (v := nI (i + 1)) (lv' := [(1, .int (nI (i + 1))), (0, .ref (L 0 0))]) hx hb dX5_bringVehicles_41 hl (k := 0) rfl (nI_1 i) (by decide) rfl (fun ls hl => ?_)
        refine lv_goto (tgt := 2) hx hb dX5_bringVehicles_44 (by decide) ?_
        have e9 : b2 = itN (T_flow) (i + 1) a := by
          rw [show itN T_flow (i + 1) a = T_flow i b1 from by rw [eb1]; rfl]
          unfold T_flow
          rw [if_neg c_3, if_neg c_4, eb2]
        rw [e9] at hP
        refine W.widen (k := (fun i => 0 + 0 * i) (i + 1)) (n := (fun i => 0 + 0 * i) (i + 1)) (by show _ ≤ 0 + 0 * (i + 1); omega) (by show _ ≤ 0 + 0 * (i + 1); omega) ?_
        exact ih z_1 _ _ ls ⟨(by rw [← e9, eb2]; exact f_2), hP, hS, lv_sub hl [0, 1] rfl⟩
end
section
/-! ===== lN n to 2^64: shifts, and, or, masks, one bit ===== -/
theorem wb_tb (n : Nat) : (lN n).toBitVec = BitVec.ofNat 64 n := rfl
theorem wb_inj {a b : Int64} (h : a.toBitVec = b.toBitVec) : a = b := Int64.toBitVec_inj.mp h
theorem wb_tn {n : Nat} (h : n < 2 ^ 64) : (lN n).toBitVec.toNat = n := by rw [wb_tb, BitVec.toNat_ofNat, Nat.mod_eq_of_lt h]
theorem wb_of (x : Int64) : ∃ n, n < 2 ^ 64 ∧ x = lN n := ⟨x.toBitVec.toNat, x.toBitVec.isLt, wb_inj (by rw [wb_tb]; simp)⟩
theorem wb_of32 (x : Int32) : ∃ n, n < 2 ^ 32 ∧ x = nI n := ⟨x.toBitVec.toNat, x.toBitVec.isLt, Int32.toBitVec_inj.mp (by show _ = BitVec.ofNat 32 _; simp)⟩
theorem wb_c : ∀ k, k < 64 → ((nI k).toInt64 &&& 63) = lN k := by decide +kernel
theorem wb_cu : ∀ k, k < 64 → ((nI k).toInt64.toUInt64 &&& Int64.toUInt64 63) = UInt64.ofNat k := by decide +kernel
theorem wb_sm : ∀ k, k < 64 → (BitVec.ofNat 64 k).smod 64 = BitVec.ofNat 64 k := by decide +kernel
theorem wb_pw {a b : Nat} (h : a ≤ b) : 2 ^ b = 2 ^ a * 2 ^ (b - a) := by rw [← Nat.pow_add]; congr 1; omega
theorem wb_lt2 {a b : Nat} (h : a < b) : 2 ^ a < 2 ^ b := Nat.pow_lt_pow_right (by decide) h
theorem wb_mod (n : Nat) : lN n = lN (n % 2 ^ 64) := wb_inj (by rw [wb_tb, wb_tb]; apply BitVec.eq_of_toNat_eq; rw [BitVec.toNat_ofNat, BitVec.toNat_ofNat, Nat.mod_mod])
theorem wb_shr {n k : Nat} (hn : n < 2 ^ 64) (hk : k < 64) : ((lN n).toUInt64 >>> ((nI k).toInt64.toUInt64 &&& Int64.toUInt64 63)).toInt64 = lN (n / 2 ^ k) := by
  rw [wb_cu k hk]
  apply wb_inj
  apply BitVec.eq_of_toNat_eq
  show ((lN n).toUInt64 >>> UInt64.ofNat k).toNat = (BitVec.ofNat 64 _).toNat
  have h1 : (UInt64.ofNat k).toNat = k := by
    show (BitVec.ofNat 64 k).toNat = k
    rw [BitVec.toNat_ofNat, Nat.mod_eq_of_lt (by omega)]
  have h2 : (lN n).toUInt64.toNat = n := wb_tn hn
  rw [UInt64.toNat_shiftRight, h1, h2, Nat.mod_eq_of_lt hk, Nat.shiftRight_eq_div_pow, BitVec.toNat_ofNat, Nat.mod_eq_of_lt (Nat.lt_of_le_of_lt (Nat.div_le_self _ _) hn)]
theorem wb_shl (n : Nat) {k : Nat} (hk : k < 64) : lN n <<< ((nI k).toInt64 &&& 63) = lN (n * 2 ^ k) := by
  rw [wb_c k hk]
  apply wb_inj
  rw [Int64.toBitVec_shiftLeft, wb_tb, wb_tb, wb_tb, wb_sm k hk]
  apply BitVec.eq_of_toNat_eq
  rw [BitVec.shiftLeft_eq', BitVec.toNat_shiftLeft, BitVec.toNat_ofNat, BitVec.toNat_ofNat, BitVec.toNat_ofNat, Nat.mod_eq_of_lt (show k < 2 ^ 64 by omega), Nat.shiftLeft_eq, Nat.mul_mod, Nat.mod_mod, ← Nat.mul_mod]
theorem wb_and {a b : Nat} (ha : a < 2 ^ 64) (hb : b < 2 ^ 64) : lN a &&& lN b = lN (a &&& b) := by
  apply wb_inj
  rw [Int64.toBitVec_and, wb_tb, wb_tb, wb_tb]
  apply BitVec.eq_of_toNat_eq
  rw [BitVec.toNat_and, BitVec.toNat_ofNat, BitVec.toNat_ofNat, BitVec.toNat_ofNat, Nat.mod_eq_of_lt ha, Nat.mod_eq_of_lt hb, Nat.mod_eq_of_lt (Nat.and_lt_two_pow _ hb)]
theorem wb_or {a b : Nat} (ha : a < 2 ^ 64) (hb : b < 2 ^ 64) : lN a ||| lN b = lN (a ||| b) := by
  apply wb_inj
  rw [Int64.toBitVec_or, wb_tb, wb_tb, wb_tb]
  apply BitVec.eq_of_toNat_eq
  rw [BitVec.toNat_or, BitVec.toNat_ofNat, BitVec.toNat_ofNat, BitVec.toNat_ofNat, Nat.mod_eq_of_lt ha, Nat.mod_eq_of_lt hb, Nat.mod_eq_of_lt (Nat.or_lt_two_pow ha hb)]
theorem wb_mask {n k : Nat} (hn : n < 2 ^ 64) (hk : k < 64) : lN n &&& lN (2 ^ k - 1) = lN (n % 2 ^ k) := by
  rw [wb_and hn (by have := wb_lt2 hk; omega), Nat.and_two_pow_sub_one_eq_mod]
theorem wb_a1 {n : Nat} (hn : n < 2 ^ 64) : lN n &&& 1 = lN (n % 2) := wb_mask (k := 1) hn (by decide)
theorem wb_bit {n k : Nat} (hn : n < 2 ^ 64) (hk : k < 64) : ((lN n).toUInt64 >>> ((nI k).toInt64.toUInt64 &&& Int64.toUInt64 63)).toInt64 &&& 1 = lN (n / 2 ^ k % 2) := by
  rw [wb_shr hn hk, wb_a1 (Nat.lt_of_le_of_lt (Nat.div_le_self _ _) hn)]
theorem wb_xor {q k : Nat} (hk : k < 63) (h : 2 ^ k ≤ q) (h2 : q < 2 ^ (k + 1)) : lN q ^^^ lN (2 ^ k) = lN (q - 2 ^ k) := by
  obtain ⟨r, rfl⟩ : ∃ r, q = 2 ^ k + r := ⟨q - 2 ^ k, by omega⟩
  have hr : r < 2 ^ k := by rw [Nat.pow_succ] at h2; omega
  have hx : (2 ^ k + r) ^^^ 2 ^ k = r := by
    apply Nat.eq_of_testBit_eq
    intro i
    rw [Nat.testBit_xor, Nat.testBit_two_pow]
    rcases Nat.lt_trichotomy i k with h | h | h
    · rw [Nat.testBit_two_pow_add_gt h]
      simp [show ¬ k = i by omega]
    · subst h
      rw [Nat.testBit_two_pow_add_eq]
      simp
    · have a1 : 2 ^ (k + 1) ≤ 2 ^ i := Nat.pow_le_pow_right (by decide) h
      rw [Nat.testBit_lt_two_pow (show 2 ^ k + r < 2 ^ i by omega), Nat.testBit_lt_two_pow (show r < 2 ^ i by omega)]
      simp [show ¬ k = i by omega]
  have b1 := wb_lt2 (show k + 1 < 64 by omega)
  have b2 := wb_lt2 (show k < 64 by omega)
  apply wb_inj
  rw [Int64.toBitVec_xor, wb_tb, wb_tb, wb_tb]
  apply BitVec.eq_of_toNat_eq
  rw [BitVec.toNat_xor, BitVec.toNat_ofNat, BitVec.toNat_ofNat, BitVec.toNat_ofNat, Nat.mod_eq_of_lt (by omega : 2 ^ k + r < 2 ^ 64), Nat.mod_eq_of_lt b2, hx, Nat.add_sub_cancel_left, Nat.mod_eq_of_lt (by omega)]
/-! ===== lN: masks, 'or' of parts that don't overlap is a sum ===== -/
theorem u_tn {n : Nat} (h : n < 2 ^ 64) : (UInt64.ofNat n).toNat = n := Nat.mod_eq_of_lt h
theorem g_and {a b c : Nat} (ha : a < 2 ^ 64) (hb : b < 2 ^ 64) (hc : a &&& b = c) : lN a &&& lN b = lN c := by
  subst hc
  have h : UInt64.ofNat a &&& UInt64.ofNat b = UInt64.ofNat (a &&& b) := UInt64.toNat_inj.mp (by rw [UInt64.toNat_and, u_tn ha, u_tn hb, u_tn (Nat.and_lt_two_pow a hb)])
  have h2 := congrArg UInt64.toInt64 h
  exact h2
theorem g_and1 {a : Nat} (ha : a < 2 ^ 64) : lN a &&& 1 = lN (a % 2) := g_and (b := 1) ha (by decide) (Nat.and_two_pow_sub_one_eq_mod a 1)
theorem g_mask {a s p : Nat} (hp : 2 ^ s = p) (hs : s < 64) (ha : a < 2 ^ 64) : lN a &&& lN (p - 1) = lN (a % p) := by
  subst hp
  have := Nat.pow_lt_pow_right (show 1 < 2 by decide) hs
  exact g_and ha (by omega) (Nat.and_two_pow_sub_one_eq_mod a s)
theorem g_or {k p a b : Nat} (hp : 2 ^ k = p) (ha : a < p) (h : b * p + a < 2 ^ 64) : lN (b * p) ||| lN a = lN (b * p + a) := by
  subst hp
  have h1 : b * 2 ^ k ||| a = b * 2 ^ k + a := by rw [← Nat.shiftLeft_eq, Nat.shiftLeft_add_eq_or_of_lt ha]
  have h3 : UInt64.ofNat (b * 2 ^ k) ||| UInt64.ofNat a = UInt64.ofNat (b * 2 ^ k + a) := UInt64.toNat_inj.mp (by rw [UInt64.toNat_or, u_tn (by omega), u_tn (by omega), u_tn h, h1])
  have h2 := congrArg UInt64.toInt64 h3
  exact h2
theorem g_or' {k p a b : Nat} (hp : 2 ^ k = p) (ha : a < p) (h : a + b * p < 2 ^ 64) : lN a ||| lN (b * p) = lN (a + b * p) := by
  rw [Int64.or_comm, g_or hp ha (by omega), Nat.add_comm]
theorem g_ushr {a k p : Nat} {y : UInt64} (hy : y = UInt64.ofNat k) (hk : k < 64) (hp : 2 ^ k = p) (ha : a < 2 ^ 64) : ((lN a).toUInt64 >>> y).toInt64 = lN (a / p) := by
  subst hy hp
  have h : UInt64.ofNat a >>> UInt64.ofNat k = UInt64.ofNat (a / 2 ^ k) := UInt64.toNat_inj.mp (by rw [UInt64.toNat_shiftRight, u_tn ha, u_tn (by omega), u_tn (Nat.lt_of_le_of_lt (Nat.div_le_self _ _) ha), Nat.mod_eq_of_lt hk, Nat.shiftRight_eq_div_pow])
  have h2 := congrArg UInt64.toInt64 h
  exact h2
theorem g_shl {a k p : Nat} {y : Int64} (hy : y.toBitVec.smod 64 = BitVec.ofNat 64 k) (hk : k < 64) (hp : 2 ^ k = p) (ha : a < 2 ^ 64) : lN a <<< y = lN (a * p) := by
  subst hp
  apply Int64.toBitVec_inj.mp
  rw [Int64.toBitVec_shiftLeft, hy]
  apply BitVec.eq_of_toNat_eq
  have hb : (lN a).toBitVec.toNat = a := Nat.mod_eq_of_lt ha
  have hk' : (BitVec.ofNat 64 k).toNat = k := Nat.mod_eq_of_lt (by omega)
  have h : ((lN a).toBitVec <<< BitVec.ofNat 64 k).toNat = (a * 2 ^ k) % 2 ^ 64 := by simp only [BitVec.shiftLeft_eq', BitVec.toNat_shiftLeft, hb, hk', Nat.shiftLeft_eq]
  exact h
/-! the trails: rows of words, twelve links to a word -/
def W_in (x lo hi : Int32) : Int32 := if x < lo then 0 else if hi < x then 0 else 1
theorem W_in_1 {x lo hi : Int32} (h1 : ¬ x < lo) (h2 : ¬ hi < x) : W_in x lo hi = 1 := by
  unfold W_in
  rw [if_neg h1, if_neg h2]
theorem p32_s (p : Nat) : (32 : Nat) ^ (p + 1) = 32 ^ p * 32 := Nat.pow_succ ..
theorem p32_pos (p : Nat) : 0 < 32 ^ p := Nat.pow_pos (by decide)
theorem W_put {W p x : Nat} (hW : W < 32 ^ p) (hx : x < 32) : W + x * 32 ^ p < 32 ^ (p + 1) := by
  rw [p32_s]
  have h1 : x * 32 ^ p ≤ 31 * 32 ^ p := Nat.mul_le_mul_right _ (by omega)
  have h2 : 32 ^ p * 32 = 31 * 32 ^ p + 32 ^ p := by rw [Nat.mul_comm]; omega
  omega
theorem W_hi {W p x : Nat} (hW : W < 32 ^ p) (hx : x < 32) : (W + x * 32 ^ p) / 32 ^ p % 32 = x := by
  rw [Nat.add_mul_div_right _ _ (p32_pos p), Nat.div_eq_of_lt hW, Nat.zero_add, Nat.mod_eq_of_lt hx]
theorem W_lo {W p q x : Nat} (h : q < p) : (W + x * 32 ^ p) / 32 ^ q % 32 = W / 32 ^ q % 32 := by
  have e : x * 32 ^ p = (x * 32 ^ (p - q - 1) * 32) * 32 ^ q := by
    rw [Nat.mul_assoc, Nat.mul_assoc, Nat.mul_comm 32, ← p32_s, ← Nat.pow_add]
    congr 2
    omega
  rw [e, Nat.add_mul_div_right _ _ (p32_pos q), Nat.add_mul_mod_self_right]
theorem p32_5 (p : Nat) : 2 ^ (p * 5) = 32 ^ p := by rw [Nat.mul_comm, Nat.pow_mul]
theorem p32_60 {p : Nat} (h : p ≤ 12) : 32 ^ p ≤ 2 ^ 60 := by
  have h1 : 32 ^ p ≤ 32 ^ 12 := Nat.pow_le_pow_right (by decide) h
  have h2 : (32 : Nat) ^ 12 = 2 ^ 60 := by decide
  omega
section MROWT
variable {p : Program} {l : Launch} {e : Env} {R : Room} {s : State} {m : MethodId} {args : Array Value} {below : List Frame} {meth : Method} {c : Code} {H : Heap} {locs : List Loc} {cells slots : Nat} {Q : State → Prop}
variable {cc : ByteArray} {pc : Nat} {ls : Array Slot} {rest : List Value} {D : va_G} {cl : List vw_C} {A : Nat → Prop} {a : Nat} {tys : List (ClassId × FieldType)} {ws : va_W} {H0 : Heap}
/-- an array put into an array of such arrays -/
theorem m_astA (hexec : p.tables.exec = Jvm.exec) (hb : c.code = cc) (hK : va_K D cl tys s) (hP : va_P D cl ws H) (hD : va_D A ws) (hS : va_S A H0 H locs) (q0 t0 qk t1 : Nat) {cA cI : ClassId} {ty : FieldType} {n v : Nat} {x : vp_A} {f : Nat → Option Nat} (ha : ws[q0]? = some (a, .inl (cA, n, .inr (.inr (.inr (.inr f)))))) (ht : tys[t0]? = some (cA, .array ty)) (hv : ws[qk]? = some (v, .inl (cI, x))) (hti : tys[t1]? = some (cI, ty)) (hov : va_AOA ty s) (hnm : (FieldType.array ty).toString = "[" ++ ty.toString) (hrt : va_RA s cI ty → s.vm.findClass ("[" ++ ty.toString) = some cI) {i : Int32} (hin : vp_in i n) (hdg : decode cc pc = .ok (.aastore, 1))
    (kk : ∀ (H1 : Heap) (locs1 : List Loc), va_P D cl (ws.set q0 (a, .inl (cA, n, .inr (.inr (.inr (.inr (va_up f i.toNatClampNeg (some v)))))))) H1 → va_D A (ws.set q0 (a, .inl (cA, n, .inr (.inr (.inr (.inr (va_up f i.toNatClampNeg (some v)))))))) → va_S A H0 H1 locs1 → W p l e R s m args below meth c H1 locs1 cells slots Q (F0 m (pc + 1) ls rest)) : W p l e R s m args below meth c H locs cells slots Q (F0 m pc ls (.ref v :: .int i :: .ref a :: rest)) := by
  have hlt : i.toNatClampNeg < n := Nat.not_le.mp fun q => hin (Or.inr q)
  have h0 : ¬ i < 0 := fun q => hin (Or.inl q)
  obtain ⟨comp, c9, k, f1, f2, f3, f4⟩ := Cond.arrayOver_specA (va_AOA.use (A := args) hov)
  have e1 : c9 = cA := Option.some.inj (f4.symm.trans (show s.vm.findClass _ = some cA from (hK.2 t0 _ ht).2))
  subst e1
  have e2 : comp = cI := Option.some.inj (f1.symm.trans (by rw [hnm]; exact hrt (hK.2 t1 _ hti).2))
  subst e2
  obtain ⟨-, kI, hkI, cmI, hkkI⟩ := (hK.2 t1 _ hti).1 0 (fun _ => .null)
  have g1 : H[v]? = some (vp_cell comp x) := hP qk _ hv
  have hcl : (vp_cell comp x).cls = comp := by obtain ⟨n9, y | y | y | y | y⟩ := x <;> rfl
  have hvm : (vp_cell comp x).vm = .none := by obtain ⟨n9, y | y | y | y | y⟩ := x <;> rfl
  refine W.aast hexec hb (hP q0 _ ha) (fun q h => by cases h) (fun h => by cases h) f2 f3 rfl hkI ⟨h0, by show _ < (arrV _ _ _).slots.size; rw [arrV_size]; exact hlt⟩ g1 (fun q h => by rw [hvm] at h; cases h) (by rw [hcl]; exact hkI) (by rw [hcl]; show Vm.assignableAux _ (255 + 1) _ _ = true; unfold Vm.assignableAux; simp) rfl rfl hdg fun H1 e z oq => ?_
  refine kk H1 _ (hP.set hD ha ?_ oq) (hD.set ha) (hS.put z oq (hD.2 q0 _ ha))
  show H1[a]? = some (vp_cell _ _)
  rw [e]
  rw [vp_cell_q, vp_cell_q, arrV_store]
  congr 2
  funext q
  by_cases hq : q = i.toNatClampNeg
  · subst hq
    simp [updV, va_up, va_rf]
  · simp [updV, va_up, hq]
end MROWT
section TRL
variable {cy : Nat → ClassId} {L : Lay} {t : Nat} {a : St} {κ : Kap} {τ τ' : Tau}
theorem tr_t : TW cy L (some t) a κ τ t (.inr (6, [.ref τ.1])) := Or.inr ⟨t, rfl, Or.inl ⟨rfl, rfl⟩⟩
theorem tr_w : TW cy L (some t) a κ τ τ.1 (.inl (cy 9, 200, .inr (.inr (.inr (.inr (fun v => some (τ.2.1 v))))))) := Or.inr ⟨t, rfl, Or.inr (Or.inl ⟨rfl, rfl⟩)⟩
theorem tr_r {v : Nat} (hv : v < 200) : TW cy L (some t) a κ τ (τ.2.1 v) (.inl (cy 1, τ.2.2.1 v, .inr (.inl (τ.2.2.2 v)))) := Or.inr ⟨t, rfl, Or.inr (Or.inr ⟨v, hv, rfl, rfl⟩)⟩
/-- a word changed -/
theorem tr_setW (hT : TL L (some t) τ) {v : Nat} (hv : v < 200) {z : Nat → Int64} (hτ : τ' = (τ.1, τ.2.1, τ.2.2.1, fun u => if u = v then z else τ.2.2.2 u)) : ∀ q e, TW cy L (some t) a κ τ' q e → mset (TW cy L (some t) a κ τ) (τ.2.1 v) (.inl (cy 1, τ.2.2.1 v, .inr (.inl z))) q e := by
  subst hτ
  obtain ⟨g0, g1, g2, g3⟩ := hT.2 t rfl
  rintro q e (⟨f, i, hi, rfl, rfl⟩ | ⟨t2, ht2, h⟩)
  · exact Or.inr ⟨(g0 f i hi).2.2 v hv, Or.inl ⟨f, i, hi, rfl, rfl⟩⟩
  · cases ht2
    rcases h with ⟨rfl, rfl⟩ | ⟨rfl, rfl⟩ | ⟨u, hu, rfl, rfl⟩
    · exact Or.inr ⟨fun h => (g2 v hv).1 h.symm, tr_t⟩
    · exact Or.inr ⟨fun h => (g2 v hv).2 h.symm, tr_w⟩
    · by_cases huv : u = v
      · subst huv
        exact Or.inl ⟨rfl, by simp⟩
      · refine Or.inr ⟨fun h => huv (g3 u v hu hv h), ?_⟩
        simp only [huv, if_false]
        exact tr_r hu
/-- a row put in another's place -/
theorem tr_setR {D : va_G} {cl : List vw_C} {A : Nat → Prop} {H : Heap} (hT : TL L (some t) τ) {v : Nat} (hv : v < 200) {q9 n : Nat} {z : Nat → Int64} (hq : ∀ q e, TW cy L (some t) a κ τ q e → q ≠ q9) (hτ : τ' = (τ.1, (fun u => if u = v then q9 else τ.2.1 u), (fun u => if u = v then n else τ.2.2.1 u), fun u => if u = v then z else τ.2.2.2 u))
    (h : mw D cl A (mset (madd (TW cy L (some t) a κ τ) q9 (.inl (cy 1, n, .inr (.inl z)))) τ.1 (.inl (cy 9, 200, .inr (.inr (.inr (.inr (va_up (fun v => some (τ.2.1 v)) v (some q9)))))))) H) : mw D cl A (TW cy L (some t) a κ τ') H ∧ TL L (some t) τ' := by
  obtain ⟨g0, g1, g2, g3⟩ := hT.2 t rfl
  have hfn : (fun u => some ((fun u => if u = v then q9 else τ.2.1 u) u)) = va_up (fun v => some (τ.2.1 v)) v (some q9) := by
    funext u
    by_cases hu : u = v <;> simp [va_up, hu]
  subst hτ
  refine ⟨h.sub ?_, hT.1, fun t2 ht2 => ?_⟩
  · rintro q e (⟨f, i, hi, rfl, rfl⟩ | ⟨t2, ht2, h⟩)
    · exact Or.inr ⟨(g0 f i hi).2.1, Or.inl (Or.inl ⟨f, i, hi, rfl, rfl⟩)⟩
    · cases ht2
      rcases h with ⟨rfl, rfl⟩ | ⟨rfl, rfl⟩ | ⟨u, hu, rfl, rfl⟩
      · exact Or.inr ⟨g1, Or.inl tr_t⟩
      · exact Or.inl ⟨rfl, by rw [← hfn]⟩
      · by_cases huv : u = v
        · subst huv
          simp only [if_true]
          exact Or.inr ⟨fun h => hq _ _ tr_w h.symm, Or.inr ⟨rfl, rfl⟩⟩
        · simp only [huv, if_false]
          exact Or.inr ⟨(g2 u hu).2, Or.inl (tr_r hu)⟩
  · cases ht2
    refine ⟨fun f i hi => ⟨(g0 f i hi).1, (g0 f i hi).2.1, fun u hu => ?_⟩, g1, fun u hu => ?_, fun u w hu hw h => ?_⟩
    · show L f i ≠ if u = v then q9 else τ.2.1 u
      split
      · exact hq _ _ (tw_mem hi rfl)
      · exact (g0 f i hi).2.2 u hu
    · show (if u = v then q9 else τ.2.1 u) ≠ t ∧ (if u = v then q9 else τ.2.1 u) ≠ τ.1
      split
      · exact ⟨fun h => hq _ _ tr_t h.symm, fun h => hq _ _ tr_w h.symm⟩
      · exact g2 u hu
    · have h : (if u = v then q9 else τ.2.1 u) = if w = v then q9 else τ.2.1 w := h
      by_cases hu2 : u = v <;> by_cases hw2 : w = v
      · rw [hu2, hw2]
      · rw [if_pos hu2, if_neg hw2] at h
        exact absurd h.symm (hq _ _ (tr_r hw))
      · rw [if_neg hu2, if_pos hw2] at h
        exact absurd h (hq _ _ (tr_r hu))
      · rw [if_neg hu2, if_neg hw2] at h
        exact g3 u w hu hw h
end TRL
/-- a longer row with the same words -/
theorem TRg.grow {gn : Nat → Nat} {lk : Nat → Nat → Nat} {τ τ' : Tau} {v q9 n : Nat} {z : Nat → Int64} (h : TRg gn lk τ) (hτ : τ' = (τ.1, (fun u => if u = v then q9 else τ.2.1 u), (fun u => if u = v then n else τ.2.2.1 u), fun u => if u = v then z else τ.2.2.2 u)) (h1 : τ.2.2.1 v ≤ n) (h2 : n ≤ 2 * (gn v / 12) + 1) (h3 : ∀ j, j < τ.2.2.1 v → z j = τ.2.2.2 v j) (h4 : ∀ j, τ.2.2.1 v ≤ j → j < n → z j = 0) : TRg gn lk τ' := by
  subst hτ
  intro u hu
  obtain ⟨a1, a2, a3, a4⟩ := h u hu
  by_cases huv : u = v
  · subst huv
    simp only [if_true]
    refine ⟨by omega, h2, by omega, fun j hj => ?_⟩
    rcases Nat.lt_or_ge j (τ.2.2.1 u) with q | q
    · rw [h3 j q]
      exact a4 j q
    · refine ⟨0, h4 j q hj, p32_pos _, fun p hp hg => ?_⟩
      omega
  · simp only [huv, if_false]
    exact ⟨a1, a2, a3, a4⟩
/-- the next link of a vehicle written -/
theorem TRg.put {gn : Nat → Nat} {lk : Nat → Nat → Nat} {τ τ' : Tau} {v x : Nat} {W : Nat} (h : TRg gn lk τ) (hx : x < 32) (hl : gn v / 12 < τ.2.2.1 v) (hW : τ.2.2.2 v (gn v / 12) = lN W) (hW2 : W < 32 ^ (gn v % 12)) (hWd : ∀ p, p < 12 → 12 * (gn v / 12) + p < gn v → W / 32 ^ p % 32 = lk v (12 * (gn v / 12) + p))
    (hτ : τ' = (τ.1, τ.2.1, τ.2.2.1, fun u => if u = v then vp_updL (τ.2.2.2 v) (gn v / 12) (lN (W + x * 32 ^ (gn v % 12))) else τ.2.2.2 u)) : TRg (fun u => if u = v then gn v + 1 else gn u) (fun u j => if u = v ∧ j = gn v then x else lk u j) τ' := by
  subst hτ
  intro u hu
  obtain ⟨a1, a2, a3, a4⟩ := h u hu
  by_cases huv : u = v
  · subst huv
    simp only [if_true, true_and]
    refine ⟨a1, by omega, by omega, fun j hj => ?_⟩
    by_cases hj2 : j = gn u / 12
    · subst hj2
      refine ⟨W + x * 32 ^ (gn u % 12), by simp [vp_updL], ?_, fun p hp hg => ?_⟩
      · rw [show min 12 (gn u + 1 - 12 * (gn u / 12)) = gn u % 12 + 1 by omega]
        exact W_put hW2 hx
      · by_cases hpe : 12 * (gn u / 12) + p = gn u
        · rw [if_pos hpe, show p = gn u % 12 by omega]
          exact W_hi hW2 hx
        · rw [if_neg hpe, W_lo (by omega)]
          exact hWd p hp (by omega)
    · obtain ⟨W2, b1, b2, b3⟩ := a4 j hj
      refine ⟨W2, by simp [vp_updL, hj2]; exact b1, ?_, fun p hp hg => ?_⟩
      · rw [show min 12 (gn u + 1 - 12 * j) = min 12 (gn u - 12 * j) by omega]
        exact b2
      · rw [if_neg (by omega)]
        exact b3 p hp (by omega)
  · have h9 : ∀ j, (if u = v ∧ j = gn v then x else lk u j) = lk u j := fun j => if_neg (fun h => huv h.1)
    simp only [huv, if_false, h9]
    exact ⟨a1, a2, a3, a4⟩
end
section
theorem tw_370 : Cond.arrayClass .long ∈ tp_all := tp_mem 370 (by decide +kernel) rfl
theorem tw_337 : Cond.methodLink RJ7 304 yJ9_min_7cf53 ∈ tp_all := tp_mem 337 (by decide +kernel) rfl
theorem tw_338 : Cond.static yJ9_min_7cf53 ∈ tp_all := tp_mem 338 (by decide +kernel) rfl
theorem tw_339 : Cond.code yJ9_min_7cf53 cJ9_min_7cf53 2 (some .int) ∈ tp_all := tp_mem 339 (by decide +kernel) rfl
theorem tw_340 : Cond.methodLink RJ7 150 ⟨"java/lang/System", "arraycopy", "(Ljava/lang/Object;ILjava/lang/Object;II)V"⟩ ∈ tp_all := tp_mem 340 (by decide +kernel) rfl
theorem dX8_isWithin_0 : decode cX8_isWithin 0 = .ok (.iload_n 0, 1) := by decide +kernel
theorem dX8_isWithin_1 : decode cX8_isWithin 1 = .ok (.iload_n 1, 1) := by decide +kernel
theorem dX8_isWithin_2 : decode cX8_isWithin 2 = .ok (.if_icmp .lt 12, 3) := by decide +kernel
theorem dX8_isWithin_14 : decode cX8_isWithin 14 = .ok (.iconst 0, 1) := by decide +kernel
theorem dX8_isWithin_15 : decode cX8_isWithin 15 = .ok (.ireturn, 1) := by decide +kernel
theorem dX8_isWithin_5 : decode cX8_isWithin 5 = .ok (.iload_n 0, 1) := by decide +kernel
theorem dX8_isWithin_6 : decode cX8_isWithin 6 = .ok (.iload_n 2, 1) := by decide +kernel
theorem dX8_isWithin_7 : decode cX8_isWithin 7 = .ok (.if_icmp .gt 7, 3) := by decide +kernel
theorem dX8_isWithin_10 : decode cX8_isWithin 10 = .ok (.iconst 1, 1) := by decide +kernel
theorem dX8_isWithin_11 : decode cX8_isWithin 11 = .ok (.goto 4, 3) := by decide +kernel
theorem dJ7_copyOf_c38d5_0 : decode cJ7_copyOf_c38d5 0 = .ok (.iload_n 1, 1) := by decide +kernel
theorem dJ7_copyOf_c38d5_1 : decode cJ7_copyOf_c38d5 1 = .ok (.aload_n 0, 1) := by decide +kernel
theorem dJ7_copyOf_c38d5_2 : decode cJ7_copyOf_c38d5 2 = .ok (.arraylength, 1) := by decide +kernel
theorem dJ7_copyOf_c38d5_3 : decode cJ7_copyOf_c38d5 3 = .ok (.if_icmp .ne 11, 3) := by decide +kernel
theorem dJ7_copyOf_c38d5_14 : decode cJ7_copyOf_c38d5 14 = .ok (.iload_n 1, 1) := by decide +kernel
theorem dJ7_copyOf_c38d5_15 : decode cJ7_copyOf_c38d5 15 = .ok (.newarray .long, 2) := by decide +kernel
theorem dJ7_copyOf_c38d5_17 : decode cJ7_copyOf_c38d5 17 = .ok (.astore_n 2, 1) := by decide +kernel
theorem dJ7_copyOf_c38d5_18 : decode cJ7_copyOf_c38d5 18 = .ok (.aload_n 0, 1) := by decide +kernel
theorem dJ7_copyOf_c38d5_19 : decode cJ7_copyOf_c38d5 19 = .ok (.iconst 0, 1) := by decide +kernel
theorem dJ7_copyOf_c38d5_20 : decode cJ7_copyOf_c38d5 20 = .ok (.aload_n 2, 1) := by decide +kernel
theorem dJ7_copyOf_c38d5_21 : decode cJ7_copyOf_c38d5 21 = .ok (.iconst 0, 1) := by decide +kernel
theorem dJ7_copyOf_c38d5_22 : decode cJ7_copyOf_c38d5 22 = .ok (.aload_n 0, 1) := by decide +kernel
theorem dJ7_copyOf_c38d5_23 : decode cJ7_copyOf_c38d5 23 = .ok (.arraylength, 1) := by decide +kernel
theorem dJ7_copyOf_c38d5_24 : decode cJ7_copyOf_c38d5 24 = .ok (.iload_n 1, 1) := by decide +kernel
theorem dJ7_copyOf_c38d5_25 : decode cJ7_copyOf_c38d5 25 = .ok (.invokestatic 304, 3) := by decide +kernel
theorem dJ7_copyOf_c38d5_28 : decode cJ7_copyOf_c38d5 28 = .ok (.invokestatic 150, 3) := by decide +kernel
theorem dJ7_copyOf_c38d5_31 : decode cJ7_copyOf_c38d5 31 = .ok (.aload_n 2, 1) := by decide +kernel
theorem dJ7_copyOf_c38d5_32 : decode cJ7_copyOf_c38d5 32 = .ok (.areturn, 1) := by decide +kernel
set_option maxRecDepth 100000 in
set_option maxHeartbeats 4000000 in
/-- Turnpike.isWithin -/
theorem c_isWithin (l : Launch) (dC : Nat → ClassId) (dI : Nat → Nat → Nat) (cy : Nat → ClassId) (P9 : mP) (x : Int32) (lo : Int32) (up : Int32) (sz : Nat) : Met l yX8_isWithin (tp_w yX8_isWithin cX8_isWithin 3 (some .boolean)) ({ frames := 0, cells := 0, slots := 0, locals := 0 }) (va_Pc [.int x, .int lo, .int up] (mPre dC dI cy P9 sz)) (va_Qi (fun (r u : Int32) => r = u) (fun (u : Int32) (t : State) => (u = W_in x lo up) ∧ mw (dC, dI) vwCl (mA P9 sz) P9 t.heap) (mA P9 sz)) (0) (0) (mA P9 sz) := by
  refine Met.ofW (cc := cX8_isWithin) (maxL := 3) (ret := (some .boolean)) (by decide) rfl ?_
  intro p e s m args below meth c s₁ B hml hv
  obtain ⟨rfl, hsz, hP, hK, hE⟩ := hv
  have hx := B.exec
  have hb := B.bytes
  have hr := B.returns
  have hts0 := atoms_spec (ws := tp_w yX8_isWithin cX8_isWithin 3 (some .boolean)) B.pre
  have hts : ∀ w ∈ tp_all, w.before _ s = true := fun w h => hts0 w (List.mem_cons_of_mem _ h)
  have hown : s.vm.findClass RX8 = some m.cls := findClass_of_methodNamed B.named
  have hlocks := B.notSynchronized
  subst hsz
  have hP := hP.self s.heap.size
  generalize hAe : mA P9 s.heap.size = A at hP ⊢
  have hA : ∀ q : Nat, s.heap.size ≤ q → A q := fun q h => by rw [← hAe]; exact Or.inr h
  have hS : va_S A s.heap s.heap [] := va_S.rf
  have hl9 := lv_entry ([.int x, .int lo, .int up]) (n := 3) (Nat.le_of_ble_eq_true rfl)
  rw [lg_entry_eq]
  generalize (lg_sl ([.int x, .int lo, .int up]) ++ List.replicate (3 - (lg_sl ([.int x, .int lo, .int up])).length) Slot.unset).toArray = ls at hl9 ⊢
  have hl : lv_has ls 3 [(0, .int x), (1, .int lo), (2, .int up)] := hl9
  refine lv_iload_n hx hb dX8_isWithin_0 rfl (lv_at hl 0 rfl) ?_
  refine lv_iload_n hx hb dX8_isWithin_1 rfl (lv_at hl 1 rfl) ?_
  refine lv_icmp_lt (tgt := 14) hx hb dX8_isWithin_2 (by decide) (fun c_1 => ?_) (fun c_1 => ?_)
  · refine lv_iconst (v := 0) hx hb dX8_isWithin_14 (by decide) ?_
    refine W.widen (k := 0) (n := 0) (Nat.le_of_ble_eq_true rfl) (Nat.le_of_ble_eq_true rfl) ?_
    have g_1 : 0 = W_in x lo up := by
      first | rfl | assumption | (simp only [W_in, if_pos c_1])
    exact W.zret (v := 0) hx hb hr rfl (fun t ht hW => ⟨⟨0, 0, rfl, rfl, ⟨g_1, by show mw _ _ _ _ t.heap; rw [ht]; exact hP⟩⟩, hS.F ht⟩) hS.2.2 dX8_isWithin_15
  · refine lv_iload_n hx hb dX8_isWithin_5 rfl (lv_at hl 0 rfl) ?_
    refine lv_iload_n hx hb dX8_isWithin_6 rfl (lv_at hl 2 rfl) ?_
    refine lv_icmp_gt (tgt := 14) hx hb dX8_isWithin_7 (by decide) (fun c_2 => ?_) (fun c_2 => ?_)
    · refine lv_iconst (v := 0) hx hb dX8_isWithin_14 (by decide) ?_
      refine W.widen (k := 0) (n := 0) (Nat.le_of_ble_eq_true rfl) (Nat.le_of_ble_eq_true rfl) ?_
      have g_2 : 0 = W_in x lo up := by
        first | rfl | assumption | (simp only [W_in, if_neg c_1, if_pos c_2])
      exact W.zret (v := 0) hx hb hr rfl (fun t ht hW => ⟨⟨0, 0, rfl, rfl, ⟨g_2, by show mw _ _ _ _ t.heap; rw [ht]; exact hP⟩⟩, hS.F ht⟩) hS.2.2 dX8_isWithin_15
    · refine lv_iconst (v := 1) hx hb dX8_isWithin_10 (by decide) ?_
      refine lv_goto (tgt := 15) hx hb dX8_isWithin_11 (by decide) ?_
      refine W.widen (k := 0) (n := 0) (Nat.le_of_ble_eq_true rfl) (Nat.le_of_ble_eq_true rfl) ?_
      have g_3 : 1 = W_in x lo up := by
        first | rfl | assumption | (simp only [W_in, if_neg c_1, if_neg c_2])
      exact W.zret (v := 1) hx hb hr rfl (fun t ht hW => ⟨⟨1, 1, rfl, rfl, ⟨g_3, by show mw _ _ _ _ t.heap; rw [ht]; exact hP⟩⟩, hS.F ht⟩) hS.2.2 dX8_isWithin_15
set_option maxRecDepth 100000 in
set_option maxHeartbeats 4000000 in
/-- Arrays.copyOf of longs, to a longer row -/
theorem c_copyOf (l : Launch) (dC : Nat → ClassId) (dI : Nat → Nat → Nat) (cy : Nat → ClassId) (P9 : mP) (a0 : Nat) (n : Nat) (fl : Nat → Int64) (nl : Int32) (sz : Nat) (hm : P9 a0 (.inl (cy 1, n, .inr (.inl (fl))))) (hn : n < 1000000) (hnl : ¬ nl < 0) (hgt : n < nl.toNatClampNeg) (hsz : nl.toNatClampNeg < 1000000) : Met l yJ7_copyOf_c38d5 (tp_w yJ7_copyOf_c38d5 cJ7_copyOf_c38d5 3 (some (.array .long))) ({ frames := 1, cells := 1, slots := nl.toNatClampNeg, locals := 18 }) (va_Pc [.ref a0, .int nl] (mPre dC dI cy P9 sz)) (va_Qr (fun _ : Unit => True) (fun (_ : Unit) (rv : Nat) (t : State) => (∀ q e, P9 q e → q ≠ rv) ∧ mw (dC, dI) vwCl (mA P9 sz) (madd P9 rv (.inl (cy 1, nl.toNatClampNeg, .inr (.inl (va_cpy fl (fun _ => 0) 0 0 n))))) t.heap) (mA P9 sz)) (1) (nl.toNatClampNeg) (mA P9 sz) := by
  refine Met.ofW (cc := cJ7_copyOf_c38d5) (maxL := 3) (ret := (some (.array .long))) (by decide) rfl ?_
  intro p e s m args below meth c s₁ B hml hv
  obtain ⟨rfl, hsz, hP, hK, hE⟩ := hv
  have hx := B.exec
  have hb := B.bytes
  have hr := B.returns
  have hts0 := atoms_spec (ws := tp_w yJ7_copyOf_c38d5 cJ7_copyOf_c38d5 3 (some (.array .long))) B.pre
  have hts : ∀ w ∈ tp_all, w.before _ s = true := fun w h => hts0 w (List.mem_cons_of_mem _ h)
  have hown : s.vm.findClass RJ7 = some m.cls := findClass_of_methodNamed B.named
  have hlocks := B.notSynchronized
  subst hsz
  have hP := hP.self s.heap.size
  generalize hAe : mA P9 s.heap.size = A at hP ⊢
  have hA : ∀ q : Nat, s.heap.size ≤ q → A q := fun q h => by rw [← hAe]; exact Or.inr h
  have hS : va_S A s.heap s.heap [] := va_S.rf
  have hl9 := lv_entry ([.ref a0, .int nl]) (n := 3) (Nat.le_of_ble_eq_true rfl)
  rw [lg_entry_eq]
  generalize (lg_sl ([.ref a0, .int nl]) ++ List.replicate (3 - (lg_sl ([.ref a0, .int nl])).length) Slot.unset).toArray = ls at hl9 ⊢
  have hl : lv_has ls 3 [(0, .ref a0), (1, .int nl)] := hl9
  refine lv_iload_n hx hb dJ7_copyOf_c38d5_0 rfl (lv_at hl 1 rfl) ?_
  refine lv_aload_n hx hb dJ7_copyOf_c38d5_1 rfl (lv_at hl 0 rfl) ?_
  have hnz : nl = nI nl.toNatClampNeg := m_nI hnl
  refine va_alen hx hb hK (ws := [(a0, .inl (cy 1, n, .inr (.inl (fl))))]) (hP.one hm) 0 1 rfl rfl (v := nI n) rfl dJ7_copyOf_c38d5_2 ?_
  refine lv_icmp_ne (tgt := 14) hx hb dJ7_copyOf_c38d5_3 (by decide) (fun _ => ?_) (fun c_1 => absurd c_1 (fun h9 => absurd (by rw [h9, nI_clamp (by omega)] at hgt; exact hgt) (Nat.lt_irrefl n)))
  refine lv_iload_n hx hb dJ7_copyOf_c38d5_14 rfl (lv_at hl 1 rfl) ?_
  obtain ⟨ws9, hPw, hDw, hin9, hbk⟩ := hP.push
  refine va_newa hx hb (atype := .long) (hts _ tw_370) (ty := .long) rfl hK hPw hDw hS hA (a0 := (nl.toNatClampNeg, .inr (.inl (fun _ => 0)))) (N' := nl.toNatClampNeg) (fun _ => rfl) hnl rfl (by show nl.toNatClampNeg * 8 ≤ 536870912; omega) (by show 0 + 1 ≤ 1; omega) (by show 0 + nl.toNatClampNeg ≤ nl.toNatClampNeg; omega) dJ7_copyOf_c38d5_15 (fun q9 k9 H hK9 hPw hDw hS => ?_)
  obtain rfl : k9 = cy 1 := tp_one hK9 11 1 rfl rfl
  obtain ⟨hP, hfr⟩ := hbk _ _ _ hPw hDw
  clear hbk hPw hDw hin9
  refine lv_astore_n (lv' := [(2, .ref q9), (0, .ref a0), (1, .int nl)]) hx hb dJ7_copyOf_c38d5_17 rfl hl (by decide) rfl (fun ls hl => ?_)
  refine lv_aload_n hx hb dJ7_copyOf_c38d5_18 rfl (lv_at hl 1 rfl) ?_
  refine lv_iconst (v := 0) hx hb dJ7_copyOf_c38d5_19 (by decide) ?_
  refine lv_aload_n hx hb dJ7_copyOf_c38d5_20 rfl (lv_at hl 0 rfl) ?_
  refine lv_iconst (v := 0) hx hb dJ7_copyOf_c38d5_21 (by decide) ?_
  refine lv_aload_n hx hb dJ7_copyOf_c38d5_22 rfl (lv_at hl 1 rfl) ?_
  have hm2 : madd P9 q9 (.inl (cy 1, nl.toNatClampNeg, .inr (.inl (fun _ => 0)))) a0 (.inl (cy 1, n, .inr (.inl (fl)))) := Or.inl hm
  have hm3 : madd P9 q9 (.inl (cy 1, nl.toNatClampNeg, .inr (.inl (fun _ => 0)))) q9 (.inl (cy 1, nl.toNatClampNeg, .inr (.inl (fun _ => 0)))) := Or.inr ⟨rfl, rfl⟩
  refine va_alen hx hb hK (ws := [(a0, .inl (cy 1, n, .inr (.inl (fl))))]) (hP.one hm2) 0 1 rfl rfl (v := nI n) rfl dJ7_copyOf_c38d5_23 ?_
  refine lv_iload_n hx hb dJ7_copyOf_c38d5_24 rfl (lv_at hl 2 rfl) ?_
  refine va_mmin hx hb (hml.trans hl.1.symm) hown (hts _ tw_337) (hts _ tw_338) (hts _ tw_25) (hts _ tw_339) (Nat.le_of_ble_eq_true rfl) (Nat.le_of_ble_eq_true rfl) (Nat.le_of_ble_eq_true rfl) (by show 0 + nl.toNatClampNeg + 0 ≤ nl.toNatClampNeg; omega) dJ7_copyOf_c38d5_25 ?_
  have hmin : (if nl < nI n then nl else nI n) = nI n := if_neg (by rw [hnz]; exact nI_nlt (by omega) (by omega))
  refine W.eq (g2 := F0 m 28 ls [.int (nI n), .int 0, .ref q9, .int 0, .ref a0]) (by rw [hmin]) ?_
  obtain ⟨ws9, k9, hPw, hDw, hk9, hin9, hbk⟩ := hP.cut hm3
  obtain ⟨k8, hk8⟩ := hin9 _ _ hm2
  refine va_copyl hx hb (hml.trans hl.1.symm) hown (hts _ tw_340) (hts _ tw_342) (hts _ tw_341) (hts _ tw_36) hK hPw hDw hS k8 k9 1 1 hk8 hk9 rfl rfl rfl (by decide) (by decide) (nI_pos (by omega)) (by rw [nI_clamp (by omega)]; show 0 + n ≤ n; omega) (by rw [nI_clamp (by omega)]; show 0 + n ≤ _; omega) (fun _ _ => rfl) (Nat.le_of_ble_eq_true rfl) (Nat.le_of_ble_eq_true rfl) dJ7_copyOf_c38d5_28 (fun H locs hPw hDw hS => ?_)
  rw [nI_clamp (by omega), show (0 : Int32).toNatClampNeg = 0 from rfl] at hPw hDw
  have hP : mw (dC, dI) vwCl A (madd P9 q9 (.inl (cy 1, nl.toNatClampNeg, .inr (.inl (va_cpy fl (fun _ => 0) 0 0 n))))) H := (hbk _ _ hPw hDw).sub (fun q e h => h.elim (fun h => Or.inr ⟨hfr q e h, Or.inl h⟩) (fun h => Or.inl h))
  refine lv_aload_n hx hb dJ7_copyOf_c38d5_31 rfl (lv_at hl 0 rfl) ?_
  refine W.widen (k := 1) (n := nl.toNatClampNeg) (by omega) (by omega) ?_
  exact W.aret (v := .ref q9) hx hb hr (Or.inr ⟨_, rfl⟩) (Or.inr ⟨_, rfl⟩) (fun t ht hW => ⟨⟨(), q9, rfl, trivial, hfr, by show mw _ _ _ _ t.heap; rw [ht]; exact hP⟩, hS.F ht⟩) hS.2.2 dJ7_copyOf_c38d5_32
end
section
theorem tw_44 : Cond.code yX8_isWithin cX8_isWithin 3 (some .boolean) ∈ tp_all := tp_mem 44 (by decide +kernel) rfl
theorem tw_20 : Cond.initialized RX8 ∈ tp_all := tp_mem 20 (by decide +kernel) rfl
theorem tw_43 : Cond.static yX8_isWithin ∈ tp_all := tp_mem 43 (by decide +kernel) rfl
theorem tw_727 : Cond.fieldLink RX6 11 "Turnpike$Trails" "words" "[[J" ∈ tp_all := tp_mem 727 (by decide +kernel) rfl
theorem tw_326 : Cond.methodLink RX6 20 yJ9_max_7cf53 ∈ tp_all := tp_mem 326 (by decide +kernel) rfl
theorem tw_329 : Cond.code yJ7_copyOf_c38d5 cJ7_copyOf_c38d5 3 (some (.array .long)) ∈ tp_all := tp_mem 329 (by decide +kernel) rfl
theorem tw_327 : Cond.methodLink RX6 26 yJ7_copyOf_c38d5 ∈ tp_all := tp_mem 327 (by decide +kernel) rfl
theorem tw_328 : Cond.static yJ7_copyOf_c38d5 ∈ tp_all := tp_mem 328 (by decide +kernel) rfl
theorem te_m0 {U : State} (h : tp_E U) : va_Nw (.methodLinkNest "Turnpike$Trails" 16 yX8_isWithin "Turnpike") U := h.2.1 _ (List.mem_of_getElem? (i := 0) rfl)
theorem dX6_put_0 : decode cX6_put 0 = .ok (.iload_n 1, 1) := by decide +kernel
theorem dX6_put_1 : decode cX6_put 1 = .ok (.iconst 0, 1) := by decide +kernel
theorem dX6_put_2 : decode cX6_put 2 = .ok (.sipush 199, 3) := by decide +kernel
theorem dX6_put_5 : decode cX6_put 5 = .ok (.invokestatic 16, 3) := by decide +kernel
theorem dX6_put_8 : decode cX6_put 8 = .ok (.ifCond .eq 14, 3) := by decide +kernel
theorem dX6_put_11 : decode cX6_put 11 = .ok (.iload_n 2, 1) := by decide +kernel
theorem dX6_put_12 : decode cX6_put 12 = .ok (.iconst 0, 1) := by decide +kernel
theorem dX6_put_13 : decode cX6_put 13 = .ok (.sipush 30719, 3) := by decide +kernel
theorem dX6_put_16 : decode cX6_put 16 = .ok (.invokestatic 16, 3) := by decide +kernel
theorem dX6_put_19 : decode cX6_put 19 = .ok (.ifCond .ne 4, 3) := by decide +kernel
theorem dX6_put_23 : decode cX6_put 23 = .ok (.iload_n 2, 1) := by decide +kernel
theorem dX6_put_24 : decode cX6_put 24 = .ok (.bipush 12, 2) := by decide +kernel
theorem dX6_put_26 : decode cX6_put 26 = .ok (.idiv, 1) := by decide +kernel
theorem dX6_put_27 : decode cX6_put 27 = .ok (.istore 4, 2) := by decide +kernel
theorem dX6_put_29 : decode cX6_put 29 = .ok (.aload_n 0, 1) := by decide +kernel
theorem dX6_put_30 : decode cX6_put 30 = .ok (.getfield 11, 3) := by decide +kernel
theorem dX6_put_33 : decode cX6_put 33 = .ok (.iload_n 1, 1) := by decide +kernel
theorem dX6_put_34 : decode cX6_put 34 = .ok (.aaload, 1) := by decide +kernel
theorem dX6_put_35 : decode cX6_put 35 = .ok (.arraylength, 1) := by decide +kernel
theorem dX6_put_36 : decode cX6_put 36 = .ok (.istore 5, 2) := by decide +kernel
theorem dX6_put_38 : decode cX6_put 38 = .ok (.iload 4, 2) := by decide +kernel
theorem dX6_put_40 : decode cX6_put 40 = .ok (.iload 5, 2) := by decide +kernel
theorem dX6_put_42 : decode cX6_put 42 = .ok (.if_icmp .lt 29, 3) := by decide +kernel
theorem dX6_put_45 : decode cX6_put 45 = .ok (.aload_n 0, 1) := by decide +kernel
theorem dX6_put_46 : decode cX6_put 46 = .ok (.getfield 11, 3) := by decide +kernel
theorem dX6_put_49 : decode cX6_put 49 = .ok (.iload_n 1, 1) := by decide +kernel
theorem dX6_put_50 : decode cX6_put 50 = .ok (.aload_n 0, 1) := by decide +kernel
theorem dX6_put_51 : decode cX6_put 51 = .ok (.getfield 11, 3) := by decide +kernel
theorem dX6_put_54 : decode cX6_put 54 = .ok (.iload_n 1, 1) := by decide +kernel
theorem dX6_put_55 : decode cX6_put 55 = .ok (.aaload, 1) := by decide +kernel
theorem dX6_put_56 : decode cX6_put 56 = .ok (.iload 4, 2) := by decide +kernel
theorem dX6_put_58 : decode cX6_put 58 = .ok (.iconst 1, 1) := by decide +kernel
theorem dX6_put_59 : decode cX6_put 59 = .ok (.iadd, 1) := by decide +kernel
theorem dX6_put_60 : decode cX6_put 60 = .ok (.iconst 2, 1) := by decide +kernel
theorem dX6_put_61 : decode cX6_put 61 = .ok (.iload 5, 2) := by decide +kernel
theorem dX6_put_63 : decode cX6_put 63 = .ok (.imul, 1) := by decide +kernel
theorem dX6_put_64 : decode cX6_put 64 = .ok (.invokestatic 20, 3) := by decide +kernel
theorem dX6_put_67 : decode cX6_put 67 = .ok (.invokestatic 26, 3) := by decide +kernel
theorem dX6_put_70 : decode cX6_put 70 = .ok (.aastore, 1) := by decide +kernel
theorem dX6_put_71 : decode cX6_put 71 = .ok (.aload_n 0, 1) := by decide +kernel
theorem dX6_put_72 : decode cX6_put 72 = .ok (.getfield 11, 3) := by decide +kernel
theorem dX6_put_75 : decode cX6_put 75 = .ok (.iload_n 1, 1) := by decide +kernel
theorem dX6_put_76 : decode cX6_put 76 = .ok (.aaload, 1) := by decide +kernel
theorem dX6_put_77 : decode cX6_put 77 = .ok (.iload 4, 2) := by decide +kernel
theorem dX6_put_79 : decode cX6_put 79 = .ok (.dup2, 1) := by decide +kernel
theorem dX6_put_80 : decode cX6_put 80 = .ok (.laload, 1) := by decide +kernel
theorem dX6_put_81 : decode cX6_put 81 = .ok (.iload_n 3, 1) := by decide +kernel
theorem dX6_put_82 : decode cX6_put 82 = .ok (.i2l, 1) := by decide +kernel
theorem dX6_put_83 : decode cX6_put 83 = .ok (.iload_n 2, 1) := by decide +kernel
theorem dX6_put_84 : decode cX6_put 84 = .ok (.bipush 12, 2) := by decide +kernel
theorem dX6_put_86 : decode cX6_put 86 = .ok (.irem, 1) := by decide +kernel
theorem dX6_put_87 : decode cX6_put 87 = .ok (.iconst 5, 1) := by decide +kernel
theorem dX6_put_88 : decode cX6_put 88 = .ok (.imul, 1) := by decide +kernel
theorem dX6_put_89 : decode cX6_put 89 = .ok (.lshl, 1) := by decide +kernel
theorem dX6_put_90 : decode cX6_put 90 = .ok (.lor, 1) := by decide +kernel
theorem dX6_put_91 : decode cX6_put 91 = .ok (.lastore, 1) := by decide +kernel
theorem dX6_put_92 : decode cX6_put 92 = .ok (.return_, 1) := by decide +kernel
set_option maxRecDepth 100000 in
set_option maxHeartbeats 4000000 in
/-- Trails.put -/
theorem c_Trails_put (l : Launch) (dC : Nat → ClassId) (dI : Nat → Nat → Nat) (cy : Nat → ClassId) (L : Lay) (t0 : Nat) (a : St) (κ : Kap) (τ : Tau) (v : Nat) (vn : Int32) (pl : Int32) (nx : Int32) (x : Nat) (Bd : Nat) (gn : Nat → Nat) (lk : Nat → Nat → Nat) (sz : Nat) (hT : TL L (some t0) τ) (hv : v < 200) (hvn : vn = nI v) (hpl : pl = nI (gn v)) (hB : gn v ≤ Bd) (hB2 : Bd < 30000) (hnx : nx = nI x) (hx32 : x < 32) (hg : TRg gn lk τ) : Met l yX6_put (tp_w yX6_put cX6_put 6 none) ({ frames := 2, cells := 1, slots := 2 * (Bd / 12) + 1, locals := 40 }) (va_Pc [.ref t0, .int vn, .int pl, .int nx] (mPre dC dI cy (TW cy L ((some t0)) a κ τ) sz)) (va_Qv (fun _ : Unit => True) (fun (_ : Unit) (t : State) => ∃ (τ2 : Tau), (TL L (some t0) τ2) ∧ (TRg (fun u => if u = v then gn v + 1 else gn u) (fun u j => if u = v ∧ j = gn v then x else lk u j) τ2) ∧ mw (dC, dI) vwCl (mA (TW cy L ((some t0)) a κ τ) sz) (TW cy L ((some t0)) a κ τ2) t.heap) (mA (TW cy L ((some t0)) a κ τ) sz)) (1) (2 * (Bd / 12) + 1) (mA (TW cy L ((some t0)) a κ τ) sz) := by
  refine Met.ofW (cc := cX6_put) (maxL := 6) (ret := none) (by decide) rfl ?_
  intro p e s m args below meth c s₁ B hml hv
  obtain ⟨rfl, hsz, hP, hK, hE⟩ := hv
  have hx := B.exec
  have hb := B.bytes
  have hr := B.returns
  have hts0 := atoms_spec (ws := tp_w yX6_put cX6_put 6 none) B.pre
  have hts : ∀ w ∈ tp_all, w.before _ s = true := fun w h => hts0 w (List.mem_cons_of_mem _ h)
  have hown : s.vm.findClass RX6 = some m.cls := findClass_of_methodNamed B.named
  have hlocks := B.notSynchronized
  subst hsz
  have hP := hP.self s.heap.size
  generalize hAe : mA (TW cy L ((some t0)) a κ τ) s.heap.size = A at hP ⊢
  have hA : ∀ q : Nat, s.heap.size ≤ q → A q := fun q h => by rw [← hAe]; exact Or.inr h
  have hS : va_S A s.heap s.heap [] := va_S.rf
  have hl9 := lv_entry ([.ref t0, .int vn, .int pl, .int nx]) (n := 6) (Nat.le_of_ble_eq_true rfl)
  rw [lg_entry_eq]
  generalize (lg_sl ([.ref t0, .int vn, .int pl, .int nx]) ++ List.replicate (6 - (lg_sl ([.ref t0, .int vn, .int pl, .int nx])).length) Slot.unset).toArray = ls at hl9 ⊢
  have hl : lv_has ls 6 [(0, .ref t0), (1, .int vn), (2, .int pl), (3, .int nx)] := hl9
  have hcl : vn.toNatClampNeg = v := m_cl hvn hv (by decide)
  refine lv_iload_n hx hb dX6_put_0 rfl (lv_at hl 1 rfl) ?_
  refine lv_iconst (v := 0) hx hb dX6_put_1 (by decide) ?_
  refine lv_sipush (v := 199) hx hb dX6_put_2 (by decide) ?_
  have hFc := m_free (C := (TW cy L ((some t0)) a κ τ)) hP hS hA (fun _ _ h => h)
  refine va_calli (va_runSN (As := [.int vn, .int 0, .int 199]) (rest := []) ⟨hx, hb, hml, hown, hts⟩ (c_isWithin l dC dI cy ((TW cy L ((some t0)) a κ τ)) vn 0 199 s.heap.size) ⟨tp_cnB 3 hts (te_m0 hE) tw_20 tw_44 rfl rfl (by decide +kernel) ⟨Nat.le_of_ble_eq_true rfl, Nat.le_of_ble_eq_true rfl⟩, hts _ tw_43, trivial⟩ ⟨m_blind, fun U hU hW => ⟨rfl, m_pay hK hP hE (fun _ _ h => h) U hU hW⟩⟩ rfl rfl hl.1 rfl (lv_room (Nat.le_of_ble_eq_true rfl)) dX6_put_5 ⟨(Nat.le_of_ble_eq_true rfl), (by show 0 + 0 ≤ 2 * (Bd / 12) + 1; omega)⟩) hS (fun q _ h => hFc q h) hFc (fun r_1 u t H1 locs ht hvm hpo hB hz1 hk1 hS => ?_)
  obtain rfl := hpo
  obtain ⟨f_1, hP1⟩ := hB
  subst f_1
  rw [ht] at hP1
  have hP : mw (dC, dI) vwCl A (TW cy L ((some t0)) a κ τ) H1 := hP.join (fun _ _ h => h) hk1 hFc hP1 (fun _ _ h => Or.inl h)
  generalize H1 = H at hP hS ⊢
  clear hP1 hk1 hFc
  refine W.eq (g2 := F0 m 8 ls [.int 1]) (by rw [W_in_1 (by rw [hvn]; exact nI_pos (by omega)) (by rw [hvn]; exact nI_nlt (a := 199) (b := v) (by omega) (by decide))]) ?_
  refine lv_if_eq (tgt := 22) hx hb dX6_put_8 (by decide) (fun c_1 => absurd c_1 (by decide)) (fun _ => ?_)
  refine lv_iload_n hx hb dX6_put_11 rfl (lv_at hl 2 rfl) ?_
  refine lv_iconst (v := 0) hx hb dX6_put_12 (by decide) ?_
  refine lv_sipush (v := 30719) hx hb dX6_put_13 (by decide) ?_
  have hFc := m_free (C := (TW cy L ((some t0)) a κ τ)) hP hS hA (fun _ _ h => h)
  refine va_calli (va_runSN (As := [.int pl, .int 0, .int 30719]) (rest := []) ⟨hx, hb, hml, hown, hts⟩ (c_isWithin l dC dI cy ((TW cy L ((some t0)) a κ τ)) pl 0 30719 H.size) ⟨tp_cnB 3 hts (te_m0 hE) tw_20 tw_44 rfl rfl (by decide +kernel) ⟨Nat.le_of_ble_eq_true rfl, Nat.le_of_ble_eq_true rfl⟩, hts _ tw_43, trivial⟩ ⟨m_blind, fun U hU hW => ⟨rfl, m_pay hK hP hE (fun _ _ h => h) U hU hW⟩⟩ rfl rfl hl.1 rfl (lv_room (Nat.le_of_ble_eq_true rfl)) dX6_put_16 ⟨(Nat.le_of_ble_eq_true rfl), (by show 0 + 0 + 0 ≤ 2 * (Bd / 12) + 1; omega)⟩) hS (fun q _ h => hFc q h) hFc (fun r_2 u t H1 locs ht hvm hpo hB hz1 hk1 hS => ?_)
  obtain rfl := hpo
  obtain ⟨f_2, hP1⟩ := hB
  subst f_2
  rw [ht] at hP1
  have hP : mw (dC, dI) vwCl A (TW cy L ((some t0)) a κ τ) H1 := hP.join (fun _ _ h => h) hk1 hFc hP1 (fun _ _ h => Or.inl h)
  generalize H1 = H at hP hS ⊢
  clear hP1 hk1 hFc
  refine W.eq (g2 := F0 m 19 ls [.int 1]) (by rw [W_in_1 (by rw [hpl]; exact nI_pos (by omega)) (by rw [hpl]; exact nI_nlt (a := 30719) (b := gn v) (by omega) (by decide))]) ?_
  refine lv_if_ne (tgt := 23) hx hb dX6_put_19 (by decide) (fun _ => ?_) (fun c_2 => absurd c_2 (by decide))
  refine lv_iload_n hx hb dX6_put_23 rfl (lv_at hl 2 rfl) ?_
  refine lv_bipush (v := 12) hx hb dX6_put_24 (by decide) ?_
  refine lv_idiv hx hb dX6_put_26 (by decide) ?_
  refine W.eq (g2 := F0 m 27 ls [.int (nI (gn v / 12))]) (by rw [hpl]; exact congrArg (fun z => F0 m _ ls [Value.int z]) (pk_div (a := gn v) (d := 12) (by omega) (by decide) (by decide))) ?_
  refine lv_istore (lv' := [(4, .int (nI (gn v / 12))), (0, .ref t0), (1, .int vn), (2, .int pl), (3, .int nx)]) hx hb dX6_put_27 hl (by decide) rfl (fun ls hl => ?_)
  refine lv_aload_n hx hb dX6_put_29 rfl (lv_at hl 1 rfl) ?_
  refine va_get (D := (dC, dI)) (ws := [(t0, .inr (6, [.ref τ.1]))]) (ci := 6) (v := .ref τ.1) (C := RX6) (T := TX6) (N := 1) hx hb hts tl_X6 hown hK (hP.one tr_t) 0 rfl rfl 0 (by decide) (hts _ tw_727) (fun _ h9 => h9) rfl dX6_put_30 ?_
  refine lv_iload_n hx hb dX6_put_33 rfl (lv_at hl 2 rfl) ?_
  refine m_aldA hx hb hK (ws := [(τ.1, .inl (cy 9, 200, .inr (.inr (.inr (.inr (fun v => some (τ.2.1 v)))))))]) (hP.one tr_w) 0 9 rfl rfl (m_in hvn hv (by decide)) dX6_put_34 ?_
  refine W.eq (g2 := F0 m 35 ls [.ref (τ.2.1 v)]) (by rw [hcl]; rfl) ?_
  refine va_alen hx hb hK (ws := [(τ.2.1 v, .inl (cy 1, (τ.2.2.1 v), .inr (.inl (τ.2.2.2 v))))]) (hP.one (tr_r hv)) 0 1 rfl rfl (v := nI (τ.2.2.1 v)) rfl dX6_put_35 ?_
  refine lv_istore (lv' := [(5, .int (nI (τ.2.2.1 v))), (4, .int (nI (gn v / 12))), (0, .ref t0), (1, .int vn), (2, .int pl), (3, .int nx)]) hx hb dX6_put_36 hl (by decide) rfl (fun ls hl => ?_)
  obtain ⟨g1, g2, g3, g4⟩ := hg v hv
  suffices htail : ∀ (τ1 : Tau), TL L (some t0) τ1 → TRg gn lk τ1 → gn v / 12 < τ1.2.2.1 v → ∀ ls : Array Slot, lv_has ls 6 [(4, .int (nI (gn v / 12))), (0, .ref t0), (1, .int vn), (2, .int pl), (3, .int nx)] → ∀ (H : Heap) (locs : List Loc), mw (dC, dI) vwCl A (TW cy L (some t0) a κ τ1) H → va_S A s.heap H locs → W p l e _ s m _ below meth c H locs 1 (2 * (Bd / 12) + 1) _ (F0 m 71 ls []) by
    refine lv_iload hx hb dX6_put_38 (lv_at hl 1 rfl) ?_
    refine lv_iload hx hb dX6_put_40 (lv_at hl 0 rfl) ?_
    refine lv_icmp_lt (tgt := 71) hx hb dX6_put_42 (by decide) (fun c_3 => ?_) (fun c_3 => ?_)
    · refine W.widen (k := 1) (n := 2 * (Bd / 12) + 1) (by omega) (by omega) ?_
      exact htail τ hT hg ((nI_ltI (by omega) (by omega)).mp c_3) ls (lv_sub hl [1, 2, 3, 4, 5] rfl) _ _ hP hS
    · have hlen : τ.2.2.1 v ≤ gn v / 12 := Nat.le_of_not_lt fun h9 => c_3 ((nI_ltI (by omega) (by omega)).mpr h9)
      refine lv_aload_n hx hb dX6_put_45 rfl (lv_at hl 2 rfl) ?_
      refine va_get (D := (dC, dI)) (ws := [(t0, .inr (6, [.ref τ.1]))]) (ci := 6) (v := .ref τ.1) (C := RX6) (T := TX6) (N := 1) hx hb hts tl_X6 hown hK (hP.one tr_t) 0 rfl rfl 0 (by decide) (hts _ tw_727) (fun _ h9 => h9) rfl dX6_put_46 ?_
      refine lv_iload_n hx hb dX6_put_49 rfl (lv_at hl 3 rfl) ?_
      refine lv_aload_n hx hb dX6_put_50 rfl (lv_at hl 2 rfl) ?_
      refine va_get (D := (dC, dI)) (ws := [(t0, .inr (6, [.ref τ.1]))]) (ci := 6) (v := .ref τ.1) (C := RX6) (T := TX6) (N := 1) hx hb hts tl_X6 hown hK (hP.one tr_t) 0 rfl rfl 0 (by decide) (hts _ tw_727) (fun _ h9 => h9) rfl dX6_put_51 ?_
      refine lv_iload_n hx hb dX6_put_54 rfl (lv_at hl 3 rfl) ?_
      refine m_aldA hx hb hK (ws := [(τ.1, .inl (cy 9, 200, .inr (.inr (.inr (.inr (fun v => some (τ.2.1 v)))))))]) (hP.one tr_w) 0 9 rfl rfl (m_in hvn hv (by decide)) dX6_put_55 ?_
      refine W.eq (g2 := F0 m 56 ls [.ref (τ.2.1 v), .int vn, .ref τ.1]) (by rw [hcl]; rfl) ?_
      refine lv_iload hx hb dX6_put_56 (lv_at hl 1 rfl) ?_
      refine lv_iconst (v := 1) hx hb dX6_put_58 (by decide) ?_
      refine lv_iadd hx hb dX6_put_59 ?_
      refine lv_iconst (v := 2) hx hb dX6_put_60 (by decide) ?_
      refine lv_iload hx hb dX6_put_61 (lv_at hl 0 rfl) ?_
      refine lv_imul hx hb dX6_put_63 ?_
      refine va_mmax hx hb (hml.trans hl.1.symm) hown (hts _ tw_326) (hts _ tw_292) (hts _ tw_25) (hts _ tw_293) (Nat.le_of_ble_eq_true rfl) (Nat.le_of_ble_eq_true rfl) (Nat.le_of_ble_eq_true rfl) (by show 0 + 0 + 0 + 0 ≤ 2 * (Bd / 12) + 1; omega) dX6_put_64 ?_
      obtain ⟨n9, hn9, hn1, hn2⟩ : ∃ n9 : Nat, (if ((nI (gn v / 12)) + 1) < (2 * (nI (τ.2.2.1 v))) then (2 * (nI (τ.2.2.1 v))) else ((nI (gn v / 12)) + 1)) = nI n9 ∧ τ.2.2.1 v < n9 ∧ n9 ≤ 2 * (gn v / 12) + 1 := by
        rw [nI_1, show (2 : Int32) * nI (τ.2.2.1 v) = nI (2 * τ.2.2.1 v) from pk_mul 2 _]
        split
        · exact ⟨_, rfl, by omega, by omega⟩
        · exact ⟨_, rfl, by omega, by omega⟩
      refine W.eq (g2 := F0 m 67 ls [.int (nI n9), .ref (τ.2.1 v), .int vn, .ref τ.1]) (by rw [hn9]) ?_
      have hFc := m_free (C := (TW cy L ((some t0)) a κ τ)) hP hS hA (fun _ _ h => h)
      refine va_callr (va_runS (As := [.ref (τ.2.1 v), .int (nI n9)]) (rest := [.int vn, .ref τ.1]) ⟨hx, hb, hml, hown, hts⟩ (c_copyOf l dC dI cy ((TW cy L ((some t0)) a κ τ)) (τ.2.1 v) (τ.2.2.1 v) (τ.2.2.2 v) (nI n9) H.size (tr_r hv) (by omega) (nI_pos (by omega)) (by rw [nI_clamp (by omega)]; exact hn1) (by rw [nI_clamp (by omega)]; omega)) (tp_cwS 2 hts tw_327 tw_328 tw_37 tw_329 rfl rfl (by decide +kernel) ⟨Nat.le_of_ble_eq_true rfl, Nat.le_of_ble_eq_true rfl⟩) ⟨m_blind, fun U hU hW => ⟨rfl, m_pay hK hP hE (fun _ _ h => h) U hU hW⟩⟩ rfl rfl hl.1 rfl (lv_room (Nat.le_of_ble_eq_true rfl)) dX6_put_67 ⟨(Nat.le_of_ble_eq_true rfl), (by show 0 + 0 + 0 + ((nI n9).toNatClampNeg) ≤ 2 * (Bd / 12) + 1; rw [nI_clamp (by omega)]; omega)⟩) hS (fun q _ h => hFc q h) hFc (fun u r_3 t H1 locs ht hvm hpo hB hz1 hk1 hS => ?_)
      obtain ⟨f_3, hP1⟩ := hB
      rw [ht] at hP1
      have hP : mw (dC, dI) vwCl A (madd ((TW cy L ((some t0)) a κ τ)) r_3 (.inl (cy 1, (nI n9).toNatClampNeg, .inr (.inl (va_cpy (τ.2.2.2 v) (fun _ => 0) 0 0 (τ.2.2.1 v)))))) H1 := hP.join (fun _ _ h => h) hk1 hFc hP1 (fun _ _ h => Or.inl h)
      generalize H1 = H at hP hS ⊢
      clear hP1 hk1 hFc
      rw [nI_clamp (by omega)] at hP
      obtain ⟨ws9, k9, hPw, hDw, hk9, hin9, hbk⟩ := hP.cut (e := .inl (cy 9, 200, .inr (.inr (.inr (.inr (fun v => some (τ.2.1 v))))))) (Or.inl tr_w)
      obtain ⟨k8, hk8⟩ := hin9 r_3 (.inl (cy 1, n9, .inr (.inl (va_cpy (τ.2.2.2 v) (fun _ => 0) 0 0 (τ.2.2.1 v))))) (Or.inr ⟨rfl, rfl⟩)
      refine m_astA hx hb hK hPw hDw hS k9 9 k8 1 hk9 rfl hk8 rfl (hE.2.2.2 _ (List.mem_of_getElem? (i := 1) rfl)) (by decide +kernel) (fun h => h) (m_in hvn hv (by decide)) dX6_put_70 (fun H locs hPw hDw hS => ?_)
      rw [hcl] at hPw hDw
      obtain ⟨τ1, hτ1⟩ : ∃ y : Tau, y = (τ.1, (fun u => if u = v then r_3 else τ.2.1 u), (fun u => if u = v then n9 else τ.2.2.1 u), fun u => if u = v then va_cpy (τ.2.2.2 v) (fun _ => 0) 0 0 (τ.2.2.1 v) else τ.2.2.2 u) := ⟨_, rfl⟩
      obtain ⟨hP, hT1⟩ := tr_setR hT hv f_3 hτ1 (hbk _ _ hPw hDw)
      have hg1 := hg.grow hτ1 (by omega) hn2 (fun j hj => (pk_cpy_in (Nat.zero_le j) (by rw [Nat.zero_add]; exact hj)).trans (by rw [Nat.zero_add, Nat.sub_zero])) (fun j hj _ => pk_cpy_out (Or.inr (by rw [Nat.zero_add]; exact hj)))
      refine W.widen (k := 1) (n := 2 * (Bd / 12) + 1) (by omega) (by show 0 + 0 + 0 + ((nI n9).toNatClampNeg) ≤ _; rw [nI_clamp (by omega)]; omega) ?_
      exact htail τ1 hT1 hg1 (by rw [hτ1]; show gn v / 12 < if v = v then n9 else _; rw [if_pos rfl]; omega) ls (lv_sub hl [1, 2, 3, 4, 5] rfl) _ _ hP hS
  clear hP hS hl ls hl9 g1 g2 g3 g4
  intro τ1 hT1 hg1 hj ls hl H locs hP hS
  obtain ⟨g1, g2, g3, g4⟩ := hg1 v hv
  obtain ⟨W9, hW1, hW2, hW3⟩ := g4 _ hj
  rw [show min 12 (gn v - 12 * (gn v / 12)) = gn v % 12 by omega] at hW2
  refine lv_aload_n hx hb dX6_put_71 rfl (lv_at hl 1 rfl) ?_
  refine va_get (D := (dC, dI)) (ws := [(t0, .inr (6, [.ref τ1.1]))]) (ci := 6) (v := .ref τ1.1) (C := RX6) (T := TX6) (N := 1) hx hb hts tl_X6 hown hK (hP.one tr_t) 0 rfl rfl 0 (by decide) (hts _ tw_727) (fun _ h9 => h9) rfl dX6_put_72 ?_
  refine lv_iload_n hx hb dX6_put_75 rfl (lv_at hl 2 rfl) ?_
  refine m_aldA hx hb hK (ws := [(τ1.1, .inl (cy 9, 200, .inr (.inr (.inr (.inr (fun v => some (τ1.2.1 v)))))))]) (hP.one tr_w) 0 9 rfl rfl (m_in hvn hv (by decide)) dX6_put_76 ?_
  refine W.eq (g2 := F0 m 77 ls [.ref (τ1.2.1 v)]) (by rw [hcl]; rfl) ?_
  refine lv_iload hx hb dX6_put_77 (lv_at hl 0 rfl) ?_
  refine lv_dup2_11 hx hb dX6_put_79 rfl rfl ?_
  have hcj : (nI (gn v / 12)).toNatClampNeg = gn v / 12 := nI_clamp (by omega)
  refine va_lald hx hb hK (ws := [(τ1.2.1 v, .inl (cy 1, (τ1.2.2.1 v), .inr (.inl (τ1.2.2.2 v))))]) (hP.one (tr_r hv)) 0 1 rfl rfl (vp_in_nI hj (by omega)) dX6_put_80 ?_
  refine W.eq (g2 := F0 m 81 ls [.long (lN W9), .int (nI (gn v / 12)), .ref (τ1.2.1 v)]) (by rw [hcj, hW1]) ?_
  refine lv_iload_n hx hb dX6_put_81 rfl (lv_at hl 4 rfl) ?_
  refine lv_i2l (v := lN x) hx hb dX6_put_82 (by rw [hnx]; exact nI_l (by omega)) ?_
  refine lv_iload_n hx hb dX6_put_83 rfl (lv_at hl 3 rfl) ?_
  refine lv_bipush (v := 12) hx hb dX6_put_84 (by decide) ?_
  refine lv_irem hx hb dX6_put_86 (by decide) ?_
  refine W.eq (g2 := F0 m 87 ls [.int (nI (gn v % 12)), .long (lN x), .long (lN W9), .int (nI (gn v / 12)), .ref (τ1.2.1 v)]) (by rw [hpl, show nI (gn v) - nI (gn v) / 12 * 12 = nI (gn v % 12) from pk_rem (a := gn v) (d := 12) (by omega) (by decide) (by decide)]) ?_
  refine lv_iconst (v := 5) hx hb dX6_put_87 (by decide) ?_
  refine lv_imul hx hb dX6_put_88 ?_
  refine W.eq (g2 := F0 m 89 ls [.int (nI (gn v % 12 * 5)), .long (lN x), .long (lN W9), .int (nI (gn v / 12)), .ref (τ1.2.1 v)]) (by rw [show nI (gn v % 12) * 5 = nI (gn v % 12 * 5) from pk_mul _ 5]) ?_
  refine lv_lshl (v := lN (x * 2 ^ (gn v % 12 * 5))) hx hb dX6_put_89 (wb_shl x (by omega)) ?_
  refine lv_lor hx hb dX6_put_90 ?_
  have hb60 : W9 + x * 32 ^ (gn v % 12) < 2 ^ 64 := by
    have h1 := W_put hW2 hx32
    have h2 := p32_60 (show gn v % 12 + 1 ≤ 12 by omega)
    omega
  refine W.eq (g2 := F0 m 91 ls [.long (lN (W9 + x * 32 ^ (gn v % 12))), .int (nI (gn v / 12)), .ref (τ1.2.1 v)]) (by rw [p32_5, g_or' (p32_5 _) hW2 hb60]) ?_
  obtain ⟨ws9, k9, hPw, hDw, hk9, -, hbk⟩ := hP.cut (e := .inl (cy 1, (τ1.2.2.1 v), .inr (.inl (τ1.2.2.2 v)))) (tr_r hv)
  refine va_last hx hb hK hPw hDw hS k9 1 hk9 rfl (vp_in_nI hj (by omega)) dX6_put_91 (fun H locs hPw hDw hS => ?_)
  rw [hcj] at hPw hDw
  obtain ⟨τ2, hτ2⟩ : ∃ y : Tau, y = (τ1.1, τ1.2.1, τ1.2.2.1, fun u => if u = v then vp_updL (τ1.2.2.2 v) (gn v / 12) (lN (W9 + x * 32 ^ (gn v % 12))) else τ1.2.2.2 u) := ⟨_, rfl⟩
  have hP : mw (dC, dI) vwCl A (TW cy L (some t0) a κ τ2) H := (hbk _ _ hPw hDw).sub (tr_setW hT1 hv hτ2)
  have hT2 : TL L (some t0) τ2 := by rw [hτ2]; exact hT1
  have hg2 := hg1.put hx32 hj hW1 hW2 hW3 hτ2
  exact W.vret hx hb hr (fun t9 ht hW => ⟨⟨(), rfl, trivial, τ2, hT2, hg2, by show mw _ _ _ _ t9.heap; rw [ht]; exact hP⟩, hS.F ht⟩) hS.2.2 dX6_put_92
end
section
/-! a vehicle comes onto a link: what stays, what keeps within bounds -/
theorem tw_ghost {cy : Nat → ClassId} {L : Lay} {tr : Option Nat} {a : St} {κ : Kap} {τ : Tau} {v : Nat} {x : Nat → Int32} : ∀ q e, TW cy L tr (S2 a 30 v x) κ τ q e → TW cy L tr a κ τ q e := by
  rintro q e (⟨f, i, hi, rfl, rfl⟩ | h)
  · have hf : f ≠ 30 := fun h9 => by
      subst h9
      exact absurd hi (Nat.not_lt_zero _)
    exact Or.inl ⟨f, i, hi, rfl, by rw [S2_nf hf]⟩
  · exact Or.inr h
theorem T_on1_off {a : St} {v : Nat} {nx : Int32} {g j : Nat} (h : g ≠ 15) : T_on1 a v nx g j = a g j := S2_nf h
theorem L_take_off {a : St} {i : Nat} {v e : Int32} {g j : Nat} (h2 : g ≠ 2) (h3 : g ≠ 3) (h4 : g ≠ 4) (h5 : g ≠ 5) (h6 : g ≠ 6) : L_take a i v e g j = a g j := by
  unfold L_take L_came
  rw [S2_nf h2, R_app_off h5 h6, R_app_off h3 h4]
theorem L_go_off {a : St} {i : Nat} {g j : Nat} (h2 : g ≠ 2) (h3 : g ≠ 3) (h4 : g ≠ 4) (h5 : g ≠ 5) (h6 : g ≠ 6) : L_go a i g j = a g j := by
  unfold L_go L_left
  rw [S2_nf h2, R_drop_off h5 h6, R_drop_off h3 h4]
theorem L_turn_off {a : St} {i : Nat} {n : Int32} {g j : Nat} (h : g ≠ 7) : L_turn a i n g j = a g j := by
  unfold L_turn
  split
  · rfl
  · split
    · rfl
    · exact S2_nf h
theorem T_onto_off {a : St} {v : Nat} {vn nx : Int32} {g j : Nat} (h2 : g ≠ 2) (h3 : g ≠ 3) (h4 : g ≠ 4) (h5 : g ≠ 5) (h6 : g ≠ 6) (h15 : g ≠ 15) (h30 : g ≠ 30) : T_onto a v vn nx g j = a g j := by
  unfold T_onto T_on3 T_on2
  rw [S2_nf h30, L_take_off h2 h3 h4 h5 h6, T_on1_off h15]
theorem T_onto_15 {a : St} {v w : Nat} {vn nx : Int32} : T_onto a v vn nx 15 w = T_on1 a v nx 15 w := by
  unfold T_onto T_on3 T_on2
  rw [S2_nf (by decide), L_take_off (by decide) (by decide) (by decide) (by decide) (by decide)]
theorem T_on1_15 {a : St} {v : Nat} {nx : Int32} : T_on1 a v nx 15 v = X_onto (a 15 v) nx (a 2 nx.toNatClampNeg 2) (a 0 0 0) := S2_eq
theorem T_on1_n {a : St} {v w : Nat} {nx : Int32} (h : w ≠ v) : T_on1 a v nx 15 w = a 15 w := S2_ni h
theorem in_up {x : Int32} {M : Nat} (h : in_ x M) (hM : M < 900000) : in_ (x + 1) (M + 1) := by
  obtain ⟨h1, h2⟩ := h
  have h3 : in_ x (M + 1) := ⟨h1, by omega⟩
  have h4 := m_succ h3 (by omega) (by omega)
  exact ⟨by omega, by omega⟩
theorem T_on1_Wf {M : Nat} {a : St} {v : Nat} {nx : Int32} (hv : v < 200) (hM : M < 900000) (h : Wf M a) : Wf (M + 1) (T_on1 a v nx) := by
  obtain ⟨h1, h2, h3⟩ := h.2.2.2.2 v hv
  exact (h.mono (by omega)).s15 h1 h2 (show in_ (a 15 v 7 + 1) (M + 1) from in_up h3 hM)
theorem T_on2_Wf {M : Nat} {b : St} {v : Nat} {vn nx : Int32} (hn : nx.toNatClampNeg < 24) (h : Wf M b) : Wf M (T_on2 b v vn nx) := L_take_Wf hn h
theorem T_onto_Wf {M : Nat} {a : St} {v : Nat} {vn nx : Int32} (hv : v < 200) (hM : M < 900000) (hn : nx.toNatClampNeg < 24) (h : Wf M a) : Wf (M + 1) (T_onto a v vn nx) := (T_on2_Wf hn (T_on1_Wf hv hM h)).s30
theorem T_onto_sameR {a : St} {v : Nat} {vn nx : Int32} : sameR a (T_onto a v vn nx) := ((sameR.off (by decide) (by decide)).trans L_take_sameR).trans (sameR.off (by decide) (by decide))
theorem T_comes_Wf {M : Nat} {a : St} {v : Nat} {vn nx : Int32} (hv : v < 200) (hM : M < 900000) (h : Wf M a) : Wf (M + 1) (T_comes a v vn nx).1 := by
  unfold T_comes
  split
  · exact h.mono (by omega)
  · rename_i hn
    split
    · exact h.mono (by omega)
    · exact T_onto_Wf hv hM (m_lt (n := 24) (fun h => hn (Or.inl h)) (fun h => hn (Or.inr h)) h.1.1.2) h
theorem T_comes_sameR {a : St} {v : Nat} {vn nx : Int32} : sameR a (T_comes a v vn nx).1 := by
  unfold T_comes
  split
  · exact sameR.refl a
  · split
    · exact sameR.refl a
    · exact T_onto_sameR
/-- the trails behind it, as Trails.put leaves them -/
theorem T_onto_TR {tr : Option Nat} {a : St} {v x : Nat} {vn nx : Int32} {τ τ' : Tau} {M : Nat} (h : Wf M a) (hM : M < 900000) (hv : v < 200) (hvv : v < (a 0 0 4).toNatClampNeg) (hx : nx.toNatClampNeg = x) (ht : TRab tr a τ) (hg : TRg (fun u => if u = v then (a 15 v 7).toNatClampNeg + 1 else (a 15 u 7).toNatClampNeg) (fun u j => if u = v ∧ j = (a 15 v 7).toNatClampNeg then x else (a 30 u j).toNatClampNeg) τ') : TRab tr (T_onto a v vn nx) τ' := fun hn => by
  have h7 := (h.2.2.2.2 v hv).2.2
  have e7 : (a 15 v 7 + 1).toNatClampNeg = (a 15 v 7).toNatClampNeg + 1 := by
    have h1 := in_up h7 hM
    have h3 : in_ (a 15 v 7) (M + 1) := ⟨h7.1, by have := h7.2; omega⟩
    have h2 := m_succ h3 (by have := h7.2; omega) (by omega)
    have h4 := m_tn h1.1
    have h5 := m_tn h7.1
    omega
  have e15 : ∀ u, (T_onto a v vn nx 15 u 7).toNatClampNeg = if u = v then (a 15 v 7).toNatClampNeg + 1 else (a 15 u 7).toNatClampNeg := fun u => by
    rw [T_onto_15]
    by_cases hu : u = v
    · subst hu
      rw [T_on1_15, if_pos rfl]
      exact e7
    · rw [T_on1_n hu, if_neg hu]
  have e30 : ∀ u j, (T_onto a v vn nx 30 u j).toNatClampNeg = if u = v ∧ j = (a 15 v 7).toNatClampNeg then x else (a 30 u j).toNatClampNeg := fun u j => by
    have o : ∀ w, T_on2 (T_on1 a v nx) v vn nx 30 w = a 30 w := fun w => by
      unfold T_on2
      rw [L_take_off (by decide) (by decide) (by decide) (by decide) (by decide), T_on1_off (by decide)]
    have o7 : (T_on2 (T_on1 a v nx) v vn nx 15 v 7).toNatClampNeg - 1 = (a 15 v 7).toNatClampNeg := by
      unfold T_on2
      rw [L_take_off (by decide) (by decide) (by decide) (by decide) (by decide), T_on1_15]
      show (a 15 v 7 + 1).toNatClampNeg - 1 = _
      rw [e7]
      omega
    unfold T_onto T_on3
    by_cases hu : u = v
    · subst hu
      rw [S2_eq, o7, o]
      by_cases hj : j = (a 15 u 7).toNatClampNeg
      · rw [hj, upd_eq, if_pos ⟨rfl, rfl⟩, hx]
      · rw [upd_ne hj, if_neg (fun h => hj h.2)]
    · rw [S2_ni hu, o, if_neg (fun h => hu h.1)]
  refine ⟨fun w hw hl => ?_, ?_⟩
  · rw [T_onto_off (by decide) (by decide) (by decide) (by decide) (by decide) (by decide) (by decide)] at hl
    rw [T_onto_15, T_on1_n (by omega)]
    exact (ht hn).1 w hw hl
  · have e1 : (fun u => (T_onto a v vn nx 15 u 7).toNatClampNeg) = fun u => if u = v then (a 15 v 7).toNatClampNeg + 1 else (a 15 u 7).toNatClampNeg := funext e15
    have e2 : (fun u j => (T_onto a v vn nx 30 u j).toNatClampNeg) = fun u j => if u = v ∧ j = (a 15 v 7).toNatClampNeg then x else (a 30 u j).toNatClampNeg := funext fun u => funext fun j => e30 u j
    rw [e1, e2]
    exact hg
theorem V_arr_Wf {M : Nat} {a : St} {v : Nat} {tk : Int32} (hv : v < 200) (h : Wf M a) : Wf M (V_arr a v tk) := by
  obtain ⟨h1, h2, h3⟩ := h.2.2.2.2 v hv
  exact h.s15 h1 h2 h3
theorem T_arr1_Wf {M : Nat} {a : St} (h : Wf M a) : Wf M (T_arr1 a) := h.s0 h.1.2.1 h.1.2.2.1 h.1.2.2.2
theorem F_trip_Wf {M : Nat} {a : St} {f : Nat} {x y : Int32} (hf : f < 10) (h : Wf M a) : Wf M (F_trip a f x y) := h.s14 (h.2.2.2.1 f hf).1 (h.2.2.2.1 f hf).2
theorem T_arrive_Wf {M : Nat} {a : St} {v : Nat} (hv : v < 200) (h : Wf M a) : Wf M (T_arrive a v) := by
  have h1 := T_arr1_Wf (V_arr_Wf (tk := a 0 0 0) hv h)
  unfold T_arrive T_arr2
  split
  · exact h1
  · rename_i c1
    split
    · exact h1
    · rename_i c2
      exact F_trip_Wf (m_lt (n := 10) c1 c2 h1.1.2.2.1.2) h1
theorem T_arr2_sameR {b : St} {v : Nat} : sameR b (T_arr2 b v) := by
  unfold T_arr2
  split
  · exact sameR.refl b
  · split
    · exact sameR.refl b
    · exact sameR.off (by decide) (by decide)
theorem T_arrive_sameR {a : St} {v : Nat} : sameR a (T_arrive a v) := ((sameR.off (by decide) (by decide)).trans (sameR.off (by decide) (by decide))).trans T_arr2_sameR
theorem T_arr2_sameT {b : St} {v : Nat} : sameT b (T_arr2 b v) := by
  unfold T_arr2
  split
  · exact sameT.refl b
  · split
    · exact sameT.refl b
    · exact sameT.off (by decide) (by decide) (by decide)
theorem V_arr_sameT {a : St} {v : Nat} {tk : Int32} : sameT a (V_arr a v tk) := sameT.v15 (x := X_arr (a 15 v) tk) rfl
theorem T_arr1_sameT {b : St} : sameT b (T_arr1 b) := sameT.z0 (x := upd (b 0 0) 5 (b 0 0 5 - 1)) rfl
theorem T_arrive_sameT {a : St} {v : Nat} : sameT a (T_arrive a v) := ((V_arr_sameT (tk := a 0 0 0)).trans T_arr1_sameT).trans T_arr2_sameT
theorem R_drop_sameT {f g : Nat} {a : St} {i : Nat} (h1 : 15 ≠ f) (h2 : 15 ≠ g) (h3 : 30 ≠ f) (h4 : 30 ≠ g) (h5 : 0 ≠ f) (h6 : 0 ≠ g) : sameT a (R_drop f g a i) := sameT.of (by funext j; rw [R_drop_off h1 h2]) (by funext j; rw [R_drop_off h3 h4]) (by rw [R_drop_off h5 h6])
theorem L_go_sameT {a : St} {i : Nat} : sameT a (L_go a i) := sameT.of (by funext j; rw [L_go_off (by decide) (by decide) (by decide) (by decide) (by decide)]) (by funext j; rw [L_go_off (by decide) (by decide) (by decide) (by decide) (by decide)]) (by rw [L_go_off (by decide) (by decide) (by decide) (by decide) (by decide)])
theorem L_turn_sameT {a : St} {i : Nat} {n : Int32} : sameT a (L_turn a i n) := sameT.of (by funext j; rw [L_turn_off (by decide)]) (by funext j; rw [L_turn_off (by decide)]) (by rw [L_turn_off (by decide)])
theorem T_no_in {M : Nat} {a : St} {n : Int32} (h : Wf M a) (hn : ¬ T_no a n) : n.toNatClampNeg < (a 0 0 4).toNatClampNeg ∧ n.toNatClampNeg < 200 ∧ n = nI n.toNatClampNeg := by
  have h1 : ¬ n < 0 := fun h => hn (Or.inl h)
  have h2 : ¬ a 0 0 4 ≤ n := fun h => hn (Or.inr h)
  have h3 := m_lt (n := 200) h1 h2 h.1.2.2.2.2
  have h4 := m_tn (m_i0.mp h1)
  have h5 := m_tn h.1.2.2.2.1
  have h6 := m_ge h2
  exact ⟨by omega, h3, m_nI h1⟩
theorem T_firstV_Wf {M : Nat} {a : St} {l v : Nat} {n : Int32} (hl : l < 24) (hv : v < 200) (hM : M < 900000) (h : Wf M a) : Wf (M + 1) (T_firstV a l v n).1 := by
  unfold T_firstV
  split
  · exact h.mono (by omega)
  · split
    · exact L_go_Wf hl ((T_arrive_Wf hv h).mono (by omega))
    · split
      · exact T_comes_Wf hv hM h
      · exact L_go_Wf hl (L_turn_Wf (T_comes_Wf hv hM h))
theorem T_first_Wf {M : Nat} {a : St} {l : Nat} (hl : l < 24) (hM : M < 900000) (h : Wf M a) : Wf (M + 1) (T_first a l).1 := by
  unfold T_first
  split
  · exact h.mono (by omega)
  · rename_i hn
    exact T_firstV_Wf hl (T_no_in h hn).2.1 hM h
theorem T_nodeV_Wf {M : Nat} {a : St} {n v : Nat} {vn : Int32} (hn : n < 12) (hv : v < 200) (hM : M < 900000) (h : Wf M a) : Wf (M + 1) (T_nodeV a n v vn) := by
  unfold T_nodeV
  split
  · exact T_comes_Wf hv hM h
  · exact R_drop_Wf12 hn (T_comes_Wf hv hM h)
theorem T_node_Wf {M : Nat} {a : St} {n : Nat} (hn : n < 12) (hM : M < 900000) (h : Wf M a) : Wf (M + 1) (T_node n a) := by
  unfold T_node
  split
  · exact h.mono (by omega)
  · rename_i hf
    exact T_nodeV_Wf hn (T_no_in h hf).2.1 hM h
theorem cT_n : cT none = 0 := rfl
theorem cT_s {t : Nat} : cT (some t) = 1 := rfl
theorem pB_n {B : Nat} : pB none B = 0 := Nat.zero_mul _
theorem pB_s {t B : Nat} : pB (some t) B = 2 * (B / 12) + 1 := Nat.one_mul _
end
section
theorem tw_307 : Cond.methodLink RX5 215 yX2_find ∈ tp_all := tp_mem 307 (by decide +kernel) rfl
theorem tw_311 : Cond.code yX1_isOpen cX1_isOpen 1 (some .boolean) ∈ tp_all := tp_mem 311 (by decide +kernel) rfl
theorem tw_308 : Cond.methodLink RX5 218 yX1_isOpen ∈ tp_all := tp_mem 308 (by decide +kernel) rfl
theorem tw_309 : Cond.instanceMethod yX1_isOpen ∈ tp_all := tp_mem 309 (by decide +kernel) rfl
theorem tw_310 : Cond.selects RX1 yX1_isOpen yX1_isOpen ∈ tp_all := tp_mem 310 (by decide +kernel) rfl
theorem tw_315 : Cond.code yX7_goOnto cX7_goOnto 4 none ∈ tp_all := tp_mem 315 (by decide +kernel) rfl
theorem tw_312 : Cond.methodLink RX5 225 yX7_goOnto ∈ tp_all := tp_mem 312 (by decide +kernel) rfl
theorem tw_313 : Cond.instanceMethod yX7_goOnto ∈ tp_all := tp_mem 313 (by decide +kernel) rfl
theorem tw_314 : Cond.selects RX7 yX7_goOnto yX7_goOnto ∈ tp_all := tp_mem 314 (by decide +kernel) rfl
theorem tw_319 : Cond.code yX1_takeIn cX1_takeIn 3 none ∈ tp_all := tp_mem 319 (by decide +kernel) rfl
theorem tw_316 : Cond.methodLink RX5 232 yX1_takeIn ∈ tp_all := tp_mem 316 (by decide +kernel) rfl
theorem tw_317 : Cond.instanceMethod yX1_takeIn ∈ tp_all := tp_mem 317 (by decide +kernel) rfl
theorem tw_318 : Cond.selects RX1 yX1_takeIn yX1_takeIn ∈ tp_all := tp_mem 318 (by decide +kernel) rfl
theorem tw_883 : Cond.fieldLink RX5 49 "Turnpike$Traffic" "trails" "LTurnpike$Trails;" ∈ tp_all := tp_mem 883 (by decide +kernel) rfl
theorem tw_324 : Cond.code yX6_put cX6_put 6 none ∈ tp_all := tp_mem 324 (by decide +kernel) rfl
theorem tw_321 : Cond.methodLink RX5 239 yX6_put ∈ tp_all := tp_mem 321 (by decide +kernel) rfl
theorem tw_322 : Cond.instanceMethod yX6_put ∈ tp_all := tp_mem 322 (by decide +kernel) rfl
theorem tw_323 : Cond.selects RX6 yX6_put yX6_put ∈ tp_all := tp_mem 323 (by decide +kernel) rfl
theorem tw_26 : Cond.initialized RX6 ∈ tp_all := tp_mem 26 (by decide +kernel) rfl
theorem te_f6 {U : State} (h : tp_E U) : va_Nw (.fieldLinkNest "Turnpike$Traffic" 222 "Turnpike$Link" "time" "I" "Turnpike") U := h.1 _ (List.mem_of_getElem? (i := 6) rfl)
theorem te_f52 {U : State} (h : tp_E U) : va_Nw (.fieldLinkNest "Turnpike$Traffic" 229 "Turnpike$Vehicle" "end" "I" "Turnpike") U := h.1 _ (List.mem_of_getElem? (i := 52) rfl)
theorem te_f54 {U : State} (h : tp_E U) : va_Nw (.fieldLinkNest "Turnpike$Traffic" 236 "Turnpike$Vehicle" "gone" "I" "Turnpike") U := h.1 _ (List.mem_of_getElem? (i := 54) rfl)
theorem dX5_comesOnto_0 : decode cX5_comesOnto 0 = .ok (.aload_n 0, 1) := by decide +kernel
theorem dX5_comesOnto_1 : decode cX5_comesOnto 1 = .ok (.getfield 12, 3) := by decide +kernel
theorem dX5_comesOnto_4 : decode cX5_comesOnto 4 = .ok (.iload_n 3, 1) := by decide +kernel
theorem dX5_comesOnto_5 : decode cX5_comesOnto 5 = .ok (.invokevirtual 215, 3) := by decide +kernel
theorem dX5_comesOnto_8 : decode cX5_comesOnto 8 = .ok (.astore 4, 2) := by decide +kernel
theorem dX5_comesOnto_10 : decode cX5_comesOnto 10 = .ok (.aload 4, 2) := by decide +kernel
theorem dX5_comesOnto_12 : decode cX5_comesOnto 12 = .ok (.ifnull 11, 3) := by decide +kernel
theorem dX5_comesOnto_23 : decode cX5_comesOnto 23 = .ok (.iconst 0, 1) := by decide +kernel
theorem dX5_comesOnto_24 : decode cX5_comesOnto 24 = .ok (.ireturn, 1) := by decide +kernel
theorem dX5_comesOnto_15 : decode cX5_comesOnto 15 = .ok (.aload 4, 2) := by decide +kernel
theorem dX5_comesOnto_17 : decode cX5_comesOnto 17 = .ok (.invokevirtual 218, 3) := by decide +kernel
theorem dX5_comesOnto_20 : decode cX5_comesOnto 20 = .ok (.ifCond .ne 5, 3) := by decide +kernel
theorem dX5_comesOnto_25 : decode cX5_comesOnto 25 = .ok (.aload_n 2, 1) := by decide +kernel
theorem dX5_comesOnto_26 : decode cX5_comesOnto 26 = .ok (.iload_n 3, 1) := by decide +kernel
theorem dX5_comesOnto_27 : decode cX5_comesOnto 27 = .ok (.aload 4, 2) := by decide +kernel
theorem dX5_comesOnto_29 : decode cX5_comesOnto 29 = .ok (.getfield 222, 3) := by decide +kernel
theorem dX5_comesOnto_32 : decode cX5_comesOnto 32 = .ok (.aload_n 0, 1) := by decide +kernel
theorem dX5_comesOnto_33 : decode cX5_comesOnto 33 = .ok (.getfield 65, 3) := by decide +kernel
theorem dX5_comesOnto_36 : decode cX5_comesOnto 36 = .ok (.invokevirtual 225, 3) := by decide +kernel
theorem dX5_comesOnto_39 : decode cX5_comesOnto 39 = .ok (.aload 4, 2) := by decide +kernel
theorem dX5_comesOnto_41 : decode cX5_comesOnto 41 = .ok (.iload_n 1, 1) := by decide +kernel
theorem dX5_comesOnto_42 : decode cX5_comesOnto 42 = .ok (.aload_n 2, 1) := by decide +kernel
theorem dX5_comesOnto_43 : decode cX5_comesOnto 43 = .ok (.getfield 229, 3) := by decide +kernel
theorem dX5_comesOnto_46 : decode cX5_comesOnto 46 = .ok (.invokevirtual 232, 3) := by decide +kernel
theorem dX5_comesOnto_49 : decode cX5_comesOnto 49 = .ok (.aload_n 0, 1) := by decide +kernel
theorem dX5_comesOnto_50 : decode cX5_comesOnto 50 = .ok (.getfield 49, 3) := by decide +kernel
theorem dX5_comesOnto_53 : decode cX5_comesOnto 53 = .ok (.ifnull 18, 3) := by decide +kernel
theorem dX5_comesOnto_71 : decode cX5_comesOnto 71 = .ok (.iconst 1, 1) := by decide +kernel
theorem dX5_comesOnto_72 : decode cX5_comesOnto 72 = .ok (.ireturn, 1) := by decide +kernel
theorem dX5_comesOnto_56 : decode cX5_comesOnto 56 = .ok (.aload_n 0, 1) := by decide +kernel
theorem dX5_comesOnto_57 : decode cX5_comesOnto 57 = .ok (.getfield 49, 3) := by decide +kernel
theorem dX5_comesOnto_60 : decode cX5_comesOnto 60 = .ok (.iload_n 1, 1) := by decide +kernel
theorem dX5_comesOnto_61 : decode cX5_comesOnto 61 = .ok (.aload_n 2, 1) := by decide +kernel
theorem dX5_comesOnto_62 : decode cX5_comesOnto 62 = .ok (.getfield 236, 3) := by decide +kernel
theorem dX5_comesOnto_65 : decode cX5_comesOnto 65 = .ok (.iconst 1, 1) := by decide +kernel
theorem dX5_comesOnto_66 : decode cX5_comesOnto 66 = .ok (.isub, 1) := by decide +kernel
theorem dX5_comesOnto_67 : decode cX5_comesOnto 67 = .ok (.iload_n 3, 1) := by decide +kernel
theorem dX5_comesOnto_68 : decode cX5_comesOnto 68 = .ok (.invokevirtual 239, 3) := by decide +kernel
set_option maxRecDepth 100000 in
set_option maxHeartbeats 4000000 in
/-- Traffic.comesOnto -/
theorem c_Traffic_comesOnto (l : Launch) (dC : Nat → ClassId) (dI : Nat → Nat → Nat) (cy : Nat → ClassId) (L : Lay) (tr : Option Nat) (a : St) (κ : Kap) (τ : Tau) (M : Nat) (Bd : Nat) (v : Nat) (vn : Int32) (nx : Int32) (sz : Nat) (hT : TL L tr τ) (hw : Wf M a) (hh : Hid L tr a κ τ) (hvn : vn = nI v) (hvv : v < (a 0 0 4).toNatClampNeg) (hMB : M ≤ Bd) (hB2 : Bd < 30000) : Met l yX5_comesOnto (tp_w yX5_comesOnto cX5_comesOnto 5 (some .boolean)) ({ frames := 3, cells := cT tr, slots := pB tr Bd, locals := 65 }) (va_Pc [.ref (L 0 0), .int vn, .ref (L 15 v), .int nx] (mPre dC dI cy (TW cy L tr a κ τ) sz)) (va_Qi (fun (r u : Int32) => r = u) (fun (u : Int32) (t : State) => ∃ (τ2 : Tau), (u = (T_comes a v vn nx).2) ∧ (Hid L tr (T_comes a v vn nx).1 κ τ2) ∧ mw (dC, dI) vwCl (mA (TW cy L tr a κ τ) sz) (TW cy L tr ((T_comes a v vn nx).1) κ τ2) t.heap) (mA (TW cy L tr a κ τ) sz)) (cT tr) (pB tr Bd) (mA (TW cy L tr a κ τ) sz) := by
  refine Met.ofW (cc := cX5_comesOnto) (maxL := 5) (ret := (some .boolean)) (by decide) rfl ?_
  intro p e s m args below meth c s₁ B hml hv
  obtain ⟨rfl, hsz, hP, hK, hE⟩ := hv
  have hx := B.exec
  have hb := B.bytes
  have hr := B.returns
  have hts0 := atoms_spec (ws := tp_w yX5_comesOnto cX5_comesOnto 5 (some .boolean)) B.pre
  have hts : ∀ w ∈ tp_all, w.before _ s = true := fun w h => hts0 w (List.mem_cons_of_mem _ h)
  have hown : s.vm.findClass RX5 = some m.cls := findClass_of_methodNamed B.named
  have hlocks := B.notSynchronized
  subst hsz
  have hP := hP.self s.heap.size
  generalize hAe : mA (TW cy L tr a κ τ) s.heap.size = A at hP ⊢
  have hA : ∀ q : Nat, s.heap.size ≤ q → A q := fun q h => by rw [← hAe]; exact Or.inr h
  have hS : va_S A s.heap s.heap [] := va_S.rf
  have hl9 := lv_entry ([.ref (L 0 0), .int vn, .ref (L 15 v), .int nx]) (n := 5) (Nat.le_of_ble_eq_true rfl)
  rw [lg_entry_eq]
  generalize (lg_sl ([.ref (L 0 0), .int vn, .ref (L 15 v), .int nx]) ++ List.replicate (5 - (lg_sl ([.ref (L 0 0), .int vn, .ref (L 15 v), .int nx])).length) Slot.unset).toArray = ls at hl9 ⊢
  have hl : lv_has ls 5 [(0, .ref (L 0 0)), (1, .int vn), (2, .ref (L 15 v)), (3, .int nx)] := hl9
  refine lv_aload_n hx hb dX5_comesOnto_0 rfl (lv_at hl 0 rfl) ?_
  have hv : v < 200 := Nat.lt_of_lt_of_le hvv (in_le hw.1.2.2.2)
  refine va_get (D := (dC, dI)) (ws := [(L 0 0, .inr (5, [.ref (L 1 0), .ref (L 20 0), .ref (L 21 0), .ref (L 22 0), .ref (L 23 0), va_rf tr, .int ((a 0 0) 0), .int ((a 0 0) 1), .int ((a 0 0) 2), .int ((a 0 0) 3), .int ((a 0 0) 4), .int ((a 0 0) 5)]))]) (ci := 5) (v := .ref (L 1 0)) (C := RX5) (T := TX5) (N := 12) hx hb hts tl_X5 hown hK (hP.one (tw_mem (f := 0) (i := 0) (by decide) rfl)) 0 rfl rfl 0 (by decide) (hts _ tw_873) (fun _ h9 => h9) rfl dX5_comesOnto_1 ?_
  refine lv_iload_n hx hb dX5_comesOnto_4 rfl (lv_at hl 3 rfl) ?_
  by_cases c_1 : G_no a nx
  · have hFc := m_free (C := (TW cy L tr a κ τ)) hP hS hA (fun _ _ h => h)
    refine va_callq (va_runV (As := [.int nx]) (rest := []) ⟨hx, hb, hml, hown, hts⟩ (c_Roads_find_none l dC dI cy L tr a κ τ nx s.heap.size hT c_1) (tp_cwV 1 hts tw_307 tw_128 tw_129 tw_22 tw_130 rfl rfl (by decide +kernel) ⟨Nat.le_of_ble_eq_true rfl, Nat.le_of_ble_eq_true rfl⟩) ⟨m_blind, va_recv hK (hP.one (e := .inr (2, [.ref (L 24 0), .int ((a 1 0) 0), .ref (L 25 0), .int κ.1])) (tw_mem (f := 1) (i := 0) (by decide) rfl)) (ci := 2) (q0 := 0) rfl rfl, fun U hU hW => ⟨rfl, m_pay hK hP hE (fun _ _ h => h) U hU hW⟩⟩ rfl rfl hl.1 rfl (lv_room (Nat.le_of_ble_eq_true rfl)) dX5_comesOnto_5 ⟨(by show 0 + 0 ≤ cT tr; omega), (by show 0 + 0 ≤ pB tr Bd; omega)⟩) hS (fun q _ h => hFc q h) hFc (fun r_1 u t H1 locs ht hvm hpo hB hz1 hk1 hS => ?_)
    obtain rfl := hpo
    obtain ⟨f_1, hP1⟩ := hB
    subst f_1
    rw [ht] at hP1
    have hP : mw (dC, dI) vwCl A (TW cy L tr a κ τ) H1 := hP.join (fun _ _ h => h) hk1 hFc hP1 (fun _ _ h => Or.inl h)
    generalize H1 = H at hP hS ⊢
    clear hP1 hk1 hFc
    refine W.eq (g2 := F0 m 8 ls [.null]) rfl ?_
    refine lv_astoreN (lv' := [(4, .null), (0, .ref (L 0 0)), (1, .int vn), (2, .ref (L 15 v)), (3, .int nx)]) hx hb dX5_comesOnto_8 hl (by decide) rfl (fun ls hl => ?_)
    refine lv_aloadN hx hb dX5_comesOnto_10 (lv_at hl 0 rfl) ?_
    refine lv_ifnullN (tgt := 23) hx hb dX5_comesOnto_12 (by decide) ?_
    refine lv_iconst (v := 0) hx hb dX5_comesOnto_23 (by decide) ?_
    refine W.widen (k := cT tr) (n := pB tr Bd) (by show 0 + 0 + 0 ≤ cT tr; omega) (by show 0 + 0 + 0 ≤ pB tr Bd; omega) ?_
    have s_1 : a = (T_comes a v vn nx).1 := by
      simp only [T_comes, if_pos c_1]
    rw [s_1] at hP
    have g_1 : 0 = (T_comes a v vn nx).2 := by
      simp only [T_comes, if_pos c_1]
    have g_2 : Hid L tr (T_comes a v vn nx).1 κ τ := by
      rw [← s_1]
      exact hh
    exact W.zret (v := 0) hx hb hr rfl (fun t ht hW => ⟨⟨0, 0, rfl, rfl, ⟨τ, g_1, g_2, by show mw _ _ _ _ t.heap; rw [ht]; exact hP⟩⟩, hS.F ht⟩) hS.2.2 dX5_comesOnto_24
  · have hFc := m_free (C := (TW cy L tr a κ τ)) hP hS hA (fun _ _ h => h)
    refine va_callr (va_runV (As := [.int nx]) (rest := []) ⟨hx, hb, hml, hown, hts⟩ (c_Roads_find_some l dC dI cy L tr a κ τ M nx s.heap.size hT hw c_1) (tp_cwV 1 hts tw_307 tw_128 tw_129 tw_22 tw_130 rfl rfl (by decide +kernel) ⟨Nat.le_of_ble_eq_true rfl, Nat.le_of_ble_eq_true rfl⟩) ⟨m_blind, va_recv hK (hP.one (e := .inr (2, [.ref (L 24 0), .int ((a 1 0) 0), .ref (L 25 0), .int κ.1])) (tw_mem (f := 1) (i := 0) (by decide) rfl)) (ci := 2) (q0 := 0) rfl rfl, fun U hU hW => ⟨rfl, m_pay hK hP hE (fun _ _ h => h) U hU hW⟩⟩ rfl rfl hl.1 rfl (lv_room (Nat.le_of_ble_eq_true rfl)) dX5_comesOnto_5 ⟨(by show 0 + 0 ≤ cT tr; omega), (by show 0 + 0 ≤ pB tr Bd; omega)⟩) hS (fun q _ h => hFc q h) hFc (fun u r_2 t H1 locs ht hvm hpo hB hz1 hk1 hS => ?_)
    obtain ⟨f_2, hP1⟩ := hB
    subst f_2
    rw [ht] at hP1
    have hP : mw (dC, dI) vwCl A (TW cy L tr a κ τ) H1 := hP.join (fun _ _ h => h) hk1 hFc hP1 (fun _ _ h => Or.inl h)
    generalize H1 = H at hP hS ⊢
    clear hP1 hk1 hFc
    have hln : nx.toNatClampNeg < 24 := m_lt (n := 24) (fun h => c_1 (Or.inl h)) (fun h => c_1 (Or.inr h)) hw.1.1.2
    refine lv_astore (lv' := [(4, .ref (L 2 nx.toNatClampNeg)), (0, .ref (L 0 0)), (1, .int vn), (2, .ref (L 15 v)), (3, .int nx)]) hx hb dX5_comesOnto_8 hl (by decide) rfl (fun ls hl => ?_)
    refine lv_aload hx hb dX5_comesOnto_10 (lv_at hl 0 rfl) ?_
    refine lv_ifnull hx hb dX5_comesOnto_12 ?_
    refine lv_aload hx hb dX5_comesOnto_15 (lv_at hl 0 rfl) ?_
    have hFc := m_free (C := (TW cy L tr a κ τ)) hP hS hA (fun _ _ h => h)
    refine va_calli (va_runV (As := []) (rest := []) ⟨hx, hb, hml, hown, hts⟩ (c_Link_isOpen l dC dI cy L tr a κ τ nx.toNatClampNeg H.size hT hln) (tp_cwV 0 hts tw_308 tw_309 tw_310 tw_23 tw_311 rfl rfl (by decide +kernel) ⟨Nat.le_of_ble_eq_true rfl, Nat.le_of_ble_eq_true rfl⟩) ⟨m_blind, va_recv hK (hP.one (e := .inr (1, [.int ((a 2 nx.toNatClampNeg) 0), .int ((a 2 nx.toNatClampNeg) 1), .int ((a 2 nx.toNatClampNeg) 2), .int ((a 2 nx.toNatClampNeg) 3), .int ((a 2 nx.toNatClampNeg) 4), .int ((a 2 nx.toNatClampNeg) 5), .int ((a 2 nx.toNatClampNeg) 6), .int ((a 2 nx.toNatClampNeg) 7), .int ((a 2 nx.toNatClampNeg) 8), .ref (L 3 nx.toNatClampNeg), .ref (L 5 nx.toNatClampNeg), .int ((a 2 nx.toNatClampNeg) 9), .int ((a 2 nx.toNatClampNeg) 10), .int ((a 2 nx.toNatClampNeg) 11), .int ((a 2 nx.toNatClampNeg) 12), .ref (L 7 nx.toNatClampNeg)])) (tw_mem (f := 2) (i := nx.toNatClampNeg) hln rfl)) (ci := 1) (q0 := 0) rfl rfl, fun U hU hW => ⟨rfl, m_pay hK hP hE (fun _ _ h => h) U hU hW⟩⟩ rfl rfl hl.1 rfl (lv_room (Nat.le_of_ble_eq_true rfl)) dX5_comesOnto_17 ⟨(by show 0 + 0 + 0 ≤ cT tr; omega), (by show 0 + 0 + 0 ≤ pB tr Bd; omega)⟩) hS (fun q _ h => hFc q h) hFc (fun r_3 u t H1 locs ht hvm hpo hB hz1 hk1 hS => ?_)
    obtain rfl := hpo
    obtain ⟨f_3, hP1⟩ := hB
    subst f_3
    rw [ht] at hP1
    have hP : mw (dC, dI) vwCl A (TW cy L tr a κ τ) H1 := hP.join (fun _ _ h => h) hk1 hFc hP1 (fun _ _ h => Or.inl h)
    generalize H1 = H at hP hS ⊢
    clear hP1 hk1 hFc
    refine lv_if_ne (tgt := 25) hx hb dX5_comesOnto_20 (by decide) (fun c_2 => ?_) (fun c_2 => ?_)
    · refine lv_aload_n hx hb dX5_comesOnto_25 rfl (lv_at hl 3 rfl) ?_
      refine lv_iload_n hx hb dX5_comesOnto_26 rfl (lv_at hl 4 rfl) ?_
      refine lv_aload hx hb dX5_comesOnto_27 (lv_at hl 0 rfl) ?_
      refine va_getN (D := (dC, dI)) (ws := [(L 2 nx.toNatClampNeg, .inr (1, [.int ((a 2 nx.toNatClampNeg) 0), .int ((a 2 nx.toNatClampNeg) 1), .int ((a 2 nx.toNatClampNeg) 2), .int ((a 2 nx.toNatClampNeg) 3), .int ((a 2 nx.toNatClampNeg) 4), .int ((a 2 nx.toNatClampNeg) 5), .int ((a 2 nx.toNatClampNeg) 6), .int ((a 2 nx.toNatClampNeg) 7), .int ((a 2 nx.toNatClampNeg) 8), .ref (L 3 nx.toNatClampNeg), .ref (L 5 nx.toNatClampNeg), .int ((a 2 nx.toNatClampNeg) 9), .int ((a 2 nx.toNatClampNeg) 10), .int ((a 2 nx.toNatClampNeg) 11), .int ((a 2 nx.toNatClampNeg) 12), .ref (L 7 nx.toNatClampNeg)]))]) (ci := 1) (v := .int ((a 2 nx.toNatClampNeg) 2)) (C := RX1) (T := TX1) (N := 16) hx hb hts tl_X1 hown hK (hP.one (tw_mem (f := 2) (i := nx.toNatClampNeg) hln rfl)) 0 rfl rfl 2 (by decide) (va_Nw.use rfl (te_f6 hE)) (fun _ h9 => h9) rfl dX5_comesOnto_29 ?_
      refine lv_aload_n hx hb dX5_comesOnto_32 rfl (lv_at hl 1 rfl) ?_
      refine va_get (D := (dC, dI)) (ws := [(L 0 0, .inr (5, [.ref (L 1 0), .ref (L 20 0), .ref (L 21 0), .ref (L 22 0), .ref (L 23 0), va_rf tr, .int ((a 0 0) 0), .int ((a 0 0) 1), .int ((a 0 0) 2), .int ((a 0 0) 3), .int ((a 0 0) 4), .int ((a 0 0) 5)]))]) (ci := 5) (v := .int ((a 0 0) 0)) (C := RX5) (T := TX5) (N := 12) hx hb hts tl_X5 hown hK (hP.one (tw_mem (f := 0) (i := 0) (by decide) rfl)) 0 rfl rfl 6 (by decide) (hts _ tw_885) (fun _ h9 => h9) rfl dX5_comesOnto_33 ?_
      have hFc := m_free (C := (TW cy L tr a κ τ)) hP hS hA (fun _ _ h => h)
      refine va_callv (va_runV (As := [.int nx, .int ((a 2 nx.toNatClampNeg) 2), .int ((a 0 0) 0)]) (rest := []) ⟨hx, hb, hml, hown, hts⟩ (c_Vehicle_goOnto l dC dI cy L tr a κ τ v nx ((a 2 nx.toNatClampNeg) 2) ((a 0 0) 0) H.size hT hv) (tp_cwV 3 hts tw_312 tw_313 tw_314 tw_29 tw_315 rfl rfl (by decide +kernel) ⟨Nat.le_of_ble_eq_true rfl, Nat.le_of_ble_eq_true rfl⟩) ⟨m_blind, va_recv hK (hP.one (e := .inr (7, [.int ((a 15 v) 0), .int ((a 15 v) 1), .int ((a 15 v) 2), .int ((a 15 v) 3), .int ((a 15 v) 4), .int ((a 15 v) 5), .int ((a 15 v) 6), .int ((a 15 v) 7), .int ((a 15 v) 8), .int ((a 15 v) 9), .int ((a 15 v) 10), .int ((a 15 v) 11), .ref (L 16 v)])) (tw_mem (f := 15) (i := v) hv rfl)) (ci := 7) (q0 := 0) rfl rfl, fun U hU hW => ⟨rfl, m_pay hK hP hE (fun _ _ h => h) U hU hW⟩⟩ rfl rfl hl.1 rfl (lv_room (Nat.le_of_ble_eq_true rfl)) dX5_comesOnto_36 ⟨(by show 0 + 0 + 0 + 0 ≤ cT tr; omega), (by show 0 + 0 + 0 + 0 ≤ pB tr Bd; omega)⟩) hS (fun q _ h => hFc q h) hFc (fun u t H1 locs ht hvm hpo hB hz1 hk1 hS => ?_)
      have hP1 := hB
      rw [ht] at hP1
      have hP : mw (dC, dI) vwCl A (TW cy L tr (V_onto a v nx ((a 2 nx.toNatClampNeg) 2) ((a 0 0) 0)) κ τ) H1 := hP.join (fun _ _ h => h) hk1 hFc hP1 (fun _ _ h => Or.inl h)
      generalize H1 = H at hP hS ⊢
      clear hP1 hk1 hFc
      obtain ⟨b1, eb1⟩ : ∃ z : St, z = V_onto a v nx ((a 2 nx.toNatClampNeg) 2) ((a 0 0) 0) := ⟨_, rfl⟩
      rw [← eb1] at hP
      refine lv_aload hx hb dX5_comesOnto_39 (lv_at hl 0 rfl) ?_
      refine lv_iload_n hx hb dX5_comesOnto_41 rfl (lv_at hl 2 rfl) ?_
      refine lv_aload_n hx hb dX5_comesOnto_42 rfl (lv_at hl 3 rfl) ?_
      refine va_getN (D := (dC, dI)) (ws := [(L 15 v, .inr (7, [.int ((b1 15 v) 0), .int ((b1 15 v) 1), .int ((b1 15 v) 2), .int ((b1 15 v) 3), .int ((b1 15 v) 4), .int ((b1 15 v) 5), .int ((b1 15 v) 6), .int ((b1 15 v) 7), .int ((b1 15 v) 8), .int ((b1 15 v) 9), .int ((b1 15 v) 10), .int ((b1 15 v) 11), .ref (L 16 v)]))]) (ci := 7) (v := .int ((b1 15 v) 6)) (C := RX7) (T := TX7) (N := 13) hx hb hts tl_X7 hown hK (hP.one (tw_mem (f := 15) (i := v) hv rfl)) 0 rfl rfl 6 (by decide) (va_Nw.use rfl (te_f52 hE)) (fun _ h9 => h9) rfl dX5_comesOnto_43 ?_
      have hFc := m_free (C := (TW cy L tr b1 κ τ)) hP hS hA (fun _ _ h => h)
      refine va_callv (va_runV (As := [.int vn, .int ((b1 15 v) 6)]) (rest := []) ⟨hx, hb, hml, hown, hts⟩ (c_Link_takeIn l dC dI cy L tr b1 κ τ nx.toNatClampNeg vn ((b1 15 v) 6) H.size hT hln (by rw [eb1]; show 0 ≤ (T_on1 a v nx 3 nx.toNatClampNeg 0).toInt; rw [T_on1_off (by decide)]; exact (hw.2.1 _ hln).2.2.2.2.1.1) (by rw [eb1]; show 0 ≤ (T_on1 a v nx 5 nx.toNatClampNeg 0).toInt; rw [T_on1_off (by decide)]; exact (hw.2.1 _ hln).2.2.2.2.2.1)) (tp_cwV 2 hts tw_316 tw_317 tw_318 tw_23 tw_319 rfl rfl (by decide +kernel) ⟨Nat.le_of_ble_eq_true rfl, Nat.le_of_ble_eq_true rfl⟩) ⟨m_blind, va_recv hK (hP.one (e := .inr (1, [.int ((b1 2 nx.toNatClampNeg) 0), .int ((b1 2 nx.toNatClampNeg) 1), .int ((b1 2 nx.toNatClampNeg) 2), .int ((b1 2 nx.toNatClampNeg) 3), .int ((b1 2 nx.toNatClampNeg) 4), .int ((b1 2 nx.toNatClampNeg) 5), .int ((b1 2 nx.toNatClampNeg) 6), .int ((b1 2 nx.toNatClampNeg) 7), .int ((b1 2 nx.toNatClampNeg) 8), .ref (L 3 nx.toNatClampNeg), .ref (L 5 nx.toNatClampNeg), .int ((b1 2 nx.toNatClampNeg) 9), .int ((b1 2 nx.toNatClampNeg) 10), .int ((b1 2 nx.toNatClampNeg) 11), .int ((b1 2 nx.toNatClampNeg) 12), .ref (L 7 nx.toNatClampNeg)])) (tw_mem (f := 2) (i := nx.toNatClampNeg) hln rfl)) (ci := 1) (q0 := 0) rfl rfl, fun U hU hW => ⟨rfl, m_pay hK hP hE (fun _ _ h => h) U hU hW⟩⟩ rfl rfl hl.1 rfl (lv_room (Nat.le_of_ble_eq_true rfl)) dX5_comesOnto_46 ⟨(by show 0 + 0 + 0 + 0 + 0 ≤ cT tr; omega), (by show 0 + 0 + 0 + 0 + 0 ≤ pB tr Bd; omega)⟩) hS (fun q _ h => hFc q h) hFc (fun u t H1 locs ht hvm hpo hB hz1 hk1 hS => ?_)
      have hP1 := hB
      rw [ht] at hP1
      have hP : mw (dC, dI) vwCl A (TW cy L tr (L_take b1 nx.toNatClampNeg vn ((b1 15 v) 6)) κ τ) H1 := hP.join (fun _ _ h => h) hk1 hFc hP1 (fun _ _ h => Or.inl h)
      generalize H1 = H at hP hS ⊢
      clear hP1 hk1 hFc
      obtain ⟨b2, eb2⟩ : ∃ z : St, z = L_take b1 nx.toNatClampNeg vn ((b1 15 v) 6) := ⟨_, rfl⟩
      rw [← eb2] at hP
      refine lv_aload_n hx hb dX5_comesOnto_49 rfl (lv_at hl 1 rfl) ?_
      refine va_get (D := (dC, dI)) (ws := [(L 0 0, .inr (5, [.ref (L 1 0), .ref (L 20 0), .ref (L 21 0), .ref (L 22 0), .ref (L 23 0), va_rf tr, .int ((b2 0 0) 0), .int ((b2 0 0) 1), .int ((b2 0 0) 2), .int ((b2 0 0) 3), .int ((b2 0 0) 4), .int ((b2 0 0) 5)]))]) (ci := 5) (v := va_rf tr) (C := RX5) (T := TX5) (N := 12) hx hb hts tl_X5 hown hK (hP.one (tw_mem (f := 0) (i := 0) (by decide) rfl)) 0 rfl rfl 5 (by decide) (hts _ tw_883) (fun _ h9 => h9) rfl dX5_comesOnto_50 ?_
      cases tr with
      | none =>
        have hc0 : cT none = 0 := rfl
        have hc1 : pB none Bd = 0 := pB_n
        refine W.eq (g2 := F0 m 53 ls [.null]) rfl ?_
        refine lv_ifnullN (tgt := 71) hx hb dX5_comesOnto_53 (by decide) ?_
        have e8 : T_on3 b2 v nx = T_onto a v vn nx := by rw [eb2, eb1]; rfl
        have hP : mw (dC, dI) vwCl A (TW cy L none (T_onto a v vn nx) κ τ) H := hP.sub (by rw [← e8]; exact tw_ghost)
        have hh2 : Hid L none (T_onto a v vn nx) κ τ := ⟨hh.1, CV.same T_onto_sameR (in_le hw.1.1) hh.2.1, fun h => absurd rfl h⟩
        refine lv_iconst (v := 1) hx hb dX5_comesOnto_71 (by decide) ?_
        refine W.widen (k := cT none) (n := pB none Bd) (by show 0 + 0 + 0 + 0 + 0 + 0 ≤ cT none; omega) (by show 0 + 0 + 0 + 0 + 0 + 0 ≤ pB none Bd; omega) ?_
        have s_2 : T_onto a v vn nx = (T_comes a v vn nx).1 := by
          simp only [T_comes, if_neg c_1, if_neg c_2]
        rw [s_2] at hP
        have g_3 : 1 = (T_comes a v vn nx).2 := by
          simp only [T_comes, if_neg c_1, if_neg c_2]
        have g_4 : Hid L none (T_comes a v vn nx).1 κ τ := by
          rw [← s_2]
          exact hh2
        exact W.zret (v := 1) hx hb hr rfl (fun t ht hW => ⟨⟨1, 1, rfl, rfl, ⟨τ, g_3, g_4, by show mw _ _ _ _ t.heap; rw [ht]; exact hP⟩⟩, hS.F ht⟩) hS.2.2 dX5_comesOnto_72
      | some t0 =>
        have hc0 : cT (some t0) = 1 := rfl
        have hc1 : pB (some t0) Bd = 2 * (Bd / 12) + 1 := pB_s
        refine W.eq (g2 := F0 m 53 ls [.ref t0]) rfl ?_
        refine lv_ifnull hx hb dX5_comesOnto_53 ?_
        refine lv_aload_n hx hb dX5_comesOnto_56 rfl (lv_at hl 1 rfl) ?_
        refine va_get (D := (dC, dI)) (ws := [(L 0 0, .inr (5, [.ref (L 1 0), .ref (L 20 0), .ref (L 21 0), .ref (L 22 0), .ref (L 23 0), .ref t0, .int ((b2 0 0) 0), .int ((b2 0 0) 1), .int ((b2 0 0) 2), .int ((b2 0 0) 3), .int ((b2 0 0) 4), .int ((b2 0 0) 5)]))]) (ci := 5) (v := .ref t0) (C := RX5) (T := TX5) (N := 12) hx hb hts tl_X5 hown hK (hP.one (tw_mem (f := 0) (i := 0) (by decide) rfl)) 0 rfl rfl 5 (by decide) (hts _ tw_883) (fun _ h9 => h9) rfl dX5_comesOnto_57 ?_
        refine lv_iload_n hx hb dX5_comesOnto_60 rfl (lv_at hl 2 rfl) ?_
        refine lv_aload_n hx hb dX5_comesOnto_61 rfl (lv_at hl 3 rfl) ?_
        refine va_getN (D := (dC, dI)) (ws := [(L 15 v, .inr (7, [.int ((b2 15 v) 0), .int ((b2 15 v) 1), .int ((b2 15 v) 2), .int ((b2 15 v) 3), .int ((b2 15 v) 4), .int ((b2 15 v) 5), .int ((b2 15 v) 6), .int ((b2 15 v) 7), .int ((b2 15 v) 8), .int ((b2 15 v) 9), .int ((b2 15 v) 10), .int ((b2 15 v) 11), .ref (L 16 v)]))]) (ci := 7) (v := .int ((b2 15 v) 7)) (C := RX7) (T := TX7) (N := 13) hx hb hts tl_X7 hown hK (hP.one (tw_mem (f := 15) (i := v) hv rfl)) 0 rfl rfl 7 (by decide) (va_Nw.use rfl (te_f54 hE)) (fun _ h9 => h9) rfl dX5_comesOnto_62 ?_
        refine lv_iconst (v := 1) hx hb dX5_comesOnto_65 (by decide) ?_
        refine lv_isub hx hb dX5_comesOnto_66 ?_
        refine lv_iload_n hx hb dX5_comesOnto_67 rfl (lv_at hl 4 rfl) ?_
        have h7 := (hw.2.2.2.2 v hv).2.2
        have hgo : b2 15 v 7 - 1 = nI (a 15 v 7).toNatClampNeg := by
          rw [eb2, L_take_off (by decide) (by decide) (by decide) (by decide) (by decide), eb1]
          show T_on1 a v nx 15 v 7 - 1 = _
          rw [T_on1_15]
          show a 15 v 7 + 1 - 1 = _
          rw [Int32.add_sub_cancel]
          exact in_nI h7
        have hgM : (a 15 v 7).toNatClampNeg ≤ Bd := Nat.le_trans (in_le h7) hMB
        have hFc := m_free (C := (TW cy L ((some t0)) b2 κ τ)) hP hS hA (fun _ _ h => h)
        refine va_callv (va_runV (As := [.int vn, .int (((b2 15 v) 7) - 1), .int nx]) (rest := []) ⟨hx, hb, hml, hown, hts⟩ (c_Trails_put l dC dI cy L t0 b2 κ τ v vn (((b2 15 v) 7) - 1) nx nx.toNatClampNeg Bd ((fun u => (a 15 u 7).toNatClampNeg)) ((fun u j => (a 30 u j).toNatClampNeg)) H.size hT hv hvn hgo hgM hB2 (m_nI (fun h => c_1 (Or.inl h))) (by omega) (hh.2.2 (by intro h; cases h)).2) (tp_cwV 3 hts tw_321 tw_322 tw_323 tw_26 tw_324 rfl rfl (by decide +kernel) ⟨Nat.le_of_ble_eq_true rfl, Nat.le_of_ble_eq_true rfl⟩) ⟨m_blind, va_recv hK (hP.one (e := .inr (6, [.ref τ.1])) tr_t) (ci := 6) (q0 := 0) rfl rfl, fun U hU hW => ⟨rfl, m_pay hK hP hE (fun _ _ h => h) U hU hW⟩⟩ rfl rfl hl.1 rfl (lv_room (Nat.le_of_ble_eq_true rfl)) dX5_comesOnto_68 ⟨(by show 0 + 0 + 0 + 0 + 0 + 1 ≤ cT (some t0); omega), (by show 0 + 0 + 0 + 0 + 0 + (2 * (Bd / 12) + 1) ≤ pB (some t0) Bd; omega)⟩) hS (fun q _ h => hFc q h) hFc (fun u t H1 locs ht hvm hpo hB hz1 hk1 hS => ?_)
        obtain ⟨z_1, f_4, f_5, hP1⟩ := hB
        rw [ht] at hP1
        have hP : mw (dC, dI) vwCl A (TW cy L ((some t0)) b2 κ z_1) H1 := hP.join (fun _ _ h => h) hk1 hFc hP1 (fun _ _ h => Or.inl h)
        generalize H1 = H at hP hS ⊢
        clear hP1 hk1 hFc
        have e8 : T_on3 b2 v nx = T_onto a v vn nx := by rw [eb2, eb1]; rfl
        have hP : mw (dC, dI) vwCl A (TW cy L ((some t0)) (T_onto a v vn nx) κ z_1) H := hP.sub (by rw [← e8]; exact tw_ghost)
        have hh2 : Hid L (some t0) (T_onto a v vn nx) κ z_1 := ⟨f_4, CV.same T_onto_sameR (in_le hw.1.1) hh.2.1, T_onto_TR hw (by omega) hv hvv rfl hh.2.2 f_5⟩
        refine lv_iconst (v := 1) hx hb dX5_comesOnto_71 (by decide) ?_
        refine W.widen (k := cT (some t0)) (n := pB (some t0) Bd) (by show 0 + 0 + 0 + 0 + 0 + 1 + 0 ≤ cT (some t0); omega) (by show 0 + 0 + 0 + 0 + 0 + (2 * (Bd / 12) + 1) + 0 ≤ pB (some t0) Bd; omega) ?_
        have s_3 : T_onto a v vn nx = (T_comes a v vn nx).1 := by
          simp only [T_comes, if_neg c_1, if_neg c_2]
        rw [s_3] at hP
        have g_5 : 1 = (T_comes a v vn nx).2 := by
          simp only [T_comes, if_neg c_1, if_neg c_2]
        have g_6 : Hid L ((some t0)) (T_comes a v vn nx).1 κ z_1 := by
          rw [← s_3]
          exact hh2
        exact W.zret (v := 1) hx hb hr rfl (fun t ht hW => ⟨⟨1, 1, rfl, rfl, ⟨z_1, g_5, g_6, by show mw _ _ _ _ t.heap; rw [ht]; exact hP⟩⟩, hS.F ht⟩) hS.2.2 dX5_comesOnto_72
    · refine lv_iconst (v := 0) hx hb dX5_comesOnto_23 (by decide) ?_
      refine W.widen (k := cT tr) (n := pB tr Bd) (by show 0 + 0 + 0 + 0 ≤ cT tr; omega) (by show 0 + 0 + 0 + 0 ≤ pB tr Bd; omega) ?_
      have s_4 : a = (T_comes a v vn nx).1 := by
        simp only [T_comes, if_neg c_1, if_pos c_2]
      rw [s_4] at hP
      have g_7 : 0 = (T_comes a v vn nx).2 := by
        simp only [T_comes, if_neg c_1, if_pos c_2]
      have g_8 : Hid L tr (T_comes a v vn nx).1 κ τ := by
        rw [← s_4]
        exact hh
      exact W.zret (v := 0) hx hb hr rfl (fun t ht hW => ⟨⟨0, 0, rfl, rfl, ⟨τ, g_7, g_8, by show mw _ _ _ _ t.heap; rw [ht]; exact hP⟩⟩, hS.F ht⟩) hS.2.2 dX5_comesOnto_24
end
section
theorem tw_273 : Cond.methodLink RX5 175 yX3_get ∈ tp_all := tp_mem 273 (by decide +kernel) rfl
theorem tw_277 : Cond.code yX5_find cX5_find 2 (some (.object "Turnpike$Vehicle")) ∈ tp_all := tp_mem 277 (by decide +kernel) rfl
theorem tw_274 : Cond.methodLink RX5 179 yX5_find ∈ tp_all := tp_mem 274 (by decide +kernel) rfl
theorem tw_275 : Cond.instanceMethod yX5_find ∈ tp_all := tp_mem 275 (by decide +kernel) rfl
theorem tw_276 : Cond.selects RX5 yX5_find yX5_find ∈ tp_all := tp_mem 276 (by decide +kernel) rfl
theorem tw_278 : Cond.methodLink RX5 183 yX1_hasQueueIn ∈ tp_all := tp_mem 278 (by decide +kernel) rfl
theorem tw_297 : Cond.code yX5_nextOf cX5_nextOf 3 (some .int) ∈ tp_all := tp_mem 297 (by decide +kernel) rfl
theorem tw_294 : Cond.methodLink RX5 191 yX5_nextOf ∈ tp_all := tp_mem 294 (by decide +kernel) rfl
theorem tw_296 : Cond.instanceMethod yX5_nextOf ∈ tp_all := tp_mem 296 (by decide +kernel) rfl
theorem tw_9 : Cond.selects RX5 yX5_nextOf yX5_nextOf ∈ tp_all := tp_mem 9 (by decide +kernel) rfl
theorem tw_306 : Cond.code yX5_comesOnto cX5_comesOnto 5 (some .boolean) ∈ tp_all := tp_mem 306 (by decide +kernel) rfl
theorem tw_303 : Cond.methodLink RX5 195 yX5_comesOnto ∈ tp_all := tp_mem 303 (by decide +kernel) rfl
theorem tw_305 : Cond.instanceMethod yX5_comesOnto ∈ tp_all := tp_mem 305 (by decide +kernel) rfl
theorem tw_10 : Cond.selects RX5 yX5_comesOnto yX5_comesOnto ∈ tp_all := tp_mem 10 (by decide +kernel) rfl
theorem tw_346 : Cond.code yX1_countTurn cX1_countTurn 2 none ∈ tp_all := tp_mem 346 (by decide +kernel) rfl
theorem tw_343 : Cond.methodLink RX5 199 yX1_countTurn ∈ tp_all := tp_mem 343 (by decide +kernel) rfl
theorem tw_344 : Cond.instanceMethod yX1_countTurn ∈ tp_all := tp_mem 344 (by decide +kernel) rfl
theorem tw_345 : Cond.selects RX1 yX1_countTurn yX1_countTurn ∈ tp_all := tp_mem 345 (by decide +kernel) rfl
theorem tw_350 : Cond.code yX1_letFirstGo cX1_letFirstGo 1 none ∈ tp_all := tp_mem 350 (by decide +kernel) rfl
theorem tw_347 : Cond.methodLink RX5 202 yX1_letFirstGo ∈ tp_all := tp_mem 347 (by decide +kernel) rfl
theorem tw_348 : Cond.instanceMethod yX1_letFirstGo ∈ tp_all := tp_mem 348 (by decide +kernel) rfl
theorem tw_349 : Cond.selects RX1 yX1_letFirstGo yX1_letFirstGo ∈ tp_all := tp_mem 349 (by decide +kernel) rfl
theorem tw_282 : Cond.code yX5_arrive cX5_arrive 2 none ∈ tp_all := tp_mem 282 (by decide +kernel) rfl
theorem tw_279 : Cond.methodLink RX5 187 yX5_arrive ∈ tp_all := tp_mem 279 (by decide +kernel) rfl
theorem tw_281 : Cond.instanceMethod yX5_arrive ∈ tp_all := tp_mem 281 (by decide +kernel) rfl
theorem tw_8 : Cond.selects RX5 yX5_arrive yX5_arrive ∈ tp_all := tp_mem 8 (by decide +kernel) rfl
theorem te_f17 {U : State} (h : tp_E U) : va_Nw (.fieldLinkNest "Turnpike$Traffic" 172 "Turnpike$Link" "row" "LTurnpike$Row;" "Turnpike") U := h.1 _ (List.mem_of_getElem? (i := 17) rfl)
theorem te_f4 {U : State} (h : tp_E U) : va_Nw (.fieldLinkNest "Turnpike$Traffic" 159 "Turnpike$Link" "to" "I" "Turnpike") U := h.1 _ (List.mem_of_getElem? (i := 4) rfl)
theorem dX5_firstGoesOn_0 : decode cX5_firstGoesOn 0 = .ok (.aload_n 1, 1) := by decide +kernel
theorem dX5_firstGoesOn_1 : decode cX5_firstGoesOn 1 = .ok (.getfield 172, 3) := by decide +kernel
theorem dX5_firstGoesOn_4 : decode cX5_firstGoesOn 4 = .ok (.iconst 0, 1) := by decide +kernel
theorem dX5_firstGoesOn_5 : decode cX5_firstGoesOn 5 = .ok (.invokevirtual 175, 3) := by decide +kernel
theorem dX5_firstGoesOn_8 : decode cX5_firstGoesOn 8 = .ok (.istore_n 2, 1) := by decide +kernel
theorem dX5_firstGoesOn_9 : decode cX5_firstGoesOn 9 = .ok (.aload_n 0, 1) := by decide +kernel
theorem dX5_firstGoesOn_10 : decode cX5_firstGoesOn 10 = .ok (.iload_n 2, 1) := by decide +kernel
theorem dX5_firstGoesOn_11 : decode cX5_firstGoesOn 11 = .ok (.invokevirtual 179, 3) := by decide +kernel
theorem dX5_firstGoesOn_14 : decode cX5_firstGoesOn 14 = .ok (.astore_n 3, 1) := by decide +kernel
theorem dX5_firstGoesOn_15 : decode cX5_firstGoesOn 15 = .ok (.aload_n 3, 1) := by decide +kernel
theorem dX5_firstGoesOn_16 : decode cX5_firstGoesOn 16 = .ok (.ifnull 14, 3) := by decide +kernel
theorem dX5_firstGoesOn_30 : decode cX5_firstGoesOn 30 = .ok (.iconst 0, 1) := by decide +kernel
theorem dX5_firstGoesOn_31 : decode cX5_firstGoesOn 31 = .ok (.ireturn, 1) := by decide +kernel
theorem dX5_firstGoesOn_19 : decode cX5_firstGoesOn 19 = .ok (.aload_n 1, 1) := by decide +kernel
theorem dX5_firstGoesOn_20 : decode cX5_firstGoesOn 20 = .ok (.aload_n 0, 1) := by decide +kernel
theorem dX5_firstGoesOn_21 : decode cX5_firstGoesOn 21 = .ok (.getfield 65, 3) := by decide +kernel
theorem dX5_firstGoesOn_24 : decode cX5_firstGoesOn 24 = .ok (.invokevirtual 183, 3) := by decide +kernel
theorem dX5_firstGoesOn_27 : decode cX5_firstGoesOn 27 = .ok (.ifCond .ne 5, 3) := by decide +kernel
theorem dX5_firstGoesOn_32 : decode cX5_firstGoesOn 32 = .ok (.aload_n 3, 1) := by decide +kernel
theorem dX5_firstGoesOn_33 : decode cX5_firstGoesOn 33 = .ok (.getfield 186, 3) := by decide +kernel
theorem dX5_firstGoesOn_36 : decode cX5_firstGoesOn 36 = .ok (.aload_n 1, 1) := by decide +kernel
theorem dX5_firstGoesOn_37 : decode cX5_firstGoesOn 37 = .ok (.getfield 159, 3) := by decide +kernel
theorem dX5_firstGoesOn_40 : decode cX5_firstGoesOn 40 = .ok (.if_icmp .ne 11, 3) := by decide +kernel
theorem dX5_firstGoesOn_51 : decode cX5_firstGoesOn 51 = .ok (.aload_n 0, 1) := by decide +kernel
theorem dX5_firstGoesOn_52 : decode cX5_firstGoesOn 52 = .ok (.aload_n 3, 1) := by decide +kernel
theorem dX5_firstGoesOn_53 : decode cX5_firstGoesOn 53 = .ok (.aload_n 1, 1) := by decide +kernel
theorem dX5_firstGoesOn_54 : decode cX5_firstGoesOn 54 = .ok (.getfield 159, 3) := by decide +kernel
theorem dX5_firstGoesOn_57 : decode cX5_firstGoesOn 57 = .ok (.invokevirtual 191, 3) := by decide +kernel
theorem dX5_firstGoesOn_60 : decode cX5_firstGoesOn 60 = .ok (.istore 4, 2) := by decide +kernel
theorem dX5_firstGoesOn_62 : decode cX5_firstGoesOn 62 = .ok (.aload_n 0, 1) := by decide +kernel
theorem dX5_firstGoesOn_63 : decode cX5_firstGoesOn 63 = .ok (.iload_n 2, 1) := by decide +kernel
theorem dX5_firstGoesOn_64 : decode cX5_firstGoesOn 64 = .ok (.aload_n 3, 1) := by decide +kernel
theorem dX5_firstGoesOn_65 : decode cX5_firstGoesOn 65 = .ok (.iload 4, 2) := by decide +kernel
theorem dX5_firstGoesOn_67 : decode cX5_firstGoesOn 67 = .ok (.invokevirtual 195, 3) := by decide +kernel
theorem dX5_firstGoesOn_70 : decode cX5_firstGoesOn 70 = .ok (.ifCond .ne 5, 3) := by decide +kernel
theorem dX5_firstGoesOn_75 : decode cX5_firstGoesOn 75 = .ok (.aload_n 1, 1) := by decide +kernel
theorem dX5_firstGoesOn_76 : decode cX5_firstGoesOn 76 = .ok (.iload 4, 2) := by decide +kernel
theorem dX5_firstGoesOn_78 : decode cX5_firstGoesOn 78 = .ok (.invokevirtual 199, 3) := by decide +kernel
theorem dX5_firstGoesOn_81 : decode cX5_firstGoesOn 81 = .ok (.aload_n 1, 1) := by decide +kernel
theorem dX5_firstGoesOn_82 : decode cX5_firstGoesOn 82 = .ok (.invokevirtual 202, 3) := by decide +kernel
theorem dX5_firstGoesOn_85 : decode cX5_firstGoesOn 85 = .ok (.iconst 1, 1) := by decide +kernel
theorem dX5_firstGoesOn_86 : decode cX5_firstGoesOn 86 = .ok (.ireturn, 1) := by decide +kernel
theorem dX5_firstGoesOn_73 : decode cX5_firstGoesOn 73 = .ok (.iconst 0, 1) := by decide +kernel
theorem dX5_firstGoesOn_74 : decode cX5_firstGoesOn 74 = .ok (.ireturn, 1) := by decide +kernel
theorem dX5_firstGoesOn_43 : decode cX5_firstGoesOn 43 = .ok (.aload_n 0, 1) := by decide +kernel
theorem dX5_firstGoesOn_44 : decode cX5_firstGoesOn 44 = .ok (.aload_n 3, 1) := by decide +kernel
theorem dX5_firstGoesOn_45 : decode cX5_firstGoesOn 45 = .ok (.invokevirtual 187, 3) := by decide +kernel
theorem dX5_firstGoesOn_48 : decode cX5_firstGoesOn 48 = .ok (.goto 33, 3) := by decide +kernel
set_option maxRecDepth 100000 in
set_option maxHeartbeats 4000000 in
/-- Traffic.firstGoesOn -/
theorem c_Traffic_firstGoesOn (l : Launch) (dC : Nat → ClassId) (dI : Nat → Nat → Nat) (cy : Nat → ClassId) (L : Lay) (tr : Option Nat) (a : St) (κ : Kap) (τ : Tau) (M : Nat) (Bd : Nat) (li : Nat) (sz : Nat) (hT : TL L tr τ) (hw : Wf M a) (hh : Hid L tr a κ τ) (hl0 : li < 24) (hMB : M ≤ Bd) (hB2 : Bd < 30000) : Met l yX5_firstGoesOn (tp_w yX5_firstGoesOn cX5_firstGoesOn 5 (some .boolean)) ({ frames := 4, cells := cT tr, slots := pB tr Bd, locals := 99 }) (va_Pc [.ref (L 0 0), .ref (L 2 li)] (mPre dC dI cy (TW cy L tr a κ τ) sz)) (va_Qi (fun (r u : Int32) => r = u) (fun (u : Int32) (t : State) => ∃ (κ2 : Kap), ∃ (τ2 : Tau), (u = (T_first a li).2) ∧ (Hid L tr ((T_first a li).1) κ2 τ2) ∧ mw (dC, dI) vwCl (mA (TW cy L tr a κ τ) sz) (TW cy L tr ((T_first a li).1) κ2 τ2) t.heap) (mA (TW cy L tr a κ τ) sz)) (cT tr) (pB tr Bd) (mA (TW cy L tr a κ τ) sz) := by
  refine Met.ofW (cc := cX5_firstGoesOn) (maxL := 5) (ret := (some .boolean)) (by decide) rfl ?_
  intro p e s m args below meth c s₁ B hml hv
  obtain ⟨rfl, hsz, hP, hK, hE⟩ := hv
  have hx := B.exec
  have hb := B.bytes
  have hr := B.returns
  have hts0 := atoms_spec (ws := tp_w yX5_firstGoesOn cX5_firstGoesOn 5 (some .boolean)) B.pre
  have hts : ∀ w ∈ tp_all, w.before _ s = true := fun w h => hts0 w (List.mem_cons_of_mem _ h)
  have hown : s.vm.findClass RX5 = some m.cls := findClass_of_methodNamed B.named
  have hlocks := B.notSynchronized
  subst hsz
  have hP := hP.self s.heap.size
  generalize hAe : mA (TW cy L tr a κ τ) s.heap.size = A at hP ⊢
  have hA : ∀ q : Nat, s.heap.size ≤ q → A q := fun q h => by rw [← hAe]; exact Or.inr h
  have hS : va_S A s.heap s.heap [] := va_S.rf
  have hl9 := lv_entry ([.ref (L 0 0), .ref (L 2 li)]) (n := 5) (Nat.le_of_ble_eq_true rfl)
  rw [lg_entry_eq]
  generalize (lg_sl ([.ref (L 0 0), .ref (L 2 li)]) ++ List.replicate (5 - (lg_sl ([.ref (L 0 0), .ref (L 2 li)])).length) Slot.unset).toArray = ls at hl9 ⊢
  have hl : lv_has ls 5 [(0, .ref (L 0 0)), (1, .ref (L 2 li))] := hl9
  refine lv_aload_n hx hb dX5_firstGoesOn_0 rfl (lv_at hl 1 rfl) ?_
  obtain ⟨hT_, hκ, hTR⟩ := id hh
  refine va_getN (D := (dC, dI)) (ws := [(L 2 li, .inr (1, [.int ((a 2 li) 0), .int ((a 2 li) 1), .int ((a 2 li) 2), .int ((a 2 li) 3), .int ((a 2 li) 4), .int ((a 2 li) 5), .int ((a 2 li) 6), .int ((a 2 li) 7), .int ((a 2 li) 8), .ref (L 3 li), .ref (L 5 li), .int ((a 2 li) 9), .int ((a 2 li) 10), .int ((a 2 li) 11), .int ((a 2 li) 12), .ref (L 7 li)]))]) (ci := 1) (v := .ref (L 3 li)) (C := RX1) (T := TX1) (N := 16) hx hb hts tl_X1 hown hK (hP.one (tw_mem (f := 2) (i := li) hl0 rfl)) 0 rfl rfl 9 (by decide) (va_Nw.use rfl (te_f17 hE)) (fun _ h9 => h9) rfl dX5_firstGoesOn_1 ?_
  refine lv_iconst (v := 0) hx hb dX5_firstGoesOn_4 (by decide) ?_
  have hFc := m_free (C := (TW cy L tr a κ τ)) hP hS hA (fun _ _ h => h)
  refine va_calli (va_runV (As := [.int 0]) (rest := []) ⟨hx, hb, hml, hown, hts⟩ (c_Row_get_row l dC dI cy L tr a κ τ li 0 s.heap.size hT hl0 (hw.2.1 li hl0).2.2.2.2.1.2) (tp_cwV 1 hts tw_273 tw_187 tw_188 tw_24 tw_189 rfl rfl (by decide +kernel) ⟨Nat.le_of_ble_eq_true rfl, Nat.le_of_ble_eq_true rfl⟩) ⟨m_blind, va_recv hK (hP.one (e := .inr (3, [.ref (L 4 li), .int ((a 3 li) 0)])) (tw_mem (f := 3) (i := li) hl0 rfl)) (ci := 3) (q0 := 0) rfl rfl, fun U hU hW => ⟨rfl, m_pay hK hP hE (fun _ _ h => h) U hU hW⟩⟩ rfl rfl hl.1 rfl (lv_room (Nat.le_of_ble_eq_true rfl)) dX5_firstGoesOn_5 ⟨(by show 0 + 0 ≤ cT tr; omega), (by show 0 + 0 ≤ pB tr Bd; omega)⟩) hS (fun q _ h => hFc q h) hFc (fun r_1 u t H1 locs ht hvm hpo hB hz1 hk1 hS => ?_)
  obtain rfl := hpo
  obtain ⟨f_1, hP1⟩ := hB
  subst f_1
  rw [ht] at hP1
  have hP : mw (dC, dI) vwCl A (TW cy L tr a κ τ) H1 := hP.join (fun _ _ h => h) hk1 hFc hP1 (fun _ _ h => Or.inl h)
  generalize H1 = H at hP hS ⊢
  clear hP1 hk1 hFc
  refine lv_istore_n (lv' := [(2, .int (R_get (a 3 li 0) (a 4 li) 0)), (0, .ref (L 0 0)), (1, .ref (L 2 li))]) hx hb dX5_firstGoesOn_8 rfl hl (by decide) rfl (fun ls hl => ?_)
  refine lv_aload_n hx hb dX5_firstGoesOn_9 rfl (lv_at hl 1 rfl) ?_
  refine lv_iload_n hx hb dX5_firstGoesOn_10 rfl (lv_at hl 0 rfl) ?_
  by_cases c_1 : T_no a (R_get (a 3 li 0) (a 4 li) 0)
  · have hFc := m_free (C := (TW cy L tr a κ τ)) hP hS hA (fun _ _ h => h)
    refine va_callq (va_runV (As := [.int (R_get (a 3 li 0) (a 4 li) 0)]) (rest := []) ⟨hx, hb, hml, hown, hts⟩ (c_Traffic_find_none l dC dI cy L tr a κ τ (R_get (a 3 li 0) (a 4 li) 0) H.size hT c_1) (tp_cwV 1 hts tw_274 tw_275 tw_276 tw_21 tw_277 rfl rfl (by decide +kernel) ⟨Nat.le_of_ble_eq_true rfl, Nat.le_of_ble_eq_true rfl⟩) ⟨m_blind, va_recv hK (hP.one (e := .inr (5, [.ref (L 1 0), .ref (L 20 0), .ref (L 21 0), .ref (L 22 0), .ref (L 23 0), va_rf tr, .int ((a 0 0) 0), .int ((a 0 0) 1), .int ((a 0 0) 2), .int ((a 0 0) 3), .int ((a 0 0) 4), .int ((a 0 0) 5)])) (tw_mem (f := 0) (i := 0) (by decide) rfl)) (ci := 5) (q0 := 0) rfl rfl, fun U hU hW => ⟨rfl, m_pay hK hP hE (fun _ _ h => h) U hU hW⟩⟩ rfl rfl hl.1 rfl (lv_room (Nat.le_of_ble_eq_true rfl)) dX5_firstGoesOn_11 ⟨(by show 0 + 0 + 0 ≤ cT tr; omega), (by show 0 + 0 + 0 ≤ pB tr Bd; omega)⟩) hS (fun q _ h => hFc q h) hFc (fun r_2 u t H1 locs ht hvm hpo hB hz1 hk1 hS => ?_)
    obtain rfl := hpo
    obtain ⟨f_2, hP1⟩ := hB
    subst f_2
    rw [ht] at hP1
    have hP : mw (dC, dI) vwCl A (TW cy L tr a κ τ) H1 := hP.join (fun _ _ h => h) hk1 hFc hP1 (fun _ _ h => Or.inl h)
    generalize H1 = H at hP hS ⊢
    clear hP1 hk1 hFc
    refine W.eq (g2 := F0 m 14 ls [.null]) rfl ?_
    refine lv_astore_nN (lv' := [(3, .null), (2, .int (R_get (a 3 li 0) (a 4 li) 0)), (0, .ref (L 0 0)), (1, .ref (L 2 li))]) hx hb dX5_firstGoesOn_14 rfl hl (by decide) rfl (fun ls hl => ?_)
    refine lv_aload_nN hx hb dX5_firstGoesOn_15 rfl (lv_at hl 0 rfl) ?_
    refine lv_ifnullN (tgt := 30) hx hb dX5_firstGoesOn_16 (by decide) ?_
    refine lv_iconst (v := 0) hx hb dX5_firstGoesOn_30 (by decide) ?_
    refine W.widen (k := cT tr) (n := pB tr Bd) (by show 0 + 0 + 0 + 0 ≤ cT tr; omega) (by show 0 + 0 + 0 + 0 ≤ pB tr Bd; omega) ?_
    have s_1 : a = (T_first a li).1 := by
      unfold T_first
      rw [if_pos c_1]
    rw [s_1] at hP
    have g_1 : 0 = (T_first a li).2 := by
      unfold T_first
      rw [if_pos c_1]
    have g_2 : Hid L tr ((T_first a li).1) κ τ := by
      rw [← s_1]
      exact hh
    exact W.zret (v := 0) hx hb hr rfl (fun t ht hW => ⟨⟨0, 0, rfl, rfl, ⟨κ, τ, g_1, g_2, by show mw _ _ _ _ t.heap; rw [ht]; exact hP⟩⟩, hS.F ht⟩) hS.2.2 dX5_firstGoesOn_31
  · have hFc := m_free (C := (TW cy L tr a κ τ)) hP hS hA (fun _ _ h => h)
    refine va_callr (va_runV (As := [.int (R_get (a 3 li 0) (a 4 li) 0)]) (rest := []) ⟨hx, hb, hml, hown, hts⟩ (c_Traffic_find_some l dC dI cy L tr a κ τ M (R_get (a 3 li 0) (a 4 li) 0) H.size hT hw c_1) (tp_cwV 1 hts tw_274 tw_275 tw_276 tw_21 tw_277 rfl rfl (by decide +kernel) ⟨Nat.le_of_ble_eq_true rfl, Nat.le_of_ble_eq_true rfl⟩) ⟨m_blind, va_recv hK (hP.one (e := .inr (5, [.ref (L 1 0), .ref (L 20 0), .ref (L 21 0), .ref (L 22 0), .ref (L 23 0), va_rf tr, .int ((a 0 0) 0), .int ((a 0 0) 1), .int ((a 0 0) 2), .int ((a 0 0) 3), .int ((a 0 0) 4), .int ((a 0 0) 5)])) (tw_mem (f := 0) (i := 0) (by decide) rfl)) (ci := 5) (q0 := 0) rfl rfl, fun U hU hW => ⟨rfl, m_pay hK hP hE (fun _ _ h => h) U hU hW⟩⟩ rfl rfl hl.1 rfl (lv_room (Nat.le_of_ble_eq_true rfl)) dX5_firstGoesOn_11 ⟨(by show 0 + 0 + 0 ≤ cT tr; omega), (by show 0 + 0 + 0 ≤ pB tr Bd; omega)⟩) hS (fun q _ h => hFc q h) hFc (fun u r_3 t H1 locs ht hvm hpo hB hz1 hk1 hS => ?_)
    obtain ⟨f_3, hP1⟩ := hB
    subst f_3
    rw [ht] at hP1
    have hP : mw (dC, dI) vwCl A (TW cy L tr a κ τ) H1 := hP.join (fun _ _ h => h) hk1 hFc hP1 (fun _ _ h => Or.inl h)
    generalize H1 = H at hP hS ⊢
    clear hP1 hk1 hFc
    obtain ⟨hvv, hv, hvn⟩ := T_no_in hw c_1
    refine lv_astore_n (lv' := [(3, .ref (L 15 (R_get (a 3 li 0) (a 4 li) 0).toNatClampNeg)), (2, .int (R_get (a 3 li 0) (a 4 li) 0)), (0, .ref (L 0 0)), (1, .ref (L 2 li))]) hx hb dX5_firstGoesOn_14 rfl hl (by decide) rfl (fun ls hl => ?_)
    refine lv_aload_n hx hb dX5_firstGoesOn_15 rfl (lv_at hl 0 rfl) ?_
    refine lv_ifnull hx hb dX5_firstGoesOn_16 ?_
    refine lv_aload_n hx hb dX5_firstGoesOn_19 rfl (lv_at hl 3 rfl) ?_
    refine lv_aload_n hx hb dX5_firstGoesOn_20 rfl (lv_at hl 2 rfl) ?_
    refine va_get (D := (dC, dI)) (ws := [(L 0 0, .inr (5, [.ref (L 1 0), .ref (L 20 0), .ref (L 21 0), .ref (L 22 0), .ref (L 23 0), va_rf tr, .int ((a 0 0) 0), .int ((a 0 0) 1), .int ((a 0 0) 2), .int ((a 0 0) 3), .int ((a 0 0) 4), .int ((a 0 0) 5)]))]) (ci := 5) (v := .int ((a 0 0) 0)) (C := RX5) (T := TX5) (N := 12) hx hb hts tl_X5 hown hK (hP.one (tw_mem (f := 0) (i := 0) (by decide) rfl)) 0 rfl rfl 6 (by decide) (hts _ tw_885) (fun _ h9 => h9) rfl dX5_firstGoesOn_21 ?_
    have hFc := m_free (C := (TW cy L tr a κ τ)) hP hS hA (fun _ _ h => h)
    refine va_calli (va_runV (As := [.int ((a 0 0) 0)]) (rest := []) ⟨hx, hb, hml, hown, hts⟩ (c_Link_hasQueueIn l dC dI cy L tr a κ τ li ((a 0 0) 0) H.size hT hl0 (hw.2.1 li hl0).2.2.2.2.2.2) (tp_cwV 1 hts tw_278 tw_250 tw_251 tw_23 tw_252 rfl rfl (by decide +kernel) ⟨Nat.le_of_ble_eq_true rfl, Nat.le_of_ble_eq_true rfl⟩) ⟨m_blind, va_recv hK (hP.one (e := .inr (1, [.int ((a 2 li) 0), .int ((a 2 li) 1), .int ((a 2 li) 2), .int ((a 2 li) 3), .int ((a 2 li) 4), .int ((a 2 li) 5), .int ((a 2 li) 6), .int ((a 2 li) 7), .int ((a 2 li) 8), .ref (L 3 li), .ref (L 5 li), .int ((a 2 li) 9), .int ((a 2 li) 10), .int ((a 2 li) 11), .int ((a 2 li) 12), .ref (L 7 li)])) (tw_mem (f := 2) (i := li) hl0 rfl)) (ci := 1) (q0 := 0) rfl rfl, fun U hU hW => ⟨rfl, m_pay hK hP hE (fun _ _ h => h) U hU hW⟩⟩ rfl rfl hl.1 rfl (lv_room (Nat.le_of_ble_eq_true rfl)) dX5_firstGoesOn_24 ⟨(by show 0 + 0 + 0 + 0 ≤ cT tr; omega), (by show 0 + 0 + 0 + 0 ≤ pB tr Bd; omega)⟩) hS (fun q _ h => hFc q h) hFc (fun r_4 u t H1 locs ht hvm hpo hB hz1 hk1 hS => ?_)
    obtain rfl := hpo
    obtain ⟨f_4, hP1⟩ := hB
    subst f_4
    rw [ht] at hP1
    have hP : mw (dC, dI) vwCl A (TW cy L tr a κ τ) H1 := hP.join (fun _ _ h => h) hk1 hFc hP1 (fun _ _ h => Or.inl h)
    generalize H1 = H at hP hS ⊢
    clear hP1 hk1 hFc
    refine lv_if_ne (tgt := 32) hx hb dX5_firstGoesOn_27 (by decide) (fun c_2 => ?_) (fun c_2 => ?_)
    · refine lv_aload_n hx hb dX5_firstGoesOn_32 rfl (lv_at hl 0 rfl) ?_
      refine va_getN (D := (dC, dI)) (ws := [(L 15 (R_get (a 3 li 0) (a 4 li) 0).toNatClampNeg, .inr (7, [.int ((a 15 ((R_get (a 3 li 0) (a 4 li) 0).toNatClampNeg)) 0), .int ((a 15 ((R_get (a 3 li 0) (a 4 li) 0).toNatClampNeg)) 1), .int ((a 15 ((R_get (a 3 li 0) (a 4 li) 0).toNatClampNeg)) 2), .int ((a 15 ((R_get (a 3 li 0) (a 4 li) 0).toNatClampNeg)) 3), .int ((a 15 ((R_get (a 3 li 0) (a 4 li) 0).toNatClampNeg)) 4), .int ((a 15 ((R_get (a 3 li 0) (a 4 li) 0).toNatClampNeg)) 5), .int ((a 15 ((R_get (a 3 li 0) (a 4 li) 0).toNatClampNeg)) 6), .int ((a 15 ((R_get (a 3 li 0) (a 4 li) 0).toNatClampNeg)) 7), .int ((a 15 ((R_get (a 3 li 0) (a 4 li) 0).toNatClampNeg)) 8), .int ((a 15 ((R_get (a 3 li 0) (a 4 li) 0).toNatClampNeg)) 9), .int ((a 15 ((R_get (a 3 li 0) (a 4 li) 0).toNatClampNeg)) 10), .int ((a 15 ((R_get (a 3 li 0) (a 4 li) 0).toNatClampNeg)) 11), .ref (L 16 ((R_get (a 3 li 0) (a 4 li) 0).toNatClampNeg))]))]) (ci := 7) (v := .int ((a 15 ((R_get (a 3 li 0) (a 4 li) 0).toNatClampNeg)) 1)) (C := RX7) (T := TX7) (N := 13) hx hb hts tl_X7 hown hK (hP.one (tw_mem (f := 15) (i := (R_get (a 3 li 0) (a 4 li) 0).toNatClampNeg) hv rfl)) 0 rfl rfl 1 (by decide) (va_Nw.use rfl (te_f46 hE)) (fun _ h9 => h9) rfl dX5_firstGoesOn_33 ?_
      refine lv_aload_n hx hb dX5_firstGoesOn_36 rfl (lv_at hl 3 rfl) ?_
      refine va_getN (D := (dC, dI)) (ws := [(L 2 li, .inr (1, [.int ((a 2 li) 0), .int ((a 2 li) 1), .int ((a 2 li) 2), .int ((a 2 li) 3), .int ((a 2 li) 4), .int ((a 2 li) 5), .int ((a 2 li) 6), .int ((a 2 li) 7), .int ((a 2 li) 8), .ref (L 3 li), .ref (L 5 li), .int ((a 2 li) 9), .int ((a 2 li) 10), .int ((a 2 li) 11), .int ((a 2 li) 12), .ref (L 7 li)]))]) (ci := 1) (v := .int ((a 2 li) 1)) (C := RX1) (T := TX1) (N := 16) hx hb hts tl_X1 hown hK (hP.one (tw_mem (f := 2) (i := li) hl0 rfl)) 0 rfl rfl 1 (by decide) (va_Nw.use rfl (te_f4 hE)) (fun _ h9 => h9) rfl dX5_firstGoesOn_37 ?_
      refine lv_icmp_ne (tgt := 51) hx hb dX5_firstGoesOn_40 (by decide) (fun c_3 => ?_) (fun c_3 => ?_)
      · refine lv_aload_n hx hb dX5_firstGoesOn_51 rfl (lv_at hl 2 rfl) ?_
        refine lv_aload_n hx hb dX5_firstGoesOn_52 rfl (lv_at hl 0 rfl) ?_
        refine lv_aload_n hx hb dX5_firstGoesOn_53 rfl (lv_at hl 3 rfl) ?_
        refine va_getN (D := (dC, dI)) (ws := [(L 2 li, .inr (1, [.int ((a 2 li) 0), .int ((a 2 li) 1), .int ((a 2 li) 2), .int ((a 2 li) 3), .int ((a 2 li) 4), .int ((a 2 li) 5), .int ((a 2 li) 6), .int ((a 2 li) 7), .int ((a 2 li) 8), .ref (L 3 li), .ref (L 5 li), .int ((a 2 li) 9), .int ((a 2 li) 10), .int ((a 2 li) 11), .int ((a 2 li) 12), .ref (L 7 li)]))]) (ci := 1) (v := .int ((a 2 li) 1)) (C := RX1) (T := TX1) (N := 16) hx hb hts tl_X1 hown hK (hP.one (tw_mem (f := 2) (i := li) hl0 rfl)) 0 rfl rfl 1 (by decide) (va_Nw.use rfl (te_f4 hE)) (fun _ h9 => h9) rfl dX5_firstGoesOn_54 ?_
        have hFc := m_free (C := (TW cy L tr a κ τ)) hP hS hA (fun _ _ h => h)
        refine va_calli (va_runV (As := [.ref (L 15 (R_get (a 3 li 0) (a 4 li) 0).toNatClampNeg), .int ((a 2 li) 1)]) (rest := []) ⟨hx, hb, hml, hown, hts⟩ (c_Traffic_nextOf l dC dI cy L tr a κ τ M ((R_get (a 3 li 0) (a 4 li) 0).toNatClampNeg) ((a 2 li) 1) H.size hT hw hv (hw.2.1 li hl0).2.1 hκ) (tp_cwV 2 hts tw_294 tw_296 tw_9 tw_21 tw_297 rfl rfl (by decide +kernel) ⟨Nat.le_of_ble_eq_true rfl, Nat.le_of_ble_eq_true rfl⟩) ⟨m_blind, va_recv hK (hP.one (e := .inr (5, [.ref (L 1 0), .ref (L 20 0), .ref (L 21 0), .ref (L 22 0), .ref (L 23 0), va_rf tr, .int ((a 0 0) 0), .int ((a 0 0) 1), .int ((a 0 0) 2), .int ((a 0 0) 3), .int ((a 0 0) 4), .int ((a 0 0) 5)])) (tw_mem (f := 0) (i := 0) (by decide) rfl)) (ci := 5) (q0 := 0) rfl rfl, fun U hU hW => ⟨rfl, m_pay hK hP hE (fun _ _ h => h) U hU hW⟩⟩ rfl rfl hl.1 rfl (lv_room (Nat.le_of_ble_eq_true rfl)) dX5_firstGoesOn_57 ⟨(by show 0 + 0 + 0 + 0 + 0 ≤ cT tr; omega), (by show 0 + 0 + 0 + 0 + 0 ≤ pB tr Bd; omega)⟩) hS (fun q _ h => hFc q h) hFc (fun r_5 u t H1 locs ht hvm hpo hB hz1 hk1 hS => ?_)
        obtain rfl := hpo
        obtain ⟨z_1, f_5, f_6, hP1⟩ := hB
        subst f_5
        rw [ht] at hP1
        have hP : mw (dC, dI) vwCl A (TW cy L tr a z_1 τ) H1 := hP.join (fun _ _ h => h) hk1 hFc hP1 (fun _ _ h => Or.inl h)
        generalize H1 = H at hP hS ⊢
        clear hP1 hk1 hFc
        have hh1 : Hid L tr a z_1 τ := ⟨hT, f_6, hTR⟩
        refine lv_istore (lv' := [(4, .int (T_next a ((R_get (a 3 li 0) (a 4 li) 0).toNatClampNeg) ((a 2 li) 1))), (3, .ref (L 15 (R_get (a 3 li 0) (a 4 li) 0).toNatClampNeg)), (2, .int (R_get (a 3 li 0) (a 4 li) 0)), (0, .ref (L 0 0)), (1, .ref (L 2 li))]) hx hb dX5_firstGoesOn_60 hl (by decide) rfl (fun ls hl => ?_)
        refine lv_aload_n hx hb dX5_firstGoesOn_62 rfl (lv_at hl 3 rfl) ?_
        refine lv_iload_n hx hb dX5_firstGoesOn_63 rfl (lv_at hl 2 rfl) ?_
        refine lv_aload_n hx hb dX5_firstGoesOn_64 rfl (lv_at hl 1 rfl) ?_
        refine lv_iload hx hb dX5_firstGoesOn_65 (lv_at hl 0 rfl) ?_
        have hFc := m_free (C := (TW cy L tr a z_1 τ)) hP hS hA (fun _ _ h => h)
        refine va_calli (va_runV (As := [.int (R_get (a 3 li 0) (a 4 li) 0), .ref (L 15 (R_get (a 3 li 0) (a 4 li) 0).toNatClampNeg), .int (T_next a ((R_get (a 3 li 0) (a 4 li) 0).toNatClampNeg) ((a 2 li) 1))]) (rest := []) ⟨hx, hb, hml, hown, hts⟩ (c_Traffic_comesOnto l dC dI cy L tr a z_1 τ M Bd ((R_get (a 3 li 0) (a 4 li) 0).toNatClampNeg) (R_get (a 3 li 0) (a 4 li) 0) (T_next a ((R_get (a 3 li 0) (a 4 li) 0).toNatClampNeg) ((a 2 li) 1)) H.size hT hw hh1 hvn hvv hMB hB2) (tp_cwV 3 hts tw_303 tw_305 tw_10 tw_21 tw_306 rfl rfl (by decide +kernel) ⟨Nat.le_of_ble_eq_true rfl, Nat.le_of_ble_eq_true rfl⟩) ⟨m_blind, va_recv hK (hP.one (e := .inr (5, [.ref (L 1 0), .ref (L 20 0), .ref (L 21 0), .ref (L 22 0), .ref (L 23 0), va_rf tr, .int ((a 0 0) 0), .int ((a 0 0) 1), .int ((a 0 0) 2), .int ((a 0 0) 3), .int ((a 0 0) 4), .int ((a 0 0) 5)])) (tw_mem (f := 0) (i := 0) (by decide) rfl)) (ci := 5) (q0 := 0) rfl rfl, fun U hU hW => ⟨rfl, m_pay hK hP hE (fun _ _ h => h) U hU hW⟩⟩ rfl rfl hl.1 rfl (lv_room (Nat.le_of_ble_eq_true rfl)) dX5_firstGoesOn_67 ⟨(by show 0 + 0 + 0 + 0 + 0 + (cT tr) ≤ cT tr; omega), (by show 0 + 0 + 0 + 0 + 0 + (pB tr Bd) ≤ pB tr Bd; omega)⟩) hS (fun q _ h => hFc q h) hFc (fun r_6 u t H1 locs ht hvm hpo hB hz1 hk1 hS => ?_)
        obtain rfl := hpo
        obtain ⟨z_2, f_7, f_8, hP1⟩ := hB
        subst f_7
        rw [ht] at hP1
        have hP : mw (dC, dI) vwCl A (TW cy L tr ((T_comes a ((R_get (a 3 li 0) (a 4 li) 0).toNatClampNeg) (R_get (a 3 li 0) (a 4 li) 0) (T_next a ((R_get (a 3 li 0) (a 4 li) 0).toNatClampNeg) ((a 2 li) 1))).1) z_1 z_2) H1 := hP.join (fun _ _ h => h) hk1 hFc hP1 (fun _ _ h => Or.inl h)
        generalize H1 = H at hP hS ⊢
        clear hP1 hk1 hFc
        obtain ⟨b1, eb1⟩ : ∃ z : St, z = (T_comes a ((R_get (a 3 li 0) (a 4 li) 0).toNatClampNeg) (R_get (a 3 li 0) (a 4 li) 0) (T_next a ((R_get (a 3 li 0) (a 4 li) 0).toNatClampNeg) ((a 2 li) 1))).1 := ⟨_, rfl⟩
        rw [← eb1] at hP
        have hwc : Wf (M + 1) b1 := by rw [eb1]; exact T_comes_Wf hv (by omega) hw
        refine lv_if_ne (tgt := 75) hx hb dX5_firstGoesOn_70 (by decide) (fun c_4 => ?_) (fun c_4 => ?_)
        · refine lv_aload_n hx hb dX5_firstGoesOn_75 rfl (lv_at hl 4 rfl) ?_
          refine lv_iload hx hb dX5_firstGoesOn_76 (lv_at hl 0 rfl) ?_
          have hFc := m_free (C := (TW cy L tr b1 z_1 z_2)) hP hS hA (fun _ _ h => h)
          refine va_callv (va_runV (As := [.int (T_next a ((R_get (a 3 li 0) (a 4 li) 0).toNatClampNeg) ((a 2 li) 1))]) (rest := []) ⟨hx, hb, hml, hown, hts⟩ (c_Link_countTurn l dC dI cy L tr b1 z_1 z_2 li (T_next a ((R_get (a 3 li 0) (a 4 li) 0).toNatClampNeg) ((a 2 li) 1)) H.size f_8.1 hl0) (tp_cwV 1 hts tw_343 tw_344 tw_345 tw_23 tw_346 rfl rfl (by decide +kernel) ⟨Nat.le_of_ble_eq_true rfl, Nat.le_of_ble_eq_true rfl⟩) ⟨m_blind, va_recv hK (hP.one (e := .inr (1, [.int ((b1 2 li) 0), .int ((b1 2 li) 1), .int ((b1 2 li) 2), .int ((b1 2 li) 3), .int ((b1 2 li) 4), .int ((b1 2 li) 5), .int ((b1 2 li) 6), .int ((b1 2 li) 7), .int ((b1 2 li) 8), .ref (L 3 li), .ref (L 5 li), .int ((b1 2 li) 9), .int ((b1 2 li) 10), .int ((b1 2 li) 11), .int ((b1 2 li) 12), .ref (L 7 li)])) (tw_mem (f := 2) (i := li) hl0 rfl)) (ci := 1) (q0 := 0) rfl rfl, fun U hU hW => ⟨rfl, m_pay hK hP hE (fun _ _ h => h) U hU hW⟩⟩ rfl rfl hl.1 rfl (lv_room (Nat.le_of_ble_eq_true rfl)) dX5_firstGoesOn_78 ⟨(by show 0 + 0 + 0 + 0 + 0 + (cT tr) + 0 ≤ cT tr; omega), (by show 0 + 0 + 0 + 0 + 0 + (pB tr Bd) + 0 ≤ pB tr Bd; omega)⟩) hS (fun q _ h => hFc q h) hFc (fun u t H1 locs ht hvm hpo hB hz1 hk1 hS => ?_)
          have hP1 := hB
          rw [ht] at hP1
          have hP : mw (dC, dI) vwCl A (TW cy L tr (L_turn b1 li (T_next a ((R_get (a 3 li 0) (a 4 li) 0).toNatClampNeg) ((a 2 li) 1))) z_1 z_2) H1 := hP.join (fun _ _ h => h) hk1 hFc hP1 (fun _ _ h => Or.inl h)
          generalize H1 = H at hP hS ⊢
          clear hP1 hk1 hFc
          obtain ⟨b2, eb2⟩ : ∃ z : St, z = L_turn b1 li (T_next a ((R_get (a 3 li 0) (a 4 li) 0).toNatClampNeg) ((a 2 li) 1)) := ⟨_, rfl⟩
          rw [← eb2] at hP
          refine lv_aload_n hx hb dX5_firstGoesOn_81 rfl (lv_at hl 4 rfl) ?_
          have hFc := m_free (C := (TW cy L tr b2 z_1 z_2)) hP hS hA (fun _ _ h => h)
          refine va_callv (va_runV (As := []) (rest := []) ⟨hx, hb, hml, hown, hts⟩ (c_Link_letFirstGo l dC dI cy L tr b2 z_1 z_2 li H.size f_8.1 hl0 (by rw [eb2]; exact ((L_turn_Wf hwc).2.1 li hl0).2.2.2.2.1.2) (by rw [eb2]; exact ((L_turn_Wf hwc).2.1 li hl0).2.2.2.2.2.2)) (tp_cwV 0 hts tw_347 tw_348 tw_349 tw_23 tw_350 rfl rfl (by decide +kernel) ⟨Nat.le_of_ble_eq_true rfl, Nat.le_of_ble_eq_true rfl⟩) ⟨m_blind, va_recv hK (hP.one (e := .inr (1, [.int ((b2 2 li) 0), .int ((b2 2 li) 1), .int ((b2 2 li) 2), .int ((b2 2 li) 3), .int ((b2 2 li) 4), .int ((b2 2 li) 5), .int ((b2 2 li) 6), .int ((b2 2 li) 7), .int ((b2 2 li) 8), .ref (L 3 li), .ref (L 5 li), .int ((b2 2 li) 9), .int ((b2 2 li) 10), .int ((b2 2 li) 11), .int ((b2 2 li) 12), .ref (L 7 li)])) (tw_mem (f := 2) (i := li) hl0 rfl)) (ci := 1) (q0 := 0) rfl rfl, fun U hU hW => ⟨rfl, m_pay hK hP hE (fun _ _ h => h) U hU hW⟩⟩ rfl rfl hl.1 rfl (lv_room (Nat.le_of_ble_eq_true rfl)) dX5_firstGoesOn_82 ⟨(by show 0 + 0 + 0 + 0 + 0 + (cT tr) + 0 + 0 ≤ cT tr; omega), (by show 0 + 0 + 0 + 0 + 0 + (pB tr Bd) + 0 + 0 ≤ pB tr Bd; omega)⟩) hS (fun q _ h => hFc q h) hFc (fun u t H1 locs ht hvm hpo hB hz1 hk1 hS => ?_)
          have hP1 := hB
          rw [ht] at hP1
          have hP : mw (dC, dI) vwCl A (TW cy L tr (L_go b2 li) z_1 z_2) H1 := hP.join (fun _ _ h => h) hk1 hFc hP1 (fun _ _ h => Or.inl h)
          generalize H1 = H at hP hS ⊢
          clear hP1 hk1 hFc
          obtain ⟨b3, eb3⟩ : ∃ z : St, z = L_go b2 li := ⟨_, rfl⟩
          rw [← eb3] at hP
          refine lv_iconst (v := 1) hx hb dX5_firstGoesOn_85 (by decide) ?_
          refine W.widen (k := cT tr) (n := pB tr Bd) (by show 0 + 0 + 0 + 0 + 0 + (cT tr) + 0 + 0 + 0 ≤ cT tr; omega) (by show 0 + 0 + 0 + 0 + 0 + (pB tr Bd) + 0 + 0 + 0 ≤ pB tr Bd; omega) ?_
          have s_2 : b3 = (T_first a li).1 := by
            rw [eb3, eb2, eb1]
            unfold T_first
            rw [if_neg c_1]
            unfold T_firstV
            simp only [if_neg c_2, if_neg c_3, if_neg c_4]
          rw [s_2] at hP
          have g_3 : 1 = (T_first a li).2 := by
            unfold T_first
            rw [if_neg c_1]
            unfold T_firstV
            simp only [if_neg c_2, if_neg c_3, if_neg c_4]
          have g_4 : Hid L tr ((T_first a li).1) z_1 z_2 := by
            rw [← s_2]
            rw [eb3, eb2, eb1]
            exact Hid.same (T_comes_Wf hv (by omega) hw) (L_turn_sameR.trans L_go_sameR) (L_turn_sameT.trans L_go_sameT) f_8
          exact W.zret (v := 1) hx hb hr rfl (fun t ht hW => ⟨⟨1, 1, rfl, rfl, ⟨z_1, z_2, g_3, g_4, by show mw _ _ _ _ t.heap; rw [ht]; exact hP⟩⟩, hS.F ht⟩) hS.2.2 dX5_firstGoesOn_86
        · refine lv_iconst (v := 0) hx hb dX5_firstGoesOn_73 (by decide) ?_
          refine W.widen (k := cT tr) (n := pB tr Bd) (by show 0 + 0 + 0 + 0 + 0 + (cT tr) + 0 ≤ cT tr; omega) (by show 0 + 0 + 0 + 0 + 0 + (pB tr Bd) + 0 ≤ pB tr Bd; omega) ?_
          have s_3 : b1 = (T_first a li).1 := by
            rw [eb1]
            unfold T_first
            rw [if_neg c_1]
            unfold T_firstV
            simp only [if_neg c_2, if_neg c_3, if_pos c_4]
          rw [s_3] at hP
          have g_5 : 0 = (T_first a li).2 := by
            unfold T_first
            rw [if_neg c_1]
            unfold T_firstV
            simp only [if_neg c_2, if_neg c_3, if_pos c_4]
          have g_6 : Hid L tr ((T_first a li).1) z_1 z_2 := by
            rw [← s_3]
            rw [eb1]
            exact f_8
          exact W.zret (v := 0) hx hb hr rfl (fun t ht hW => ⟨⟨0, 0, rfl, rfl, ⟨z_1, z_2, g_5, g_6, by show mw _ _ _ _ t.heap; rw [ht]; exact hP⟩⟩, hS.F ht⟩) hS.2.2 dX5_firstGoesOn_74
      · refine lv_aload_n hx hb dX5_firstGoesOn_43 rfl (lv_at hl 2 rfl) ?_
        refine lv_aload_n hx hb dX5_firstGoesOn_44 rfl (lv_at hl 0 rfl) ?_
        have hFc := m_free (C := (TW cy L tr a κ τ)) hP hS hA (fun _ _ h => h)
        refine va_callv (va_runV (As := [.ref (L 15 (R_get (a 3 li 0) (a 4 li) 0).toNatClampNeg)]) (rest := []) ⟨hx, hb, hml, hown, hts⟩ (c_Traffic_arrive l dC dI cy L tr a κ τ M ((R_get (a 3 li 0) (a 4 li) 0).toNatClampNeg) H.size hT hw hv) (tp_cwV 1 hts tw_279 tw_281 tw_8 tw_21 tw_282 rfl rfl (by decide +kernel) ⟨Nat.le_of_ble_eq_true rfl, Nat.le_of_ble_eq_true rfl⟩) ⟨m_blind, va_recv hK (hP.one (e := .inr (5, [.ref (L 1 0), .ref (L 20 0), .ref (L 21 0), .ref (L 22 0), .ref (L 23 0), va_rf tr, .int ((a 0 0) 0), .int ((a 0 0) 1), .int ((a 0 0) 2), .int ((a 0 0) 3), .int ((a 0 0) 4), .int ((a 0 0) 5)])) (tw_mem (f := 0) (i := 0) (by decide) rfl)) (ci := 5) (q0 := 0) rfl rfl, fun U hU hW => ⟨rfl, m_pay hK hP hE (fun _ _ h => h) U hU hW⟩⟩ rfl rfl hl.1 rfl (lv_room (Nat.le_of_ble_eq_true rfl)) dX5_firstGoesOn_45 ⟨(by show 0 + 0 + 0 + 0 + 0 ≤ cT tr; omega), (by show 0 + 0 + 0 + 0 + 0 ≤ pB tr Bd; omega)⟩) hS (fun q _ h => hFc q h) hFc (fun u t H1 locs ht hvm hpo hB hz1 hk1 hS => ?_)
        have hP1 := hB
        rw [ht] at hP1
        have hP : mw (dC, dI) vwCl A (TW cy L tr (T_arrive a ((R_get (a 3 li 0) (a 4 li) 0).toNatClampNeg)) κ τ) H1 := hP.join (fun _ _ h => h) hk1 hFc hP1 (fun _ _ h => Or.inl h)
        generalize H1 = H at hP hS ⊢
        clear hP1 hk1 hFc
        obtain ⟨b1, eb1⟩ : ∃ z : St, z = T_arrive a ((R_get (a 3 li 0) (a 4 li) 0).toNatClampNeg) := ⟨_, rfl⟩
        rw [← eb1] at hP
        refine lv_goto (tgt := 81) hx hb dX5_firstGoesOn_48 (by decide) ?_
        refine lv_aload_n hx hb dX5_firstGoesOn_81 rfl (lv_at hl 3 rfl) ?_
        have hFc := m_free (C := (TW cy L tr b1 κ τ)) hP hS hA (fun _ _ h => h)
        refine va_callv (va_runV (As := []) (rest := []) ⟨hx, hb, hml, hown, hts⟩ (c_Link_letFirstGo l dC dI cy L tr b1 κ τ li H.size hT hl0 (by rw [eb1]; exact ((T_arrive_Wf hv hw).2.1 li hl0).2.2.2.2.1.2) (by rw [eb1]; exact ((T_arrive_Wf hv hw).2.1 li hl0).2.2.2.2.2.2)) (tp_cwV 0 hts tw_347 tw_348 tw_349 tw_23 tw_350 rfl rfl (by decide +kernel) ⟨Nat.le_of_ble_eq_true rfl, Nat.le_of_ble_eq_true rfl⟩) ⟨m_blind, va_recv hK (hP.one (e := .inr (1, [.int ((b1 2 li) 0), .int ((b1 2 li) 1), .int ((b1 2 li) 2), .int ((b1 2 li) 3), .int ((b1 2 li) 4), .int ((b1 2 li) 5), .int ((b1 2 li) 6), .int ((b1 2 li) 7), .int ((b1 2 li) 8), .ref (L 3 li), .ref (L 5 li), .int ((b1 2 li) 9), .int ((b1 2 li) 10), .int ((b1 2 li) 11), .int ((b1 2 li) 12), .ref (L 7 li)])) (tw_mem (f := 2) (i := li) hl0 rfl)) (ci := 1) (q0 := 0) rfl rfl, fun U hU hW => ⟨rfl, m_pay hK hP hE (fun _ _ h => h) U hU hW⟩⟩ rfl rfl hl.1 rfl (lv_room (Nat.le_of_ble_eq_true rfl)) dX5_firstGoesOn_82 ⟨(by show 0 + 0 + 0 + 0 + 0 + 0 ≤ cT tr; omega), (by show 0 + 0 + 0 + 0 + 0 + 0 ≤ pB tr Bd; omega)⟩) hS (fun q _ h => hFc q h) hFc (fun u t H1 locs ht hvm hpo hB hz1 hk1 hS => ?_)
        have hP1 := hB
        rw [ht] at hP1
        have hP : mw (dC, dI) vwCl A (TW cy L tr (L_go b1 li) κ τ) H1 := hP.join (fun _ _ h => h) hk1 hFc hP1 (fun _ _ h => Or.inl h)
        generalize H1 = H at hP hS ⊢
        clear hP1 hk1 hFc
        obtain ⟨b2, eb2⟩ : ∃ z : St, z = L_go b1 li := ⟨_, rfl⟩
        rw [← eb2] at hP
        refine lv_iconst (v := 1) hx hb dX5_firstGoesOn_85 (by decide) ?_
        refine W.widen (k := cT tr) (n := pB tr Bd) (by show 0 + 0 + 0 + 0 + 0 + 0 + 0 ≤ cT tr; omega) (by show 0 + 0 + 0 + 0 + 0 + 0 + 0 ≤ pB tr Bd; omega) ?_
        have s_4 : b2 = (T_first a li).1 := by
          rw [eb2, eb1]
          unfold T_first
          rw [if_neg c_1]
          unfold T_firstV
          simp only [if_neg c_2, if_pos c_3]
        rw [s_4] at hP
        have g_7 : 1 = (T_first a li).2 := by
          unfold T_first
          rw [if_neg c_1]
          unfold T_firstV
          simp only [if_neg c_2, if_pos c_3]
        have g_8 : Hid L tr ((T_first a li).1) κ τ := by
          rw [← s_4]
          rw [eb2, eb1]
          exact Hid.same hw (T_arrive_sameR.trans L_go_sameR) (T_arrive_sameT.trans L_go_sameT) hh
        exact W.zret (v := 1) hx hb hr rfl (fun t ht hW => ⟨⟨1, 1, rfl, rfl, ⟨κ, τ, g_7, g_8, by show mw _ _ _ _ t.heap; rw [ht]; exact hP⟩⟩, hS.F ht⟩) hS.2.2 dX5_firstGoesOn_86
    · refine lv_iconst (v := 0) hx hb dX5_firstGoesOn_30 (by decide) ?_
      refine W.widen (k := cT tr) (n := pB tr Bd) (by show 0 + 0 + 0 + 0 + 0 ≤ cT tr; omega) (by show 0 + 0 + 0 + 0 + 0 ≤ pB tr Bd; omega) ?_
      have s_5 : a = (T_first a li).1 := by
        unfold T_first
        rw [if_neg c_1]
        unfold T_firstV
        simp only [if_pos c_2]
      rw [s_5] at hP
      have g_9 : 0 = (T_first a li).2 := by
        unfold T_first
        rw [if_neg c_1]
        unfold T_firstV
        simp only [if_pos c_2]
      have g_10 : Hid L tr ((T_first a li).1) κ τ := by
        rw [← s_5]
        exact hh
      exact W.zret (v := 0) hx hb hr rfl (fun t ht hW => ⟨⟨0, 0, rfl, rfl, ⟨κ, τ, g_9, g_10, by show mw _ _ _ _ t.heap; rw [ht]; exact hP⟩⟩, hS.F ht⟩) hS.2.2 dX5_firstGoesOn_31
end
section
/-! what a tick's loops need -/
theorem in_nat {i n : Nat} (h : i ≤ n) (hn : n < 1000000) : in_ (nI i) n := by
  have h1 := nI_toInt (n := i) (by omega)
  exact ⟨by omega, by omega⟩
theorem itN_up {g : Nat → St → St} {M k N : Nat} {a : St} (h : Wf M a) (hs : ∀ (i K : Nat) (b : St), i < N → K ≤ M + k * i → Wf K b → Wf (K + k) (g i b)) : ∀ n, n ≤ N → Wf (M + k * n) (itN g n a)
  | 0, _ => h
  | n + 1, hn => by
    have h1 := hs n (M + k * n) _ (by omega) (Nat.le_refl _) (itN_up h hs n (by omega))
    rw [Nat.mul_succ, ← Nat.add_assoc]
    exact h1
theorem T_nodes_Wf {M : Nat} {a : St} (h : Wf M a) (hM : M < 800000) : Wf (M + 12) (T_nodes a) := (itN_up (k := 1) (N := nN a) h (fun i K b hi hK hb => T_node_Wf (Nat.lt_of_lt_of_le hi (in_le h.1.2.1)) (by have : nN a ≤ 12 := in_le h.1.2.1; omega) hb) _ (Nat.le_refl _)).mono (by have : nN a ≤ 12 := in_le h.1.2.1; omega)
theorem T_comes_off {a : St} {v : Nat} {vn nx : Int32} {g j : Nat} (h2 : g ≠ 2) (h3 : g ≠ 3) (h4 : g ≠ 4) (h5 : g ≠ 5) (h6 : g ≠ 6) (h15 : g ≠ 15) (h30 : g ≠ 30) : (T_comes a v vn nx).1 g j = a g j := by
  unfold T_comes
  split
  · rfl
  · split
    · rfl
    · exact T_onto_off h2 h3 h4 h5 h6 h15 h30
theorem T_node_off {a : St} {n g j : Nat} (h2 : g ≠ 2) (h3 : g ≠ 3) (h4 : g ≠ 4) (h5 : g ≠ 5) (h6 : g ≠ 6) (h12 : g ≠ 12) (h13 : g ≠ 13) (h15 : g ≠ 15) (h30 : g ≠ 30) : T_node n a g j = a g j := by
  unfold T_node T_nodeV
  split
  · rfl
  · split
    · exact T_comes_off h2 h3 h4 h5 h6 h15 h30
    · rw [R_drop_off h12 h13, T_comes_off h2 h3 h4 h5 h6 h15 h30]
theorem fmod_in {x y : Int32} {N : Nat} (hx : 0 ≤ x.toInt) (hy : y = nI N) (h0 : 0 < N) (hN : N ≤ 24) : ∃ f, f < N ∧ fmod x y = nI f := by
  subst hy
  have hx2 := m_n0 hx
  have hb : x.toNatClampNeg < 2 ^ 31 := by
    have := m_tn hx
    have := x.toInt_lt
    omega
  generalize x.toNatClampNeg = c at hx2 hb
  subst hx2
  have e : nI c - nI c / nI N * nI N = nI (c % N) := pk_rem hb h0 (by omega)
  refine ⟨c % N, Nat.mod_lt _ h0, ?_⟩
  unfold fmod
  rw [e]
  split
  · rfl
  · rename_i h9
    refine absurd ?_ h9
    have h1 : nI c ^^^ nI N = nI (c ^^^ N) := by
      apply Int32.toBitVec_inj.1
      show BitVec.ofNat 32 c ^^^ BitVec.ofNat 32 N = BitVec.ofNat 32 (c ^^^ N)
      apply BitVec.eq_of_getLsbD_eq
      intro i hi
      simp [hi]
    rw [h1]
    exact nI_pos' (Nat.xor_lt_two_pow hb (by omega))
theorem lnum_in {f N i : Nat} (hf : f < N) (hi : i < N) (hN : N ≤ 24) : ∃ r, T_lnum (nI f) (nI N) i = nI r ∧ r < N := by
  unfold T_lnum
  rw [nI_add]
  by_cases h : N ≤ f + i
  · rw [if_pos (nI_le h (by omega)), pk_sub h]
    exact ⟨_, rfl, by omega⟩
  · rw [if_neg (nI_ge (by omega) (by omega))]
    exact ⟨_, rfl, by omega⟩
theorem T_many_Wf {l : Nat} (hl : l < 24) : ∀ (d M : Nat) (a : St), M + d < 900000 → Wf M a → Wf (M + d) (T_many l d a)
  | 0, _, _, _, h => h
  | d + 1, M, a, hM, h => by
    have h1 := T_first_Wf hl (by omega) h
    unfold T_many
    split
    · exact h1.mono (by omega)
    · have h2 := T_many_Wf hl d (M + 1) _ (by omega) h1
      rw [show M + (d + 1) = M + 1 + d by omega]
      exact h2
theorem T_most_3 {M : Nat} {a : St} {l : Nat} (hl : l < 24) (h : Wf M a) : (T_most a l).toNatClampNeg ≤ 3 := by
  have h1 := (h.2.1 l hl).2.2.2.1
  unfold T_most
  split
  · exact Nat.zero_le _
  · show (a 2 l 5).toInt.toNat ≤ 3
    omega
theorem T_link_Wf {f n : Int32} {i : Nat} {K : Nat} {b : St} (hl : (T_lnum f n i).toNatClampNeg < 24) (hK : K < 800000) (h : Wf K b) : Wf (K + 3) (T_link f n i b) := by
  have h3 := T_most_3 hl h
  exact (T_many_Wf hl _ K b (by omega) h).mono (by omega)
theorem T_first_1 {a : St} {l j : Nat} : (T_first a l).1 1 j = a 1 j := by
  have ar : ∀ v, T_arrive a v 1 j = a 1 j := fun v => by
    unfold T_arrive T_arr2 T_arr1
    split
    · rw [S2_nf (by decide)]
      exact S2_nf (by decide)
    · split
      · rw [S2_nf (by decide)]
        exact S2_nf (by decide)
      · unfold F_trip
        rw [S2_nf (by decide), S2_nf (by decide)]
        exact S2_nf (by decide)
  unfold T_first T_firstV
  split
  · rfl
  · split
    · rfl
    · split
      · dsimp only
        rw [L_go_off (by decide) (by decide) (by decide) (by decide) (by decide), ar]
      · split
        · exact T_comes_off (by decide) (by decide) (by decide) (by decide) (by decide) (by decide) (by decide)
        · dsimp only
          rw [L_go_off (by decide) (by decide) (by decide) (by decide) (by decide), L_turn_off (by decide)]
          exact T_comes_off (by decide) (by decide) (by decide) (by decide) (by decide) (by decide) (by decide)
theorem T_many_1 {l j : Nat} : ∀ (d : Nat) (a : St), T_many l d a 1 j = a 1 j
  | 0, _ => rfl
  | d + 1, a => by
    unfold T_many
    split
    · exact T_first_1
    · rw [T_many_1 d, T_first_1]
theorem m_leN {x : Int32} {k : Nat} (h : x.toNatClampNeg ≤ k) (hk : k < 1000000) : x ≤ nI k := by
  rw [Int32.le_iff_toInt_le, nI_toInt (by omega)]
  have h1 : x.toInt.toNat ≤ k := h
  omega
theorem m_ltN {x : Int32} {k : Nat} (h : k < x.toNatClampNeg) (hk : k < 1000000) : ¬ x ≤ nI k := by
  rw [Int32.le_iff_toInt_le, nI_toInt (by omega)]
  have h1 : k < x.toInt.toNat := h
  omega
theorem T_links_Wf {M : Nat} {a : St} (h : Wf M a) (hM : M < 700000) (hc : 0 ≤ (a 0 0 0).toInt) : Wf (M + 72) (T_links a) := by
  unfold T_links
  split
  · rename_i h1
    have hn : nL a ≤ 24 := in_le h.1.1
    have h0 : 0 < nL a := by
      have h2 : (1 : Int32).toInt ≤ (a 1 0 0).toInt := Int32.le_iff_toInt_le.mp h1
      have h3 : ((nL a : Nat) : Int) = (a 1 0 0).toInt := m_tn h.1.1.1
      have h4 : (1 : Int32).toInt = 1 := rfl
      omega
    obtain ⟨f, hf, ef⟩ := fmod_in (N := nL a) hc (in_nI h.1.1) h0 hn
    refine (itN_up (k := 3) (N := nL a) h (fun i K b hi hK hb => T_link_Wf ?_ (by omega) hb) _ (Nat.le_refl _)).mono (by omega)
    obtain ⟨r, e, hr⟩ := lnum_in hf hi hn
    rw [ef, in_nI h.1.1, e, nI_clamp (by omega)]
    omega
  · exact h.mono (by omega)
theorem m_tot {p i n : Nat} (h : i ≤ n) : p * i ≤ n * p := by
  rw [Nat.mul_comm]
  exact Nat.mul_le_mul_right _ h
theorem m_tot3 {p i : Nat} (h : i ≤ 3) : p * i ≤ 3 * p := m_tot h
theorem m_tot72 {p i : Nat} (h : i ≤ 24) : 3 * p * i ≤ 72 * p := by
  have h1 : 3 * p * i ≤ 24 * (3 * p) := m_tot h
  have h2 : 24 * (3 * p) = 72 * p := by rw [← Nat.mul_assoc]
  omega
/-- a contract by its body, for a method of a class in which others, not it, are run by the machine itself -/
theorem m_ofWF {l : Launch} {y : MethodName} {ws ws' : List Cond} {rm : Room} {Pc : Array Value → State → Prop} {Qc : Array Value → State → Outcome → State → Prop} {mc ms : Nat} {free : Addr → Prop} {cc : ByteArray} {maxL : Nat} {ret : Option FieldType} (hy : plainFor y = true) (hw : ws = Cond.code y cc maxL ret :: ws')
    (body : ∀ p e s m args below meth c s₁, BodyLoose p l y (headSpec ws rm) cc maxL ret e s m args below meth c s₁ → c.maxLocals = maxL → Pc args s → W p l e (headSpec ws rm).room s m args below meth c s.heap [] 0 0 (MQ below Qc args s mc ms free) (entryFrame m args maxL)) : Met l y ws rm Pc Qc mc ms free := by
  refine MetFree.of_bodySF (code := cc) (maxLocals := maxL) (ret := ret) hy (fun args s m h hn => ?_) (fun p e s m args below meth c s₁ B hml hP _ => ?_)
  · obtain ⟨meth, c, h1, h2, h3, h4, h5, h6, -, -⟩ := Cond.code_spec hn (atoms_spec (ws := ws) h _ (by rw [hw]; exact List.mem_cons_self))
    exact ⟨meth, c, h1, h2, h3, h4, h5, h6⟩
  · obtain ⟨t, a1, o, b1, b2, b3, b4⟩ := body p e s m args below meth c s₁ B hml hP s₁ (by rw [B.state]; rfl) (Stand.of_body B)
    exact ⟨t, o, a1, b1, b2, b3, b4⟩
theorem L2_sameT {a : St} {i : Nat} {x : Nat → Int32} : sameT a (S2 a 2 i x) := sameT.off (by decide) (by decide) (by decide)
theorem G_slow_sameT {a : St} : sameT a (G_slow a) := itN_keep (P := fun b => sameT a b) (sameT.refl a) (fun _ _ h => h.trans L2_sameT) _
theorem G_reck_sameT {a : St} {tk : Int32} : sameT a (G_reck a tk) := itN_keep (P := fun b => sameT a b) (sameT.refl a) (fun _ _ h => h.trans L2_sameT) _
theorem G_cq_sameT {a : St} {tk : Int32} : sameT a (G_cq a tk) := itN_keep (P := fun b => sameT a b) (sameT.refl a) (fun _ _ h => h.trans L2_sameT) _
end
section
theorem tw_360 : Cond.methodLink RX5 205 yX3_dropFirst ∈ tp_all := tp_mem 360 (by decide +kernel) rfl
theorem dX5_driveFromNodes_0 : decode cX5_driveFromNodes 0 = .ok (.iconst 0, 1) := by decide +kernel
theorem dX5_driveFromNodes_1 : decode cX5_driveFromNodes 1 = .ok (.istore_n 1, 1) := by decide +kernel
theorem dX5_driveFromNodes_2 : decode cX5_driveFromNodes 2 = .ok (.iload_n 1, 1) := by decide +kernel
theorem dX5_driveFromNodes_3 : decode cX5_driveFromNodes 3 = .ok (.aload_n 0, 1) := by decide +kernel
theorem dX5_driveFromNodes_4 : decode cX5_driveFromNodes 4 = .ok (.getfield 128, 3) := by decide +kernel
theorem dX5_driveFromNodes_7 : decode cX5_driveFromNodes 7 = .ok (.if_icmp .ge 54, 3) := by decide +kernel
theorem dX5_driveFromNodes_61 : decode cX5_driveFromNodes 61 = .ok (.return_, 1) := by decide +kernel
theorem dX5_driveFromNodes_10 : decode cX5_driveFromNodes 10 = .ok (.aload_n 0, 1) := by decide +kernel
theorem dX5_driveFromNodes_11 : decode cX5_driveFromNodes 11 = .ok (.getfield 26, 3) := by decide +kernel
theorem dX5_driveFromNodes_14 : decode cX5_driveFromNodes 14 = .ok (.iload_n 1, 1) := by decide +kernel
theorem dX5_driveFromNodes_15 : decode cX5_driveFromNodes 15 = .ok (.aaload, 1) := by decide +kernel
theorem dX5_driveFromNodes_16 : decode cX5_driveFromNodes 16 = .ok (.iconst 0, 1) := by decide +kernel
theorem dX5_driveFromNodes_17 : decode cX5_driveFromNodes 17 = .ok (.invokevirtual 175, 3) := by decide +kernel
theorem dX5_driveFromNodes_20 : decode cX5_driveFromNodes 20 = .ok (.istore_n 2, 1) := by decide +kernel
theorem dX5_driveFromNodes_21 : decode cX5_driveFromNodes 21 = .ok (.aload_n 0, 1) := by decide +kernel
theorem dX5_driveFromNodes_22 : decode cX5_driveFromNodes 22 = .ok (.iload_n 2, 1) := by decide +kernel
theorem dX5_driveFromNodes_23 : decode cX5_driveFromNodes 23 = .ok (.invokevirtual 179, 3) := by decide +kernel
theorem dX5_driveFromNodes_26 : decode cX5_driveFromNodes 26 = .ok (.astore_n 3, 1) := by decide +kernel
theorem dX5_driveFromNodes_27 : decode cX5_driveFromNodes 27 = .ok (.aload_n 3, 1) := by decide +kernel
theorem dX5_driveFromNodes_28 : decode cX5_driveFromNodes 28 = .ok (.ifnull 27, 3) := by decide +kernel
theorem dX5_driveFromNodes_55 : decode cX5_driveFromNodes 55 = .ok (.iinc 1 1, 3) := by decide +kernel
theorem dX5_driveFromNodes_58 : decode cX5_driveFromNodes 58 = .ok (.goto (-56), 3) := by decide +kernel
theorem dX5_driveFromNodes_31 : decode cX5_driveFromNodes 31 = .ok (.aload_n 0, 1) := by decide +kernel
theorem dX5_driveFromNodes_32 : decode cX5_driveFromNodes 32 = .ok (.iload_n 2, 1) := by decide +kernel
theorem dX5_driveFromNodes_33 : decode cX5_driveFromNodes 33 = .ok (.aload_n 3, 1) := by decide +kernel
theorem dX5_driveFromNodes_34 : decode cX5_driveFromNodes 34 = .ok (.aload_n 0, 1) := by decide +kernel
theorem dX5_driveFromNodes_35 : decode cX5_driveFromNodes 35 = .ok (.aload_n 3, 1) := by decide +kernel
theorem dX5_driveFromNodes_36 : decode cX5_driveFromNodes 36 = .ok (.iload_n 1, 1) := by decide +kernel
theorem dX5_driveFromNodes_37 : decode cX5_driveFromNodes 37 = .ok (.invokevirtual 191, 3) := by decide +kernel
theorem dX5_driveFromNodes_40 : decode cX5_driveFromNodes 40 = .ok (.invokevirtual 195, 3) := by decide +kernel
theorem dX5_driveFromNodes_43 : decode cX5_driveFromNodes 43 = .ok (.ifCond .eq 12, 3) := by decide +kernel
theorem dX5_driveFromNodes_46 : decode cX5_driveFromNodes 46 = .ok (.aload_n 0, 1) := by decide +kernel
theorem dX5_driveFromNodes_47 : decode cX5_driveFromNodes 47 = .ok (.getfield 26, 3) := by decide +kernel
theorem dX5_driveFromNodes_50 : decode cX5_driveFromNodes 50 = .ok (.iload_n 1, 1) := by decide +kernel
theorem dX5_driveFromNodes_51 : decode cX5_driveFromNodes 51 = .ok (.aaload, 1) := by decide +kernel
theorem dX5_driveFromNodes_52 : decode cX5_driveFromNodes 52 = .ok (.invokevirtual 205, 3) := by decide +kernel
theorem dJ9_floorMod_7cf53_0 : decode cJ9_floorMod_7cf53 0 = .ok (.iload_n 0, 1) := by decide +kernel
theorem dJ9_floorMod_7cf53_1 : decode cJ9_floorMod_7cf53 1 = .ok (.iload_n 1, 1) := by decide +kernel
theorem dJ9_floorMod_7cf53_2 : decode cJ9_floorMod_7cf53 2 = .ok (.irem, 1) := by decide +kernel
theorem dJ9_floorMod_7cf53_3 : decode cJ9_floorMod_7cf53 3 = .ok (.istore_n 2, 1) := by decide +kernel
theorem dJ9_floorMod_7cf53_4 : decode cJ9_floorMod_7cf53 4 = .ok (.iload_n 0, 1) := by decide +kernel
theorem dJ9_floorMod_7cf53_5 : decode cJ9_floorMod_7cf53 5 = .ok (.iload_n 1, 1) := by decide +kernel
theorem dJ9_floorMod_7cf53_6 : decode cJ9_floorMod_7cf53 6 = .ok (.ixor, 1) := by decide +kernel
theorem dJ9_floorMod_7cf53_7 : decode cJ9_floorMod_7cf53 7 = .ok (.ifCond .ge 11, 3) := by decide +kernel
theorem dJ9_floorMod_7cf53_18 : decode cJ9_floorMod_7cf53 18 = .ok (.iload_n 2, 1) := by decide +kernel
theorem dJ9_floorMod_7cf53_19 : decode cJ9_floorMod_7cf53 19 = .ok (.ireturn, 1) := by decide +kernel
theorem dJ9_floorMod_7cf53_10 : decode cJ9_floorMod_7cf53 10 = .ok (.iload_n 2, 1) := by decide +kernel
theorem dJ9_floorMod_7cf53_11 : decode cJ9_floorMod_7cf53 11 = .ok (.ifCond .eq 7, 3) := by decide +kernel
theorem dJ9_floorMod_7cf53_14 : decode cJ9_floorMod_7cf53 14 = .ok (.iload_n 2, 1) := by decide +kernel
theorem dJ9_floorMod_7cf53_15 : decode cJ9_floorMod_7cf53 15 = .ok (.iload_n 1, 1) := by decide +kernel
theorem dJ9_floorMod_7cf53_16 : decode cJ9_floorMod_7cf53 16 = .ok (.iadd, 1) := by decide +kernel
theorem dJ9_floorMod_7cf53_17 : decode cJ9_floorMod_7cf53 17 = .ok (.ireturn, 1) := by decide +kernel
set_option maxRecDepth 100000 in
set_option maxHeartbeats 4000000 in
/-- Traffic.driveFromNodes -/
theorem c_Traffic_driveFromNodes (l : Launch) (dC : Nat → ClassId) (dI : Nat → Nat → Nat) (cy : Nat → ClassId) (L : Lay) (tr : Option Nat) (a : St) (κ : Kap) (τ : Tau) (M : Nat) (Bd : Nat) (sz : Nat) (hT : TL L tr τ) (hw : Wf M a) (hh : Hid L tr a κ τ) (hMB : M + 12 ≤ Bd) (hB2 : Bd < 30000) : Met l yX5_driveFromNodes (tp_w yX5_driveFromNodes cX5_driveFromNodes 4 none) ({ frames := 4, cells := 12 * cT tr, slots := 12 * pB tr Bd, locals := 99 }) (va_Pc [.ref (L 0 0)] (mPre dC dI cy (TW cy L tr a κ τ) sz)) (va_Qv (fun _ : Unit => True) (fun (_ : Unit) (t : State) => ∃ (κ2 : Kap), ∃ (τ2 : Tau), (Hid L tr (T_nodes a) κ2 τ2) ∧ mw (dC, dI) vwCl (mA (TW cy L tr a κ τ) sz) (TW cy L tr (T_nodes a) κ2 τ2) t.heap) (mA (TW cy L tr a κ τ) sz)) (12 * cT tr) (12 * pB tr Bd) (mA (TW cy L tr a κ τ) sz) := by
  refine Met.ofW (cc := cX5_driveFromNodes) (maxL := 4) (ret := none) (by decide) rfl ?_
  intro p e s m args below meth c s₁ B hml hv
  obtain ⟨rfl, hsz, hP, hK, hE⟩ := hv
  have hx := B.exec
  have hb := B.bytes
  have hr := B.returns
  have hts0 := atoms_spec (ws := tp_w yX5_driveFromNodes cX5_driveFromNodes 4 none) B.pre
  have hts : ∀ w ∈ tp_all, w.before _ s = true := fun w h => hts0 w (List.mem_cons_of_mem _ h)
  have hown : s.vm.findClass RX5 = some m.cls := findClass_of_methodNamed B.named
  have hlocks := B.notSynchronized
  subst hsz
  have hP := hP.self s.heap.size
  generalize hAe : mA (TW cy L tr a κ τ) s.heap.size = A at hP ⊢
  have hA : ∀ q : Nat, s.heap.size ≤ q → A q := fun q h => by rw [← hAe]; exact Or.inr h
  have hS : va_S A s.heap s.heap [] := va_S.rf
  have hl9 := lv_entry ([.ref (L 0 0)]) (n := 4) (Nat.le_of_ble_eq_true rfl)
  rw [lg_entry_eq]
  generalize (lg_sl ([.ref (L 0 0)]) ++ List.replicate (4 - (lg_sl ([.ref (L 0 0)])).length) Slot.unset).toArray = ls at hl9 ⊢
  have hl : lv_has ls 4 [(0, .ref (L 0 0))] := hl9
  refine lv_iconst (v := 0) hx hb dX5_driveFromNodes_0 (by decide) ?_
  refine lv_istore_n (lv' := [(1, .int 0), (0, .ref (L 0 0))]) hx hb dX5_driveFromNodes_1 rfl hl (by decide) rfl (fun ls hl => ?_)
  have hN : nN a ≤ 12 := in_le hw.1.2.1
  refine W.widen (k := (fun i => 0 + cT tr * i) 0) (n := (fun i => 0 + pB tr Bd * i) 0) (Nat.le_refl _) (Nat.le_refl _) ?_
  refine tp_for (σ := Kap × Tau) (nN a) (fun i => 0 + cT tr * i) (fun i => 0 + pB tr Bd * i) (fun (i : Nat) (x : Kap × Tau) (H : Heap) (locs : List Loc) (ls : Array Slot) => Hid L tr (itN (T_node) i a) x.1 x.2 ∧ mw (dC, dI) vwCl A (TW cy L tr (itN (T_node) i a) x.1 x.2) H ∧ va_S A s.heap H locs ∧ lv_has ls 4 [(1, .int (nI i)), (0, .ref (L 0 0))]) ?_ ?_ (nN a) 0 (Nat.zero_add _) (κ, τ) _ _ ls ⟨hh, hP, hS, lv_sub hl [0, 1] rfl⟩
  · rintro ⟨κ9, τ9⟩ H locs ls ⟨hh9, hP, hS, hl⟩
    have hl : lv_has ls 4 [(1, .int (nI (nN a))), (0, .ref (L 0 0))] := hl
    have hP : mw (dC, dI) vwCl A (TW cy L tr (itN (T_node) (nN a) a) κ9 τ9) H := hP
    have hh9 : Hid L tr (itN (T_node) (nN a) a) κ9 τ9 := hh9
    show W _ _ _ _ _ _ _ _ _ _ _ _ (0 + cT tr * (nN a)) (0 + pB tr Bd * (nN a)) _ _
    obtain ⟨b1, eb1⟩ : ∃ z : St, z = itN (T_node) (nN a) a := ⟨_, rfl⟩
    rw [← eb1] at hP
    rw [← eb1] at hh9
    have q3 : cT tr * (nN a) ≤ 12 * cT tr := m_tot hN
    have q4 : pB tr Bd * (nN a) ≤ 12 * pB tr Bd := m_tot hN
    have h0b1 : b1 0 0 2 = a 0 0 2 := by rw [eb1]; exact itN_keep (P := fun b => b 0 0 2 = a 0 0 2) rfl (fun i b h => by rw [T_node_off (by decide) (by decide) (by decide) (by decide) (by decide) (by decide) (by decide) (by decide) (by decide)]; exact h) _
    refine lv_iload_n hx hb dX5_driveFromNodes_2 rfl (lv_at hl 0 rfl) ?_
    refine lv_aload_n hx hb dX5_driveFromNodes_3 rfl (lv_at hl 1 rfl) ?_
    refine va_get (D := (dC, dI)) (ws := [(L 0 0, .inr (5, [.ref (L 1 0), .ref (L 20 0), .ref (L 21 0), .ref (L 22 0), .ref (L 23 0), va_rf tr, .int ((b1 0 0) 0), .int ((b1 0 0) 1), .int ((b1 0 0) 2), .int ((b1 0 0) 3), .int ((b1 0 0) 4), .int ((b1 0 0) 5)]))]) (ci := 5) (v := .int ((b1 0 0) 2)) (C := RX5) (T := TX5) (N := 12) hx hb hts tl_X5 hown hK (hP.one (tw_mem (f := 0) (i := 0) (by decide) rfl)) 0 rfl rfl 8 (by decide) (hts _ tw_890) (fun _ h9 => h9) rfl dX5_driveFromNodes_4 ?_
    refine W.eq (g2 := F0 m 7 ls [.int (nI (nN a)), .int (nI (nN a))]) (by rw [h0b1, in_nI hw.1.2.1]) ?_
    refine lv_icmp_ge (tgt := 61) hx hb dX5_driveFromNodes_7 (by decide) (fun _ => ?_) (fun c_1 => absurd (Int32.le_refl _) c_1)
    refine W.widen (k := 12 * cT tr) (n := 12 * pB tr Bd) (by show 0 + cT tr * (nN a) + 0 ≤ 12 * cT tr; omega) (by show 0 + pB tr Bd * (nN a) + 0 ≤ 12 * pB tr Bd; omega) ?_
    have s_1 : b1 = T_nodes a := by
      rw [eb1]
      rfl
    rw [s_1] at hP
    have g_1 : Hid L tr (T_nodes a) κ9 τ9 := by
      rw [← s_1]
      exact hh9
    exact W.vret hx hb hr (fun t ht hW => ⟨⟨(), rfl, trivial, ⟨κ9, τ9, g_1, by show mw _ _ _ _ t.heap; rw [ht]; exact hP⟩⟩, hS.F ht⟩) hS.2.2 dX5_driveFromNodes_61
  · rintro i ⟨κ9, τ9⟩ H locs ls hi ⟨hh9, hP, hS, hl⟩ ih
    have hl : lv_has ls 4 [(1, .int (nI i)), (0, .ref (L 0 0))] := hl
    have hP : mw (dC, dI) vwCl A (TW cy L tr (itN (T_node) i a) κ9 τ9) H := hP
    have hh9 : Hid L tr (itN (T_node) i a) κ9 τ9 := hh9
    show W _ _ _ _ _ _ _ _ _ _ _ _ (0 + cT tr * i) (0 + pB tr Bd * i) _ _
    obtain ⟨b1, eb1⟩ : ∃ z : St, z = itN (T_node) i a := ⟨_, rfl⟩
    rw [← eb1] at hP
    rw [← eb1] at hh9
    have q1 : cT tr * i + cT tr = cT tr * (i + 1) := (Nat.mul_succ _ _).symm
    have q2 : pB tr Bd * i + pB tr Bd = pB tr Bd * (i + 1) := (Nat.mul_succ _ _).symm
    have q3 : cT tr * (i + 1) ≤ 12 * cT tr := m_tot (by omega)
    have q4 : pB tr Bd * (i + 1) ≤ 12 * pB tr Bd := m_tot (by omega)
    have h0b1 : b1 0 0 2 = a 0 0 2 := by rw [eb1]; exact itN_keep (P := fun b => b 0 0 2 = a 0 0 2) rfl (fun i b h => by rw [T_node_off (by decide) (by decide) (by decide) (by decide) (by decide) (by decide) (by decide) (by decide) (by decide)]; exact h) _
    have hwb1 : Wf (M + 1 * i) b1 := by rw [eb1]; exact itN_up (k := 1) (N := nN a) hw (fun j K b hj hK hb => T_node_Wf (Nat.lt_of_lt_of_le hj (in_le hw.1.2.1)) (by omega) hb) i (Nat.le_of_lt hi)
    refine lv_iload_n hx hb dX5_driveFromNodes_2 rfl (lv_at hl 0 rfl) ?_
    refine lv_aload_n hx hb dX5_driveFromNodes_3 rfl (lv_at hl 1 rfl) ?_
    refine va_get (D := (dC, dI)) (ws := [(L 0 0, .inr (5, [.ref (L 1 0), .ref (L 20 0), .ref (L 21 0), .ref (L 22 0), .ref (L 23 0), va_rf tr, .int ((b1 0 0) 0), .int ((b1 0 0) 1), .int ((b1 0 0) 2), .int ((b1 0 0) 3), .int ((b1 0 0) 4), .int ((b1 0 0) 5)]))]) (ci := 5) (v := .int ((b1 0 0) 2)) (C := RX5) (T := TX5) (N := 12) hx hb hts tl_X5 hown hK (hP.one (tw_mem (f := 0) (i := 0) (by decide) rfl)) 0 rfl rfl 8 (by decide) (hts _ tw_890) (fun _ h9 => h9) rfl dX5_driveFromNodes_4 ?_
    refine W.eq (g2 := F0 m 7 ls [.int (nI (nN a)), .int (nI i)]) (by rw [h0b1, in_nI hw.1.2.1]) ?_
    refine lv_icmp_ge (tgt := 61) hx hb dX5_driveFromNodes_7 (by decide) (fun c_2 => absurd c_2 (nI_ge hi (by omega))) (fun _ => ?_)
    refine lv_aload_n hx hb dX5_driveFromNodes_10 rfl (lv_at hl 1 rfl) ?_
    refine va_get (D := (dC, dI)) (ws := [(L 0 0, .inr (5, [.ref (L 1 0), .ref (L 20 0), .ref (L 21 0), .ref (L 22 0), .ref (L 23 0), va_rf tr, .int ((b1 0 0) 0), .int ((b1 0 0) 1), .int ((b1 0 0) 2), .int ((b1 0 0) 3), .int ((b1 0 0) 4), .int ((b1 0 0) 5)]))]) (ci := 5) (v := .ref (L 21 0)) (C := RX5) (T := TX5) (N := 12) hx hb hts tl_X5 hown hK (hP.one (tw_mem (f := 0) (i := 0) (by decide) rfl)) 0 rfl rfl 2 (by decide) (hts _ tw_877) (fun _ h9 => h9) rfl dX5_driveFromNodes_11 ?_
    refine lv_iload_n hx hb dX5_driveFromNodes_14 rfl (lv_at hl 0 rfl) ?_
    have j_1 : (nI i : Int32).toNatClampNeg = i := m_cl rfl (Nat.lt_of_lt_of_le hi hN) (by decide)
    refine va_aldq hx hb hK (ws := [(L 21 0, .inl (cy 5, 12, .inr (.inr (.inr (.inr (fun j => some (L 12 j)))))))]) (hP.one (tw_mem (f := 21) (i := 0) (by decide) rfl)) 0 5 rfl rfl (m_in rfl (Nat.lt_of_lt_of_le hi hN) (by decide)) dX5_driveFromNodes_15 ?_
    refine W.eq (g2 := F0 m 16 ls [.ref (L 12 i)]) (by first | (rw [j_1]; done) | (rw [j_1]; rfl)) ?_
    refine lv_iconst (v := 0) hx hb dX5_driveFromNodes_16 (by decide) ?_
    have hFc := m_free (C := (TW cy L tr b1 κ9 τ9)) hP hS hA (fun _ _ h => h)
    refine va_calli (va_runV (As := [.int 0]) (rest := []) ⟨hx, hb, hml, hown, hts⟩ (c_Row_get_wait l dC dI cy L tr b1 κ9 τ9 i 0 H.size hh9.1 (Nat.lt_of_lt_of_le hi hN) (hwb1.2.2.1 i (Nat.lt_of_lt_of_le hi hN)).2.2) (tp_cwV 1 hts tw_273 tw_187 tw_188 tw_24 tw_189 rfl rfl (by decide +kernel) ⟨Nat.le_of_ble_eq_true rfl, Nat.le_of_ble_eq_true rfl⟩) ⟨m_blind, va_recv hK (hP.one (e := .inr (3, [.ref (L 13 i), .int ((b1 12 i) 0)])) (tw_mem (f := 12) (i := i) (Nat.lt_of_lt_of_le hi hN) rfl)) (ci := 3) (q0 := 0) rfl rfl, fun U hU hW => ⟨rfl, m_pay hK hP hE (fun _ _ h => h) U hU hW⟩⟩ rfl rfl hl.1 rfl (lv_room (Nat.le_of_ble_eq_true rfl)) dX5_driveFromNodes_17 ⟨(by show 0 + cT tr * i + 0 ≤ 12 * cT tr; omega), (by show 0 + pB tr Bd * i + 0 ≤ 12 * pB tr Bd; omega)⟩) hS (fun q _ h => hFc q h) hFc (fun r_1 u t H1 locs ht hvm hpo hB hz1 hk1 hS => ?_)
    obtain rfl := hpo
    obtain ⟨f_1, hP1⟩ := hB
    subst f_1
    rw [ht] at hP1
    have hP : mw (dC, dI) vwCl A (TW cy L tr b1 κ9 τ9) H1 := hP.join (fun _ _ h => h) hk1 hFc hP1 (fun _ _ h => Or.inl h)
    generalize H1 = H at hP hS ⊢
    clear hP1 hk1 hFc
    refine lv_istore_n (lv' := [(2, .int (R_get (b1 12 i 0) (b1 13 i) 0)), (1, .int (nI i)), (0, .ref (L 0 0))]) hx hb dX5_driveFromNodes_20 rfl hl (by decide) rfl (fun ls hl => ?_)
    refine lv_aload_n hx hb dX5_driveFromNodes_21 rfl (lv_at hl 2 rfl) ?_
    refine lv_iload_n hx hb dX5_driveFromNodes_22 rfl (lv_at hl 0 rfl) ?_
    by_cases c_3 : T_no b1 (R_get (b1 12 i 0) (b1 13 i) 0)
    · have hFc := m_free (C := (TW cy L tr b1 κ9 τ9)) hP hS hA (fun _ _ h => h)
      refine va_callq (va_runV (As := [.int (R_get (b1 12 i 0) (b1 13 i) 0)]) (rest := []) ⟨hx, hb, hml, hown, hts⟩ (c_Traffic_find_none l dC dI cy L tr b1 κ9 τ9 (R_get (b1 12 i 0) (b1 13 i) 0) H.size hh9.1 c_3) (tp_cwV 1 hts tw_274 tw_275 tw_276 tw_21 tw_277 rfl rfl (by decide +kernel) ⟨Nat.le_of_ble_eq_true rfl, Nat.le_of_ble_eq_true rfl⟩) ⟨m_blind, va_recv hK (hP.one (e := .inr (5, [.ref (L 1 0), .ref (L 20 0), .ref (L 21 0), .ref (L 22 0), .ref (L 23 0), va_rf tr, .int ((b1 0 0) 0), .int ((b1 0 0) 1), .int ((b1 0 0) 2), .int ((b1 0 0) 3), .int ((b1 0 0) 4), .int ((b1 0 0) 5)])) (tw_mem (f := 0) (i := 0) (by decide) rfl)) (ci := 5) (q0 := 0) rfl rfl, fun U hU hW => ⟨rfl, m_pay hK hP hE (fun _ _ h => h) U hU hW⟩⟩ rfl rfl hl.1 rfl (lv_room (Nat.le_of_ble_eq_true rfl)) dX5_driveFromNodes_23 ⟨(by show 0 + cT tr * i + 0 + 0 ≤ 12 * cT tr; omega), (by show 0 + pB tr Bd * i + 0 + 0 ≤ 12 * pB tr Bd; omega)⟩) hS (fun q _ h => hFc q h) hFc (fun r_2 u t H1 locs ht hvm hpo hB hz1 hk1 hS => ?_)
      obtain rfl := hpo
      obtain ⟨f_2, hP1⟩ := hB
      subst f_2
      rw [ht] at hP1
      have hP : mw (dC, dI) vwCl A (TW cy L tr b1 κ9 τ9) H1 := hP.join (fun _ _ h => h) hk1 hFc hP1 (fun _ _ h => Or.inl h)
      generalize H1 = H at hP hS ⊢
      clear hP1 hk1 hFc
      refine W.eq (g2 := F0 m 26 ls [.null]) rfl ?_
      refine lv_astore_nN (lv' := [(3, .null), (2, .int (R_get (b1 12 i 0) (b1 13 i) 0)), (1, .int (nI i)), (0, .ref (L 0 0))]) hx hb dX5_driveFromNodes_26 rfl hl (by decide) rfl (fun ls hl => ?_)
      refine lv_aload_nN hx hb dX5_driveFromNodes_27 rfl (lv_at hl 0 rfl) ?_
      refine lv_ifnullN (tgt := 55) hx hb dX5_driveFromNodes_28 (by decide) ?_
      refine lv_iinc (v := nI (i + 1)) (lv' := [(1, .int (nI (i + 1))), (3, .null), (2, .int (R_get (b1 12 i 0) (b1 13 i) 0)), (0, .ref (L 0 0))]) hx hb dX5_driveFromNodes_55 hl (k := 2) rfl (nI_1 i) (by decide) rfl (fun ls hl => ?_)
      refine lv_goto (tgt := 2) hx hb dX5_driveFromNodes_58 (by decide) ?_
      have e9 : b1 = itN (T_node) (i + 1) a := by
        rw [show itN T_node (i + 1) a = T_node i b1 from by rw [eb1]; rfl]
        unfold T_node
        rw [if_pos c_3]
      have hh8 : Hid L tr (itN (T_node) (i + 1) a) κ9 τ9 := by rw [← e9]; exact hh9
      rw [e9] at hP
      refine W.widen (k := (fun i => 0 + cT tr * i) (i + 1)) (n := (fun i => 0 + pB tr Bd * i) (i + 1)) (by show 0 + cT tr * i + 0 + 0 ≤ 0 + cT tr * (i + 1); omega) (by show 0 + pB tr Bd * i + 0 + 0 ≤ 0 + pB tr Bd * (i + 1); omega) ?_
      exact ih (κ9, τ9) _ _ ls ⟨hh8, hP, hS, lv_sub hl [0, 3] rfl⟩
    · have hFc := m_free (C := (TW cy L tr b1 κ9 τ9)) hP hS hA (fun _ _ h => h)
      refine va_callr (va_runV (As := [.int (R_get (b1 12 i 0) (b1 13 i) 0)]) (rest := []) ⟨hx, hb, hml, hown, hts⟩ (c_Traffic_find_some l dC dI cy L tr b1 κ9 τ9 ((M + 1 * i)) (R_get (b1 12 i 0) (b1 13 i) 0) H.size hh9.1 hwb1 c_3) (tp_cwV 1 hts tw_274 tw_275 tw_276 tw_21 tw_277 rfl rfl (by decide +kernel) ⟨Nat.le_of_ble_eq_true rfl, Nat.le_of_ble_eq_true rfl⟩) ⟨m_blind, va_recv hK (hP.one (e := .inr (5, [.ref (L 1 0), .ref (L 20 0), .ref (L 21 0), .ref (L 22 0), .ref (L 23 0), va_rf tr, .int ((b1 0 0) 0), .int ((b1 0 0) 1), .int ((b1 0 0) 2), .int ((b1 0 0) 3), .int ((b1 0 0) 4), .int ((b1 0 0) 5)])) (tw_mem (f := 0) (i := 0) (by decide) rfl)) (ci := 5) (q0 := 0) rfl rfl, fun U hU hW => ⟨rfl, m_pay hK hP hE (fun _ _ h => h) U hU hW⟩⟩ rfl rfl hl.1 rfl (lv_room (Nat.le_of_ble_eq_true rfl)) dX5_driveFromNodes_23 ⟨(by show 0 + cT tr * i + 0 + 0 ≤ 12 * cT tr; omega), (by show 0 + pB tr Bd * i + 0 + 0 ≤ 12 * pB tr Bd; omega)⟩) hS (fun q _ h => hFc q h) hFc (fun u r_3 t H1 locs ht hvm hpo hB hz1 hk1 hS => ?_)
      obtain ⟨f_3, hP1⟩ := hB
      subst f_3
      rw [ht] at hP1
      have hP : mw (dC, dI) vwCl A (TW cy L tr b1 κ9 τ9) H1 := hP.join (fun _ _ h => h) hk1 hFc hP1 (fun _ _ h => Or.inl h)
      generalize H1 = H at hP hS ⊢
      clear hP1 hk1 hFc
      obtain ⟨hvv, hv, hvn⟩ := T_no_in hwb1 c_3
      refine lv_astore_n (lv' := [(3, .ref (L 15 (R_get (b1 12 i 0) (b1 13 i) 0).toNatClampNeg)), (2, .int (R_get (b1 12 i 0) (b1 13 i) 0)), (1, .int (nI i)), (0, .ref (L 0 0))]) hx hb dX5_driveFromNodes_26 rfl hl (by decide) rfl (fun ls hl => ?_)
      refine lv_aload_n hx hb dX5_driveFromNodes_27 rfl (lv_at hl 0 rfl) ?_
      refine lv_ifnull hx hb dX5_driveFromNodes_28 ?_
      refine lv_aload_n hx hb dX5_driveFromNodes_31 rfl (lv_at hl 3 rfl) ?_
      refine lv_iload_n hx hb dX5_driveFromNodes_32 rfl (lv_at hl 1 rfl) ?_
      refine lv_aload_n hx hb dX5_driveFromNodes_33 rfl (lv_at hl 0 rfl) ?_
      refine lv_aload_n hx hb dX5_driveFromNodes_34 rfl (lv_at hl 3 rfl) ?_
      refine lv_aload_n hx hb dX5_driveFromNodes_35 rfl (lv_at hl 0 rfl) ?_
      refine lv_iload_n hx hb dX5_driveFromNodes_36 rfl (lv_at hl 2 rfl) ?_
      have hFc := m_free (C := (TW cy L tr b1 κ9 τ9)) hP hS hA (fun _ _ h => h)
      refine va_calli (va_runV (As := [.ref (L 15 (R_get (b1 12 i 0) (b1 13 i) 0).toNatClampNeg), .int (nI i)]) (rest := [.ref (L 15 (R_get (b1 12 i 0) (b1 13 i) 0).toNatClampNeg), .int (R_get (b1 12 i 0) (b1 13 i) 0), .ref (L 0 0)]) ⟨hx, hb, hml, hown, hts⟩ (c_Traffic_nextOf l dC dI cy L tr b1 κ9 τ9 ((M + 1 * i)) ((R_get (b1 12 i 0) (b1 13 i) 0).toNatClampNeg) (nI i) H.size hh9.1 hwb1 hv (in_nat (by omega) (by decide)) hh9.2.1) (tp_cwV 2 hts tw_294 tw_296 tw_9 tw_21 tw_297 rfl rfl (by decide +kernel) ⟨Nat.le_of_ble_eq_true rfl, Nat.le_of_ble_eq_true rfl⟩) ⟨m_blind, va_recv hK (hP.one (e := .inr (5, [.ref (L 1 0), .ref (L 20 0), .ref (L 21 0), .ref (L 22 0), .ref (L 23 0), va_rf tr, .int ((b1 0 0) 0), .int ((b1 0 0) 1), .int ((b1 0 0) 2), .int ((b1 0 0) 3), .int ((b1 0 0) 4), .int ((b1 0 0) 5)])) (tw_mem (f := 0) (i := 0) (by decide) rfl)) (ci := 5) (q0 := 0) rfl rfl, fun U hU hW => ⟨rfl, m_pay hK hP hE (fun _ _ h => h) U hU hW⟩⟩ rfl rfl hl.1 rfl (lv_room (Nat.le_of_ble_eq_true rfl)) dX5_driveFromNodes_37 ⟨(by show 0 + cT tr * i + 0 + 0 + 0 ≤ 12 * cT tr; omega), (by show 0 + pB tr Bd * i + 0 + 0 + 0 ≤ 12 * pB tr Bd; omega)⟩) hS (fun q _ h => hFc q h) hFc (fun r_4 u t H1 locs ht hvm hpo hB hz1 hk1 hS => ?_)
      obtain rfl := hpo
      obtain ⟨z_1, f_4, f_5, hP1⟩ := hB
      subst f_4
      rw [ht] at hP1
      have hP : mw (dC, dI) vwCl A (TW cy L tr b1 z_1 τ9) H1 := hP.join (fun _ _ h => h) hk1 hFc hP1 (fun _ _ h => Or.inl h)
      generalize H1 = H at hP hS ⊢
      clear hP1 hk1 hFc
      have hh1 : Hid L tr b1 z_1 τ9 := ⟨hh9.1, f_5, hh9.2.2⟩
      have hFc := m_free (C := (TW cy L tr b1 z_1 τ9)) hP hS hA (fun _ _ h => h)
      refine va_calli (va_runV (As := [.int (R_get (b1 12 i 0) (b1 13 i) 0), .ref (L 15 (R_get (b1 12 i 0) (b1 13 i) 0).toNatClampNeg), .int (T_next b1 ((R_get (b1 12 i 0) (b1 13 i) 0).toNatClampNeg) (nI i))]) (rest := []) ⟨hx, hb, hml, hown, hts⟩ (c_Traffic_comesOnto l dC dI cy L tr b1 z_1 τ9 ((M + 1 * i)) Bd ((R_get (b1 12 i 0) (b1 13 i) 0).toNatClampNeg) (R_get (b1 12 i 0) (b1 13 i) 0) (T_next b1 ((R_get (b1 12 i 0) (b1 13 i) 0).toNatClampNeg) (nI i)) H.size hh9.1 hwb1 hh1 hvn hvv (by omega) hB2) (tp_cwV 3 hts tw_303 tw_305 tw_10 tw_21 tw_306 rfl rfl (by decide +kernel) ⟨Nat.le_of_ble_eq_true rfl, Nat.le_of_ble_eq_true rfl⟩) ⟨m_blind, va_recv hK (hP.one (e := .inr (5, [.ref (L 1 0), .ref (L 20 0), .ref (L 21 0), .ref (L 22 0), .ref (L 23 0), va_rf tr, .int ((b1 0 0) 0), .int ((b1 0 0) 1), .int ((b1 0 0) 2), .int ((b1 0 0) 3), .int ((b1 0 0) 4), .int ((b1 0 0) 5)])) (tw_mem (f := 0) (i := 0) (by decide) rfl)) (ci := 5) (q0 := 0) rfl rfl, fun U hU hW => ⟨rfl, m_pay hK hP hE (fun _ _ h => h) U hU hW⟩⟩ rfl rfl hl.1 rfl (lv_room (Nat.le_of_ble_eq_true rfl)) dX5_driveFromNodes_40 ⟨(by show 0 + cT tr * i + 0 + 0 + 0 + (cT tr) ≤ 12 * cT tr; omega), (by show 0 + pB tr Bd * i + 0 + 0 + 0 + (pB tr Bd) ≤ 12 * pB tr Bd; omega)⟩) hS (fun q _ h => hFc q h) hFc (fun r_5 u t H1 locs ht hvm hpo hB hz1 hk1 hS => ?_)
      obtain rfl := hpo
      obtain ⟨z_2, f_6, f_7, hP1⟩ := hB
      subst f_6
      rw [ht] at hP1
      have hP : mw (dC, dI) vwCl A (TW cy L tr ((T_comes b1 ((R_get (b1 12 i 0) (b1 13 i) 0).toNatClampNeg) (R_get (b1 12 i 0) (b1 13 i) 0) (T_next b1 ((R_get (b1 12 i 0) (b1 13 i) 0).toNatClampNeg) (nI i))).1) z_1 z_2) H1 := hP.join (fun _ _ h => h) hk1 hFc hP1 (fun _ _ h => Or.inl h)
      generalize H1 = H at hP hS ⊢
      clear hP1 hk1 hFc
      obtain ⟨b2, eb2⟩ : ∃ z : St, z = (T_comes b1 ((R_get (b1 12 i 0) (b1 13 i) 0).toNatClampNeg) (R_get (b1 12 i 0) (b1 13 i) 0) (T_next b1 ((R_get (b1 12 i 0) (b1 13 i) 0).toNatClampNeg) (nI i))).1 := ⟨_, rfl⟩
      rw [← eb2] at hP
      refine lv_if_eq (tgt := 55) hx hb dX5_driveFromNodes_43 (by decide) (fun c_4 => ?_) (fun c_4 => ?_)
      · refine lv_iinc (v := nI (i + 1)) (lv' := [(1, .int (nI (i + 1))), (3, .ref (L 15 (R_get (b1 12 i 0) (b1 13 i) 0).toNatClampNeg)), (2, .int (R_get (b1 12 i 0) (b1 13 i) 0)), (0, .ref (L 0 0))]) hx hb dX5_driveFromNodes_55 hl (k := 2) rfl (nI_1 i) (by decide) rfl (fun ls hl => ?_)
        refine lv_goto (tgt := 2) hx hb dX5_driveFromNodes_58 (by decide) ?_
        have e9 : b2 = itN (T_node) (i + 1) a := by
          rw [eb2]
          rw [show itN T_node (i + 1) a = T_node i b1 from by rw [eb1]; rfl]
          unfold T_node
          rw [if_neg c_3]
          unfold T_nodeV
          rw [if_pos c_4]
        have hh8 : Hid L tr (itN (T_node) (i + 1) a) z_1 z_2 := by rw [← e9]; exact (by rw [eb2]; exact f_7)
        rw [e9] at hP
        refine W.widen (k := (fun i => 0 + cT tr * i) (i + 1)) (n := (fun i => 0 + pB tr Bd * i) (i + 1)) (by show 0 + cT tr * i + 0 + 0 + 0 + (cT tr) ≤ 0 + cT tr * (i + 1); omega) (by show 0 + pB tr Bd * i + 0 + 0 + 0 + (pB tr Bd) ≤ 0 + pB tr Bd * (i + 1); omega) ?_
        exact ih (z_1, z_2) _ _ ls ⟨hh8, hP, hS, lv_sub hl [0, 3] rfl⟩
      · refine lv_aload_n hx hb dX5_driveFromNodes_46 rfl (lv_at hl 3 rfl) ?_
        refine va_get (D := (dC, dI)) (ws := [(L 0 0, .inr (5, [.ref (L 1 0), .ref (L 20 0), .ref (L 21 0), .ref (L 22 0), .ref (L 23 0), va_rf tr, .int ((b2 0 0) 0), .int ((b2 0 0) 1), .int ((b2 0 0) 2), .int ((b2 0 0) 3), .int ((b2 0 0) 4), .int ((b2 0 0) 5)]))]) (ci := 5) (v := .ref (L 21 0)) (C := RX5) (T := TX5) (N := 12) hx hb hts tl_X5 hown hK (hP.one (tw_mem (f := 0) (i := 0) (by decide) rfl)) 0 rfl rfl 2 (by decide) (hts _ tw_877) (fun _ h9 => h9) rfl dX5_driveFromNodes_47 ?_
        refine lv_iload_n hx hb dX5_driveFromNodes_50 rfl (lv_at hl 2 rfl) ?_
        have j_2 : (nI i : Int32).toNatClampNeg = i := m_cl rfl (Nat.lt_of_lt_of_le hi hN) (by decide)
        refine va_aldq hx hb hK (ws := [(L 21 0, .inl (cy 5, 12, .inr (.inr (.inr (.inr (fun j => some (L 12 j)))))))]) (hP.one (tw_mem (f := 21) (i := 0) (by decide) rfl)) 0 5 rfl rfl (m_in rfl (Nat.lt_of_lt_of_le hi hN) (by decide)) dX5_driveFromNodes_51 ?_
        refine W.eq (g2 := F0 m 52 ls [.ref (L 12 i)]) (by first | (rw [j_2]; done) | (rw [j_2]; rfl)) ?_
        have hFc := m_free (C := (TW cy L tr b2 z_1 z_2)) hP hS hA (fun _ _ h => h)
        refine va_callv (va_runV (As := []) (rest := []) ⟨hx, hb, hml, hown, hts⟩ (c_Row_dropFirst_wait l dC dI cy L tr b2 z_1 z_2 i H.size f_7.1 (Nat.lt_of_lt_of_le hi hN) (by rw [eb2]; exact ((T_comes_Wf hv (by omega) hwb1).2.2.1 i (Nat.lt_of_lt_of_le hi hN)).2.2)) (tp_cwV 0 hts tw_360 tw_352 tw_353 tw_24 tw_354 rfl rfl (by decide +kernel) ⟨Nat.le_of_ble_eq_true rfl, Nat.le_of_ble_eq_true rfl⟩) ⟨m_blind, va_recv hK (hP.one (e := .inr (3, [.ref (L 13 i), .int ((b2 12 i) 0)])) (tw_mem (f := 12) (i := i) (Nat.lt_of_lt_of_le hi hN) rfl)) (ci := 3) (q0 := 0) rfl rfl, fun U hU hW => ⟨rfl, m_pay hK hP hE (fun _ _ h => h) U hU hW⟩⟩ rfl rfl hl.1 rfl (lv_room (Nat.le_of_ble_eq_true rfl)) dX5_driveFromNodes_52 ⟨(by show 0 + cT tr * i + 0 + 0 + 0 + (cT tr) + 0 ≤ 12 * cT tr; omega), (by show 0 + pB tr Bd * i + 0 + 0 + 0 + (pB tr Bd) + 0 ≤ 12 * pB tr Bd; omega)⟩) hS (fun q _ h => hFc q h) hFc (fun u t H1 locs ht hvm hpo hB hz1 hk1 hS => ?_)
        have hP1 := hB
        rw [ht] at hP1
        have hP : mw (dC, dI) vwCl A (TW cy L tr (R_drop 12 13 b2 i) z_1 z_2) H1 := hP.join (fun _ _ h => h) hk1 hFc hP1 (fun _ _ h => Or.inl h)
        generalize H1 = H at hP hS ⊢
        clear hP1 hk1 hFc
        obtain ⟨b3, eb3⟩ : ∃ z : St, z = R_drop 12 13 b2 i := ⟨_, rfl⟩
        rw [← eb3] at hP
        refine lv_iinc (v := nI (i + 1)) (lv' := [(1, .int (nI (i + 1))), (3, .ref (L 15 (R_get (b1 12 i 0) (b1 13 i) 0).toNatClampNeg)), (2, .int (R_get (b1 12 i 0) (b1 13 i) 0)), (0, .ref (L 0 0))]) hx hb dX5_driveFromNodes_55 hl (k := 2) rfl (nI_1 i) (by decide) rfl (fun ls hl => ?_)
        refine lv_goto (tgt := 2) hx hb dX5_driveFromNodes_58 (by decide) ?_
        have e9 : b3 = itN (T_node) (i + 1) a := by
          rw [eb3, eb2]
          rw [show itN T_node (i + 1) a = T_node i b1 from by rw [eb1]; rfl]
          unfold T_node
          rw [if_neg c_3]
          unfold T_nodeV
          rw [if_neg c_4]
        have hh8 : Hid L tr (itN (T_node) (i + 1) a) z_1 z_2 := by rw [← e9]; exact (by rw [eb3, eb2]; exact Hid.same (T_comes_Wf hv (by omega) hwb1) (R_drop_sameR (by decide) (by decide) (by decide) (by decide)) (R_drop_sameT (by decide) (by decide) (by decide) (by decide) (by decide) (by decide)) f_7)
        rw [e9] at hP
        refine W.widen (k := (fun i => 0 + cT tr * i) (i + 1)) (n := (fun i => 0 + pB tr Bd * i) (i + 1)) (by show 0 + cT tr * i + 0 + 0 + 0 + (cT tr) + 0 ≤ 0 + cT tr * (i + 1); omega) (by show 0 + pB tr Bd * i + 0 + 0 + 0 + (pB tr Bd) + 0 ≤ 0 + pB tr Bd * (i + 1); omega) ?_
        exact ih (z_1, z_2) _ _ ls ⟨hh8, hP, hS, lv_sub hl [0, 3] rfl⟩
set_option maxRecDepth 100000 in
set_option maxHeartbeats 4000000 in
/-- Math.floorMod -/
theorem c_floorMod (l : Launch) (dC : Nat → ClassId) (dI : Nat → Nat → Nat) (cy : Nat → ClassId) (P9 : mP) (x : Int32) (y : Int32) (sz : Nat) (hy : ¬ y = 0) : Met l yJ9_floorMod_7cf53 (tp_w yJ9_floorMod_7cf53 cJ9_floorMod_7cf53 3 (some .int)) ({ frames := 0, cells := 0, slots := 0, locals := 0 }) (va_Pc [.int x, .int y] (mPre dC dI cy P9 sz)) (va_Qi (fun (r u : Int32) => r = u) (fun (u : Int32) (t : State) => (u = fmod x y) ∧ mw (dC, dI) vwCl (mA P9 sz) P9 t.heap) (mA P9 sz)) (0) (0) (mA P9 sz) := by
  refine m_ofWF (cc := cJ9_floorMod_7cf53) (maxL := 3) (ret := (some .int)) (by decide +kernel) rfl ?_
  intro p e s m args below meth c s₁ B hml hv
  obtain ⟨rfl, hsz, hP, hK, hE⟩ := hv
  have hx := B.exec
  have hb := B.bytes
  have hr := B.returns
  have hts0 := atoms_spec (ws := tp_w yJ9_floorMod_7cf53 cJ9_floorMod_7cf53 3 (some .int)) B.pre
  have hts : ∀ w ∈ tp_all, w.before _ s = true := fun w h => hts0 w (List.mem_cons_of_mem _ h)
  have hown : s.vm.findClass RJ9 = some m.cls := findClass_of_methodNamed B.named
  have hlocks := B.notSynchronized
  subst hsz
  have hP := hP.self s.heap.size
  generalize hAe : mA P9 s.heap.size = A at hP ⊢
  have hA : ∀ q : Nat, s.heap.size ≤ q → A q := fun q h => by rw [← hAe]; exact Or.inr h
  have hS : va_S A s.heap s.heap [] := va_S.rf
  have hl9 := lv_entry ([.int x, .int y]) (n := 3) (Nat.le_of_ble_eq_true rfl)
  rw [lg_entry_eq]
  generalize (lg_sl ([.int x, .int y]) ++ List.replicate (3 - (lg_sl ([.int x, .int y])).length) Slot.unset).toArray = ls at hl9 ⊢
  have hl : lv_has ls 3 [(0, .int x), (1, .int y)] := hl9
  refine lv_iload_n hx hb dJ9_floorMod_7cf53_0 rfl (lv_at hl 0 rfl) ?_
  refine lv_iload_n hx hb dJ9_floorMod_7cf53_1 rfl (lv_at hl 1 rfl) ?_
  refine lv_irem hx hb dJ9_floorMod_7cf53_2 hy ?_
  refine lv_istore_n (lv' := [(2, .int (x - x / y * y)), (0, .int x), (1, .int y)]) hx hb dJ9_floorMod_7cf53_3 rfl hl (by decide) rfl (fun ls hl => ?_)
  refine lv_iload_n hx hb dJ9_floorMod_7cf53_4 rfl (lv_at hl 1 rfl) ?_
  refine lv_iload_n hx hb dJ9_floorMod_7cf53_5 rfl (lv_at hl 2 rfl) ?_
  refine lv_ixor hx hb dJ9_floorMod_7cf53_6 ?_
  refine lv_if_ge (tgt := 18) hx hb dJ9_floorMod_7cf53_7 (by decide) (fun c_1 => ?_) (fun c_1 => ?_)
  · refine lv_iload_n hx hb dJ9_floorMod_7cf53_18 rfl (lv_at hl 0 rfl) ?_
    refine W.widen (k := 0) (n := 0) (Nat.le_of_ble_eq_true rfl) (Nat.le_of_ble_eq_true rfl) ?_
    have g_1 : (x - x / y * y) = fmod x y := by
      first | rfl | assumption | (simp only [fmod, if_pos c_1])
    exact W.iret (v := x - x / y * y) hx hb hr (fun t ht hW => ⟨⟨(x - x / y * y), (x - x / y * y), rfl, rfl, ⟨g_1, by show mw _ _ _ _ t.heap; rw [ht]; exact hP⟩⟩, hS.F ht⟩) hS.2.2 dJ9_floorMod_7cf53_19
  · refine lv_iload_n hx hb dJ9_floorMod_7cf53_10 rfl (lv_at hl 0 rfl) ?_
    refine lv_if_eq (tgt := 18) hx hb dJ9_floorMod_7cf53_11 (by decide) (fun c_2 => ?_) (fun c_2 => ?_)
    · refine lv_iload_n hx hb dJ9_floorMod_7cf53_18 rfl (lv_at hl 0 rfl) ?_
      refine W.widen (k := 0) (n := 0) (Nat.le_of_ble_eq_true rfl) (Nat.le_of_ble_eq_true rfl) ?_
      have g_2 : (x - x / y * y) = fmod x y := by
        first | rfl | assumption | (simp only [fmod, if_neg c_1, if_pos c_2])
      exact W.iret (v := x - x / y * y) hx hb hr (fun t ht hW => ⟨⟨(x - x / y * y), (x - x / y * y), rfl, rfl, ⟨g_2, by show mw _ _ _ _ t.heap; rw [ht]; exact hP⟩⟩, hS.F ht⟩) hS.2.2 dJ9_floorMod_7cf53_19
    · refine lv_iload_n hx hb dJ9_floorMod_7cf53_14 rfl (lv_at hl 0 rfl) ?_
      refine lv_iload_n hx hb dJ9_floorMod_7cf53_15 rfl (lv_at hl 2 rfl) ?_
      refine lv_iadd hx hb dJ9_floorMod_7cf53_16 ?_
      refine W.widen (k := 0) (n := 0) (Nat.le_of_ble_eq_true rfl) (Nat.le_of_ble_eq_true rfl) ?_
      have g_3 : ((x - x / y * y) + y) = fmod x y := by
        first | rfl | assumption | (simp only [fmod, if_neg c_1, if_neg c_2])
      exact W.iret (v := (x - x / y * y) + y) hx hb hr (fun t ht hW => ⟨⟨((x - x / y * y) + y), ((x - x / y * y) + y), rfl, rfl, ⟨g_3, by show mw _ _ _ _ t.heap; rw [ht]; exact hP⟩⟩, hS.F ht⟩) hS.2.2 dJ9_floorMod_7cf53_17
end
section
theorem tw_263 : Cond.code yJ9_floorMod_7cf53 cJ9_floorMod_7cf53 3 (some .int) ∈ tp_all := tp_mem 263 (by decide +kernel) rfl
theorem tw_261 : Cond.methodLink RX5 149 yJ9_floorMod_7cf53 ∈ tp_all := tp_mem 261 (by decide +kernel) rfl
theorem tw_262 : Cond.static yJ9_floorMod_7cf53 ∈ tp_all := tp_mem 262 (by decide +kernel) rfl
theorem tw_267 : Cond.code yX4_isGreen cX4_isGreen 2 (some .boolean) ∈ tp_all := tp_mem 267 (by decide +kernel) rfl
theorem tw_264 : Cond.methodLink RX5 162 yX4_isGreen ∈ tp_all := tp_mem 264 (by decide +kernel) rfl
theorem tw_265 : Cond.instanceMethod yX4_isGreen ∈ tp_all := tp_mem 265 (by decide +kernel) rfl
theorem tw_266 : Cond.selects RX4 yX4_isGreen yX4_isGreen ∈ tp_all := tp_mem 266 (by decide +kernel) rfl
theorem tw_272 : Cond.code yX5_firstGoesOn cX5_firstGoesOn 5 (some .boolean) ∈ tp_all := tp_mem 272 (by decide +kernel) rfl
theorem tw_269 : Cond.methodLink RX5 168 yX5_firstGoesOn ∈ tp_all := tp_mem 269 (by decide +kernel) rfl
theorem tw_271 : Cond.instanceMethod yX5_firstGoesOn ∈ tp_all := tp_mem 271 (by decide +kernel) rfl
theorem tw_7 : Cond.selects RX5 yX5_firstGoesOn yX5_firstGoesOn ∈ tp_all := tp_mem 7 (by decide +kernel) rfl
theorem te_f26 {U : State} (h : tp_E U) : va_Nw (.fieldLinkNest "Turnpike$Traffic" 146 "Turnpike$Roads" "links" "I" "Turnpike") U := h.1 _ (List.mem_of_getElem? (i := 26) rfl)
theorem te_f24 {U : State} (h : tp_E U) : va_Nw (.fieldLinkNest "Turnpike$Traffic" 155 "Turnpike$Roads" "link" "[LTurnpike$Link;" "Turnpike") U := h.1 _ (List.mem_of_getElem? (i := 24) rfl)
theorem te_f10 {U : State} (h : tp_E U) : va_Nw (.fieldLinkNest "Turnpike$Traffic" 165 "Turnpike$Link" "rate" "I" "Turnpike") U := h.1 _ (List.mem_of_getElem? (i := 10) rfl)
theorem dX5_driveOnLinks_0 : decode cX5_driveOnLinks 0 = .ok (.aload_n 0, 1) := by decide +kernel
theorem dX5_driveOnLinks_1 : decode cX5_driveOnLinks 1 = .ok (.getfield 12, 3) := by decide +kernel
theorem dX5_driveOnLinks_4 : decode cX5_driveOnLinks 4 = .ok (.getfield 146, 3) := by decide +kernel
theorem dX5_driveOnLinks_7 : decode cX5_driveOnLinks 7 = .ok (.istore_n 1, 1) := by decide +kernel
theorem dX5_driveOnLinks_8 : decode cX5_driveOnLinks 8 = .ok (.iload_n 1, 1) := by decide +kernel
theorem dX5_driveOnLinks_9 : decode cX5_driveOnLinks 9 = .ok (.iconst 1, 1) := by decide +kernel
theorem dX5_driveOnLinks_10 : decode cX5_driveOnLinks 10 = .ok (.if_icmp .ge 4, 3) := by decide +kernel
theorem dX5_driveOnLinks_14 : decode cX5_driveOnLinks 14 = .ok (.aload_n 0, 1) := by decide +kernel
theorem dX5_driveOnLinks_15 : decode cX5_driveOnLinks 15 = .ok (.getfield 65, 3) := by decide +kernel
theorem dX5_driveOnLinks_18 : decode cX5_driveOnLinks 18 = .ok (.iload_n 1, 1) := by decide +kernel
theorem dX5_driveOnLinks_19 : decode cX5_driveOnLinks 19 = .ok (.invokestatic 149, 3) := by decide +kernel
theorem dX5_driveOnLinks_22 : decode cX5_driveOnLinks 22 = .ok (.istore_n 2, 1) := by decide +kernel
theorem dX5_driveOnLinks_23 : decode cX5_driveOnLinks 23 = .ok (.iconst 0, 1) := by decide +kernel
theorem dX5_driveOnLinks_24 : decode cX5_driveOnLinks 24 = .ok (.istore_n 3, 1) := by decide +kernel
theorem dX5_driveOnLinks_25 : decode cX5_driveOnLinks 25 = .ok (.iload_n 3, 1) := by decide +kernel
theorem dX5_driveOnLinks_26 : decode cX5_driveOnLinks 26 = .ok (.iload_n 1, 1) := by decide +kernel
theorem dX5_driveOnLinks_27 : decode cX5_driveOnLinks 27 = .ok (.if_icmp .ge 102, 3) := by decide +kernel
theorem dX5_driveOnLinks_129 : decode cX5_driveOnLinks 129 = .ok (.return_, 1) := by decide +kernel
theorem dX5_driveOnLinks_30 : decode cX5_driveOnLinks 30 = .ok (.iload_n 2, 1) := by decide +kernel
theorem dX5_driveOnLinks_31 : decode cX5_driveOnLinks 31 = .ok (.iload_n 3, 1) := by decide +kernel
theorem dX5_driveOnLinks_32 : decode cX5_driveOnLinks 32 = .ok (.iadd, 1) := by decide +kernel
theorem dX5_driveOnLinks_33 : decode cX5_driveOnLinks 33 = .ok (.iload_n 1, 1) := by decide +kernel
theorem dX5_driveOnLinks_34 : decode cX5_driveOnLinks 34 = .ok (.if_icmp .ge 9, 3) := by decide +kernel
theorem dX5_driveOnLinks_43 : decode cX5_driveOnLinks 43 = .ok (.iload_n 2, 1) := by decide +kernel
theorem dX5_driveOnLinks_44 : decode cX5_driveOnLinks 44 = .ok (.iload_n 3, 1) := by decide +kernel
theorem dX5_driveOnLinks_45 : decode cX5_driveOnLinks 45 = .ok (.iadd, 1) := by decide +kernel
theorem dX5_driveOnLinks_46 : decode cX5_driveOnLinks 46 = .ok (.iload_n 1, 1) := by decide +kernel
theorem dX5_driveOnLinks_47 : decode cX5_driveOnLinks 47 = .ok (.isub, 1) := by decide +kernel
theorem dX5_driveOnLinks_48 : decode cX5_driveOnLinks 48 = .ok (.istore 4, 2) := by decide +kernel
theorem dX5_driveOnLinks_37 : decode cX5_driveOnLinks 37 = .ok (.iload_n 2, 1) := by decide +kernel
theorem dX5_driveOnLinks_38 : decode cX5_driveOnLinks 38 = .ok (.iload_n 3, 1) := by decide +kernel
theorem dX5_driveOnLinks_39 : decode cX5_driveOnLinks 39 = .ok (.iadd, 1) := by decide +kernel
theorem dX5_driveOnLinks_40 : decode cX5_driveOnLinks 40 = .ok (.goto 8, 3) := by decide +kernel
theorem dX5_driveOnLinks_50 : decode cX5_driveOnLinks 50 = .ok (.aload_n 0, 1) := by decide +kernel
theorem dX5_driveOnLinks_51 : decode cX5_driveOnLinks 51 = .ok (.getfield 12, 3) := by decide +kernel
theorem dX5_driveOnLinks_54 : decode cX5_driveOnLinks 54 = .ok (.getfield 155, 3) := by decide +kernel
theorem dX5_driveOnLinks_57 : decode cX5_driveOnLinks 57 = .ok (.iload 4, 2) := by decide +kernel
theorem dX5_driveOnLinks_59 : decode cX5_driveOnLinks 59 = .ok (.aaload, 1) := by decide +kernel
theorem dX5_driveOnLinks_60 : decode cX5_driveOnLinks 60 = .ok (.astore 5, 2) := by decide +kernel
theorem dX5_driveOnLinks_62 : decode cX5_driveOnLinks 62 = .ok (.aload_n 0, 1) := by decide +kernel
theorem dX5_driveOnLinks_63 : decode cX5_driveOnLinks 63 = .ok (.getfield 20, 3) := by decide +kernel
theorem dX5_driveOnLinks_66 : decode cX5_driveOnLinks 66 = .ok (.aload 5, 2) := by decide +kernel
theorem dX5_driveOnLinks_68 : decode cX5_driveOnLinks 68 = .ok (.getfield 159, 3) := by decide +kernel
theorem dX5_driveOnLinks_71 : decode cX5_driveOnLinks 71 = .ok (.aaload, 1) := by decide +kernel
theorem dX5_driveOnLinks_72 : decode cX5_driveOnLinks 72 = .ok (.iload 4, 2) := by decide +kernel
theorem dX5_driveOnLinks_74 : decode cX5_driveOnLinks 74 = .ok (.invokevirtual 162, 3) := by decide +kernel
theorem dX5_driveOnLinks_77 : decode cX5_driveOnLinks 77 = .ok (.ifCond .eq 11, 3) := by decide +kernel
theorem dX5_driveOnLinks_88 : decode cX5_driveOnLinks 88 = .ok (.iconst 0, 1) := by decide +kernel
theorem dX5_driveOnLinks_89 : decode cX5_driveOnLinks 89 = .ok (.istore 6, 2) := by decide +kernel
theorem dX5_driveOnLinks_80 : decode cX5_driveOnLinks 80 = .ok (.aload 5, 2) := by decide +kernel
theorem dX5_driveOnLinks_82 : decode cX5_driveOnLinks 82 = .ok (.getfield 165, 3) := by decide +kernel
theorem dX5_driveOnLinks_85 : decode cX5_driveOnLinks 85 = .ok (.goto 4, 3) := by decide +kernel
theorem dX5_driveOnLinks_91 : decode cX5_driveOnLinks 91 = .ok (.iconst 1, 1) := by decide +kernel
theorem dX5_driveOnLinks_92 : decode cX5_driveOnLinks 92 = .ok (.istore 7, 2) := by decide +kernel
theorem dX5_driveOnLinks_94 : decode cX5_driveOnLinks 94 = .ok (.iconst 0, 1) := by decide +kernel
theorem dX5_driveOnLinks_95 : decode cX5_driveOnLinks 95 = .ok (.istore 8, 2) := by decide +kernel
theorem dX5_driveOnLinks_97 : decode cX5_driveOnLinks 97 = .ok (.iload 7, 2) := by decide +kernel
theorem dX5_driveOnLinks_99 : decode cX5_driveOnLinks 99 = .ok (.ifCond .eq 24, 3) := by decide +kernel
theorem dX5_driveOnLinks_123 : decode cX5_driveOnLinks 123 = .ok (.iinc 3 1, 3) := by decide +kernel
theorem dX5_driveOnLinks_126 : decode cX5_driveOnLinks 126 = .ok (.goto (-101), 3) := by decide +kernel
theorem dX5_driveOnLinks_102 : decode cX5_driveOnLinks 102 = .ok (.iload 8, 2) := by decide +kernel
theorem dX5_driveOnLinks_104 : decode cX5_driveOnLinks 104 = .ok (.iload 6, 2) := by decide +kernel
theorem dX5_driveOnLinks_106 : decode cX5_driveOnLinks 106 = .ok (.if_icmp .ge 17, 3) := by decide +kernel
theorem dX5_driveOnLinks_109 : decode cX5_driveOnLinks 109 = .ok (.aload_n 0, 1) := by decide +kernel
theorem dX5_driveOnLinks_110 : decode cX5_driveOnLinks 110 = .ok (.aload 5, 2) := by decide +kernel
theorem dX5_driveOnLinks_112 : decode cX5_driveOnLinks 112 = .ok (.invokevirtual 168, 3) := by decide +kernel
theorem dX5_driveOnLinks_115 : decode cX5_driveOnLinks 115 = .ok (.istore 7, 2) := by decide +kernel
theorem dX5_driveOnLinks_117 : decode cX5_driveOnLinks 117 = .ok (.iinc 8 1, 3) := by decide +kernel
theorem dX5_driveOnLinks_120 : decode cX5_driveOnLinks 120 = .ok (.goto (-23), 3) := by decide +kernel
theorem dX5_driveOnLinks_13 : decode cX5_driveOnLinks 13 = .ok (.return_, 1) := by decide +kernel
set_option maxRecDepth 100000 in
set_option maxHeartbeats 4000000 in
/-- Traffic.driveOnLinks -/
theorem c_Traffic_driveOnLinks (l : Launch) (dC : Nat → ClassId) (dI : Nat → Nat → Nat) (cy : Nat → ClassId) (L : Lay) (tr : Option Nat) (a : St) (κ : Kap) (τ : Tau) (M : Nat) (Bd : Nat) (sz : Nat) (hT : TL L tr τ) (hw : Wf M a) (hh : Hid L tr a κ τ) (hMB : M + 72 ≤ Bd) (hck : 0 ≤ (a 0 0 0).toInt) (hB2 : Bd < 30000) : Met l yX5_driveOnLinks (tp_w yX5_driveOnLinks cX5_driveOnLinks 9 none) ({ frames := 5, cells := 72 * cT tr, slots := 72 * pB tr Bd, locals := 123 }) (va_Pc [.ref (L 0 0)] (mPre dC dI cy (TW cy L tr a κ τ) sz)) (va_Qv (fun _ : Unit => True) (fun (_ : Unit) (t : State) => ∃ (κ2 : Kap), ∃ (τ2 : Tau), (Hid L tr (T_links a) κ2 τ2) ∧ mw (dC, dI) vwCl (mA (TW cy L tr a κ τ) sz) (TW cy L tr (T_links a) κ2 τ2) t.heap) (mA (TW cy L tr a κ τ) sz)) (72 * cT tr) (72 * pB tr Bd) (mA (TW cy L tr a κ τ) sz) := by
  refine Met.ofW (cc := cX5_driveOnLinks) (maxL := 9) (ret := none) (by decide) rfl ?_
  intro p e s m args below meth c s₁ B hml hv
  obtain ⟨rfl, hsz, hP, hK, hE⟩ := hv
  have hx := B.exec
  have hb := B.bytes
  have hr := B.returns
  have hts0 := atoms_spec (ws := tp_w yX5_driveOnLinks cX5_driveOnLinks 9 none) B.pre
  have hts : ∀ w ∈ tp_all, w.before _ s = true := fun w h => hts0 w (List.mem_cons_of_mem _ h)
  have hown : s.vm.findClass RX5 = some m.cls := findClass_of_methodNamed B.named
  have hlocks := B.notSynchronized
  subst hsz
  have hP := hP.self s.heap.size
  generalize hAe : mA (TW cy L tr a κ τ) s.heap.size = A at hP ⊢
  have hA : ∀ q : Nat, s.heap.size ≤ q → A q := fun q h => by rw [← hAe]; exact Or.inr h
  have hS : va_S A s.heap s.heap [] := va_S.rf
  have hl9 := lv_entry ([.ref (L 0 0)]) (n := 9) (Nat.le_of_ble_eq_true rfl)
  rw [lg_entry_eq]
  generalize (lg_sl ([.ref (L 0 0)]) ++ List.replicate (9 - (lg_sl ([.ref (L 0 0)])).length) Slot.unset).toArray = ls at hl9 ⊢
  have hl : lv_has ls 9 [(0, .ref (L 0 0))] := hl9
  refine lv_aload_n hx hb dX5_driveOnLinks_0 rfl (lv_at hl 0 rfl) ?_
  refine va_get (D := (dC, dI)) (ws := [(L 0 0, .inr (5, [.ref (L 1 0), .ref (L 20 0), .ref (L 21 0), .ref (L 22 0), .ref (L 23 0), va_rf tr, .int ((a 0 0) 0), .int ((a 0 0) 1), .int ((a 0 0) 2), .int ((a 0 0) 3), .int ((a 0 0) 4), .int ((a 0 0) 5)]))]) (ci := 5) (v := .ref (L 1 0)) (C := RX5) (T := TX5) (N := 12) hx hb hts tl_X5 hown hK (hP.one (tw_mem (f := 0) (i := 0) (by decide) rfl)) 0 rfl rfl 0 (by decide) (hts _ tw_873) (fun _ h9 => h9) rfl dX5_driveOnLinks_1 ?_
  refine va_getN (D := (dC, dI)) (ws := [(L 1 0, .inr (2, [.ref (L 24 0), .int ((a 1 0) 0), .ref (L 25 0), .int κ.1]))]) (ci := 2) (v := .int ((a 1 0) 0)) (C := RX2) (T := TX2) (N := 4) hx hb hts tl_X2 hown hK (hP.one (tw_mem (f := 1) (i := 0) (by decide) rfl)) 0 rfl rfl 1 (by decide) (va_Nw.use rfl (te_f26 hE)) (fun _ h9 => h9) rfl dX5_driveOnLinks_4 ?_
  refine lv_istore_n (lv' := [(1, .int ((a 1 0) 0)), (0, .ref (L 0 0))]) hx hb dX5_driveOnLinks_7 rfl hl (by decide) rfl (fun ls hl => ?_)
  refine lv_iload_n hx hb dX5_driveOnLinks_8 rfl (lv_at hl 0 rfl) ?_
  refine lv_iconst (v := 1) hx hb dX5_driveOnLinks_9 (by decide) ?_
  refine lv_icmp_ge (tgt := 14) hx hb dX5_driveOnLinks_10 (by decide) (fun c_1 => ?_) (fun c_1 => ?_)
  · refine lv_aload_n hx hb dX5_driveOnLinks_14 rfl (lv_at hl 1 rfl) ?_
    refine va_get (D := (dC, dI)) (ws := [(L 0 0, .inr (5, [.ref (L 1 0), .ref (L 20 0), .ref (L 21 0), .ref (L 22 0), .ref (L 23 0), va_rf tr, .int ((a 0 0) 0), .int ((a 0 0) 1), .int ((a 0 0) 2), .int ((a 0 0) 3), .int ((a 0 0) 4), .int ((a 0 0) 5)]))]) (ci := 5) (v := .int ((a 0 0) 0)) (C := RX5) (T := TX5) (N := 12) hx hb hts tl_X5 hown hK (hP.one (tw_mem (f := 0) (i := 0) (by decide) rfl)) 0 rfl rfl 6 (by decide) (hts _ tw_885) (fun _ h9 => h9) rfl dX5_driveOnLinks_15 ?_
    refine lv_iload_n hx hb dX5_driveOnLinks_18 rfl (lv_at hl 0 rfl) ?_
    have hFc := m_free (C := (TW cy L tr a κ τ)) hP hS hA (fun _ _ h => h)
    refine va_calli (va_runS (As := [.int ((a 0 0) 0), .int ((a 1 0) 0)]) (rest := []) ⟨hx, hb, hml, hown, hts⟩ (c_floorMod l dC dI cy ((TW cy L tr a κ τ)) ((a 0 0) 0) ((a 1 0) 0) s.heap.size (fun h => by rw [h] at c_1; exact absurd c_1 (by decide))) (tp_cwS 2 hts tw_261 tw_262 tw_25 tw_263 rfl rfl (by decide +kernel) ⟨Nat.le_of_ble_eq_true rfl, Nat.le_of_ble_eq_true rfl⟩) ⟨m_blind, fun U hU hW => ⟨rfl, m_pay hK hP hE (fun _ _ h => h) U hU hW⟩⟩ rfl rfl hl.1 rfl (lv_room (Nat.le_of_ble_eq_true rfl)) dX5_driveOnLinks_19 ⟨(by show 0 + 0 ≤ 72 * cT tr; omega), (by show 0 + 0 ≤ 72 * pB tr Bd; omega)⟩) hS (fun q _ h => hFc q h) hFc (fun r_1 u t H1 locs ht hvm hpo hB hz1 hk1 hS => ?_)
    obtain rfl := hpo
    obtain ⟨f_1, hP1⟩ := hB
    subst f_1
    rw [ht] at hP1
    have hP : mw (dC, dI) vwCl A (TW cy L tr a κ τ) H1 := hP.join (fun _ _ h => h) hk1 hFc hP1 (fun _ _ h => Or.inl h)
    generalize H1 = H at hP hS ⊢
    clear hP1 hk1 hFc
    refine lv_istore_n (lv' := [(2, .int (fmod ((a 0 0) 0) ((a 1 0) 0))), (1, .int ((a 1 0) 0)), (0, .ref (L 0 0))]) hx hb dX5_driveOnLinks_22 rfl hl (by decide) rfl (fun ls hl => ?_)
    refine lv_iconst (v := 0) hx hb dX5_driveOnLinks_23 (by decide) ?_
    refine lv_istore_n (lv' := [(3, .int 0), (2, .int (fmod ((a 0 0) 0) ((a 1 0) 0))), (1, .int ((a 1 0) 0)), (0, .ref (L 0 0))]) hx hb dX5_driveOnLinks_24 rfl hl (by decide) rfl (fun ls hl => ?_)
    have h0 : 0 < nL a := by
      have h2 : (1 : Int32).toInt ≤ (a 1 0 0).toInt := Int32.le_iff_toInt_le.mp c_1
      have h3 : ((nL a : Nat) : Int) = (a 1 0 0).toInt := m_tn hw.1.1.1
      have h4 : (1 : Int32).toInt = 1 := rfl
      omega
    have hNL : nL a ≤ 24 := in_le hw.1.1
    obtain ⟨f9, hf9, ef9⟩ := fmod_in (N := nL a) hck (in_nI hw.1.1) h0 hNL
    have hln : ∀ j, j < nL a → ∃ r, T_lnum (fmod (a 0 0 0) (a 1 0 0)) (a 1 0 0) j = nI r ∧ r < nL a := fun j hj => by
      obtain ⟨r, e, hr⟩ := lnum_in hf9 hj hNL
      exact ⟨r, by rw [ef9, in_nI hw.1.1]; exact e, hr⟩
    have hN : nL a ≤ 24 := hNL
    refine W.widen (k := (fun i => (0 + 0) + 3 * cT tr * i) 0) (n := (fun i => (0 + 0) + 3 * pB tr Bd * i) 0) (Nat.le_refl _) (Nat.le_refl _) ?_
    refine tp_for (σ := Kap × Tau) (nL a) (fun i => (0 + 0) + 3 * cT tr * i) (fun i => (0 + 0) + 3 * pB tr Bd * i) (fun (i : Nat) (x : Kap × Tau) (H : Heap) (locs : List Loc) (ls : Array Slot) => Hid L tr (itN (T_link (fmod (a 0 0 0) (a 1 0 0)) (a 1 0 0)) i a) x.1 x.2 ∧ mw (dC, dI) vwCl A (TW cy L tr (itN (T_link (fmod (a 0 0 0) (a 1 0 0)) (a 1 0 0)) i a) x.1 x.2) H ∧ va_S A s.heap H locs ∧ lv_has ls 9 [(3, .int (nI i)), (2, .int (fmod ((a 0 0) 0) ((a 1 0) 0))), (1, .int ((a 1 0) 0)), (0, .ref (L 0 0))]) ?_ ?_ (nL a) 0 (Nat.zero_add _) (κ, τ) _ _ ls ⟨hh, hP, hS, lv_sub hl [0, 1, 2, 3] rfl⟩
    · rintro ⟨κ9, τ9⟩ H locs ls ⟨hh9, hP, hS, hl⟩
      have hl : lv_has ls 9 [(3, .int (nI (nL a))), (2, .int (fmod ((a 0 0) 0) ((a 1 0) 0))), (1, .int ((a 1 0) 0)), (0, .ref (L 0 0))] := hl
      have hP : mw (dC, dI) vwCl A (TW cy L tr (itN (T_link (fmod (a 0 0 0) (a 1 0 0)) (a 1 0 0)) (nL a) a) κ9 τ9) H := hP
      have hh9 : Hid L tr (itN (T_link (fmod (a 0 0 0) (a 1 0 0)) (a 1 0 0)) (nL a) a) κ9 τ9 := hh9
      show W _ _ _ _ _ _ _ _ _ _ _ _ ((0 + 0) + 3 * cT tr * (nL a)) ((0 + 0) + 3 * pB tr Bd * (nL a)) _ _
      obtain ⟨b1, eb1⟩ : ∃ z : St, z = itN (T_link (fmod (a 0 0 0) (a 1 0 0)) (a 1 0 0)) (nL a) a := ⟨_, rfl⟩
      rw [← eb1] at hP
      rw [← eb1] at hh9
      have q3 : 3 * cT tr * (nL a) ≤ 72 * cT tr := m_tot72 hN
      have q4 : 3 * pB tr Bd * (nL a) ≤ 72 * pB tr Bd := m_tot72 hN
      refine lv_iload_n hx hb dX5_driveOnLinks_25 rfl (lv_at hl 0 rfl) ?_
      refine lv_iload_n hx hb dX5_driveOnLinks_26 rfl (lv_at hl 2 rfl) ?_
      refine W.eq (g2 := F0 m 27 ls [.int (nI (nL a)), .int (nI (nL a))]) (by rw [in_nI hw.1.1]) ?_
      refine lv_icmp_ge (tgt := 129) hx hb dX5_driveOnLinks_27 (by decide) (fun _ => ?_) (fun c_2 => absurd (Int32.le_refl _) c_2)
      refine W.widen (k := 72 * cT tr) (n := 72 * pB tr Bd) (by show (0 + 0) + 3 * cT tr * (nL a) + 0 ≤ 72 * cT tr; omega) (by show (0 + 0) + 3 * pB tr Bd * (nL a) + 0 ≤ 72 * pB tr Bd; omega) ?_
      have s_1 : b1 = T_links a := by
        unfold T_links
        rw [if_pos c_1, eb1]
      rw [s_1] at hP
      have g_1 : Hid L tr (T_links a) κ9 τ9 := by
        rw [← s_1]
        exact hh9
      exact W.vret hx hb hr (fun t ht hW => ⟨⟨(), rfl, trivial, ⟨κ9, τ9, g_1, by show mw _ _ _ _ t.heap; rw [ht]; exact hP⟩⟩, hS.F ht⟩) hS.2.2 dX5_driveOnLinks_129
    · rintro i ⟨κ9, τ9⟩ H locs ls hi ⟨hh9, hP, hS, hl⟩ ih
      have hl : lv_has ls 9 [(3, .int (nI i)), (2, .int (fmod ((a 0 0) 0) ((a 1 0) 0))), (1, .int ((a 1 0) 0)), (0, .ref (L 0 0))] := hl
      have hP : mw (dC, dI) vwCl A (TW cy L tr (itN (T_link (fmod (a 0 0 0) (a 1 0 0)) (a 1 0 0)) i a) κ9 τ9) H := hP
      have hh9 : Hid L tr (itN (T_link (fmod (a 0 0 0) (a 1 0 0)) (a 1 0 0)) i a) κ9 τ9 := hh9
      show W _ _ _ _ _ _ _ _ _ _ _ _ ((0 + 0) + 3 * cT tr * i) ((0 + 0) + 3 * pB tr Bd * i) _ _
      obtain ⟨b1, eb1⟩ : ∃ z : St, z = itN (T_link (fmod (a 0 0 0) (a 1 0 0)) (a 1 0 0)) i a := ⟨_, rfl⟩
      rw [← eb1] at hP
      rw [← eb1] at hh9
      have q1 : 3 * cT tr * i + 3 * cT tr = 3 * cT tr * (i + 1) := (Nat.mul_succ _ _).symm
      have q2 : 3 * pB tr Bd * i + 3 * pB tr Bd = 3 * pB tr Bd * (i + 1) := (Nat.mul_succ _ _).symm
      have q3 : 3 * cT tr * (i + 1) ≤ 72 * cT tr := m_tot72 (by omega)
      have q4 : 3 * pB tr Bd * (i + 1) ≤ 72 * pB tr Bd := m_tot72 (by omega)
      have hwb1 : Wf (M + 3 * i) b1 := by rw [eb1]; exact itN_up (k := 3) (N := nL a) hw (fun j K b hj hK hb => T_link_Wf (by obtain ⟨r, e, hr⟩ := hln j hj; rw [e, nI_clamp (by omega)]; omega) (by omega) hb) i (Nat.le_of_lt hi)
      obtain ⟨r9, hr9, hrN⟩ := hln i hi
      have hr24 : r9 < 24 := by omega
      refine lv_iload_n hx hb dX5_driveOnLinks_25 rfl (lv_at hl 0 rfl) ?_
      refine lv_iload_n hx hb dX5_driveOnLinks_26 rfl (lv_at hl 2 rfl) ?_
      refine W.eq (g2 := F0 m 27 ls [.int (nI (nL a)), .int (nI i)]) (by rw [in_nI hw.1.1]) ?_
      refine lv_icmp_ge (tgt := 129) hx hb dX5_driveOnLinks_27 (by decide) (fun c_3 => absurd c_3 (nI_ge hi (by omega))) (fun _ => ?_)
      suffices h50 : ∀ ls : Array Slot, lv_has ls 9 [(4, .int (nI r9)), (3, .int (nI i)), (2, .int (fmod ((a 0 0) 0) ((a 1 0) 0))), (1, .int ((a 1 0) 0)), (0, .ref (L 0 0))] → W p l e _ s m _ below meth c H locs ((0 + 0) + 3 * cT tr * i) ((0 + 0) + 3 * pB tr Bd * i) _ (F0 m 50 ls []) by
        refine lv_iload_n hx hb dX5_driveOnLinks_30 rfl (lv_at hl 1 rfl) ?_
        refine lv_iload_n hx hb dX5_driveOnLinks_31 rfl (lv_at hl 0 rfl) ?_
        refine lv_iadd hx hb dX5_driveOnLinks_32 ?_
        refine lv_iload_n hx hb dX5_driveOnLinks_33 rfl (lv_at hl 2 rfl) ?_
        refine lv_icmp_ge (tgt := 43) hx hb dX5_driveOnLinks_34 (by decide) (fun c_4 => ?_) (fun c_4 => ?_)
        · refine lv_iload_n hx hb dX5_driveOnLinks_43 rfl (lv_at hl 1 rfl) ?_
          refine lv_iload_n hx hb dX5_driveOnLinks_44 rfl (lv_at hl 0 rfl) ?_
          refine lv_iadd hx hb dX5_driveOnLinks_45 ?_
          refine lv_iload_n hx hb dX5_driveOnLinks_46 rfl (lv_at hl 2 rfl) ?_
          refine lv_isub hx hb dX5_driveOnLinks_47 ?_
          have e48 : ((fmod ((a 0 0) 0) ((a 1 0) 0)) + (nI i)) - ((a 1 0) 0) = nI r9 := by rw [← hr9]; unfold T_lnum; rw [if_pos c_4]
          refine W.eq (g2 := F0 m 48 ls [.int (nI r9)]) (by rw [e48]) ?_
          refine lv_istore (lv' := [(4, .int (nI r9)), (3, .int (nI i)), (2, .int (fmod ((a 0 0) 0) ((a 1 0) 0))), (1, .int ((a 1 0) 0)), (0, .ref (L 0 0))]) hx hb dX5_driveOnLinks_48 hl (by decide) rfl (fun ls hl => ?_)
          exact h50 ls (lv_sub hl [0, 1, 2, 3, 4] rfl)
        · refine lv_iload_n hx hb dX5_driveOnLinks_37 rfl (lv_at hl 1 rfl) ?_
          refine lv_iload_n hx hb dX5_driveOnLinks_38 rfl (lv_at hl 0 rfl) ?_
          refine lv_iadd hx hb dX5_driveOnLinks_39 ?_
          refine lv_goto (tgt := 48) hx hb dX5_driveOnLinks_40 (by decide) ?_
          have e48 : (fmod ((a 0 0) 0) ((a 1 0) 0)) + (nI i) = nI r9 := by rw [← hr9]; unfold T_lnum; rw [if_neg c_4]
          refine W.eq (g2 := F0 m 48 ls [.int (nI r9)]) (by rw [e48]) ?_
          refine lv_istore (lv' := [(4, .int (nI r9)), (3, .int (nI i)), (2, .int (fmod ((a 0 0) 0) ((a 1 0) 0))), (1, .int ((a 1 0) 0)), (0, .ref (L 0 0))]) hx hb dX5_driveOnLinks_48 hl (by decide) rfl (fun ls hl => ?_)
          exact h50 ls (lv_sub hl [0, 1, 2, 3, 4] rfl)
      clear hl
      intro ls hl
      refine lv_aload_n hx hb dX5_driveOnLinks_50 rfl (lv_at hl 4 rfl) ?_
      refine va_get (D := (dC, dI)) (ws := [(L 0 0, .inr (5, [.ref (L 1 0), .ref (L 20 0), .ref (L 21 0), .ref (L 22 0), .ref (L 23 0), va_rf tr, .int ((b1 0 0) 0), .int ((b1 0 0) 1), .int ((b1 0 0) 2), .int ((b1 0 0) 3), .int ((b1 0 0) 4), .int ((b1 0 0) 5)]))]) (ci := 5) (v := .ref (L 1 0)) (C := RX5) (T := TX5) (N := 12) hx hb hts tl_X5 hown hK (hP.one (tw_mem (f := 0) (i := 0) (by decide) rfl)) 0 rfl rfl 0 (by decide) (hts _ tw_873) (fun _ h9 => h9) rfl dX5_driveOnLinks_51 ?_
      refine va_getN (D := (dC, dI)) (ws := [(L 1 0, .inr (2, [.ref (L 24 0), .int ((b1 1 0) 0), .ref (L 25 0), .int κ9.1]))]) (ci := 2) (v := .ref (L 24 0)) (C := RX2) (T := TX2) (N := 4) hx hb hts tl_X2 hown hK (hP.one (tw_mem (f := 1) (i := 0) (by decide) rfl)) 0 rfl rfl 0 (by decide) (va_Nw.use rfl (te_f24 hE)) (fun _ h9 => h9) rfl dX5_driveOnLinks_54 ?_
      refine lv_iload hx hb dX5_driveOnLinks_57 (lv_at hl 0 rfl) ?_
      have j_1 : (nI r9 : Int32).toNatClampNeg = r9 := m_cl rfl hr24 (by decide)
      refine va_aldq hx hb hK (ws := [(L 24 0, .inl (cy 3, 24, .inr (.inr (.inr (.inr (fun j => some (L 2 j)))))))]) (hP.one (tw_mem (f := 24) (i := 0) (by decide) rfl)) 0 3 rfl rfl (m_in rfl hr24 (by decide)) dX5_driveOnLinks_59 ?_
      refine W.eq (g2 := F0 m 60 ls [.ref (L 2 r9)]) (by first | (rw [j_1]; done) | (rw [j_1]; rfl)) ?_
      refine lv_astore (lv' := [(5, .ref (L 2 r9)), (4, .int (nI r9)), (3, .int (nI i)), (2, .int (fmod ((a 0 0) 0) ((a 1 0) 0))), (1, .int ((a 1 0) 0)), (0, .ref (L 0 0))]) hx hb dX5_driveOnLinks_60 hl (by decide) rfl (fun ls hl => ?_)
      refine lv_aload_n hx hb dX5_driveOnLinks_62 rfl (lv_at hl 5 rfl) ?_
      refine va_get (D := (dC, dI)) (ws := [(L 0 0, .inr (5, [.ref (L 1 0), .ref (L 20 0), .ref (L 21 0), .ref (L 22 0), .ref (L 23 0), va_rf tr, .int ((b1 0 0) 0), .int ((b1 0 0) 1), .int ((b1 0 0) 2), .int ((b1 0 0) 3), .int ((b1 0 0) 4), .int ((b1 0 0) 5)]))]) (ci := 5) (v := .ref (L 20 0)) (C := RX5) (T := TX5) (N := 12) hx hb hts tl_X5 hown hK (hP.one (tw_mem (f := 0) (i := 0) (by decide) rfl)) 0 rfl rfl 1 (by decide) (hts _ tw_875) (fun _ h9 => h9) rfl dX5_driveOnLinks_63 ?_
      refine lv_aload hx hb dX5_driveOnLinks_66 (lv_at hl 0 rfl) ?_
      refine va_getN (D := (dC, dI)) (ws := [(L 2 r9, .inr (1, [.int ((b1 2 r9) 0), .int ((b1 2 r9) 1), .int ((b1 2 r9) 2), .int ((b1 2 r9) 3), .int ((b1 2 r9) 4), .int ((b1 2 r9) 5), .int ((b1 2 r9) 6), .int ((b1 2 r9) 7), .int ((b1 2 r9) 8), .ref (L 3 r9), .ref (L 5 r9), .int ((b1 2 r9) 9), .int ((b1 2 r9) 10), .int ((b1 2 r9) 11), .int ((b1 2 r9) 12), .ref (L 7 r9)]))]) (ci := 1) (v := .int ((b1 2 r9) 1)) (C := RX1) (T := TX1) (N := 16) hx hb hts tl_X1 hown hK (hP.one (tw_mem (f := 2) (i := r9) hr24 rfl)) 0 rfl rfl 1 (by decide) (va_Nw.use rfl (te_f4 hE)) (fun _ h9 => h9) rfl dX5_driveOnLinks_68 ?_
      have j_2 : ((b1 2 r9) 1 : Int32).toNatClampNeg = (b1 2 r9 1).toNatClampNeg := m_cl (in_nI (hwb1.2.1 r9 hr24).2.1) (in_lt (hwb1.2.1 r9 hr24).2.1) (by decide)
      refine va_aldq hx hb hK (ws := [(L 20 0, .inl (cy 4, 12, .inr (.inr (.inr (.inr (fun j => some (L 8 j)))))))]) (hP.one (tw_mem (f := 20) (i := 0) (by decide) rfl)) 0 4 rfl rfl (m_in (in_nI (hwb1.2.1 r9 hr24).2.1) (in_lt (hwb1.2.1 r9 hr24).2.1) (by decide)) dX5_driveOnLinks_71 ?_
      refine W.eq (g2 := F0 m 72 ls [.ref (L 8 ((b1 2 r9 1).toNatClampNeg))]) (by first | (rw [j_2]; done) | (rw [j_2]; rfl)) ?_
      refine lv_iload hx hb dX5_driveOnLinks_72 (lv_at hl 1 rfl) ?_
      have hFc := m_free (C := (TW cy L tr b1 κ9 τ9)) hP hS hA (fun _ _ h => h)
      refine va_calli (va_runV (As := [.int (nI r9)]) (rest := []) ⟨hx, hb, hml, hown, hts⟩ (c_Signal_isGreen l dC dI cy L tr b1 κ9 τ9 ((b1 2 r9 1).toNatClampNeg) (nI r9) H.size hh9.1 (in_lt (hwb1.2.1 r9 hr24).2.1) (hwb1.2.2.1 _ (in_lt (hwb1.2.1 r9 hr24).2.1)).1.2) (tp_cwV 1 hts tw_264 tw_265 tw_266 tw_27 tw_267 rfl rfl (by decide +kernel) ⟨Nat.le_of_ble_eq_true rfl, Nat.le_of_ble_eq_true rfl⟩) ⟨m_blind, va_recv hK (hP.one (e := .inr (4, [.ref (L 9 ((b1 2 r9 1).toNatClampNeg)), .ref (L 10 ((b1 2 r9 1).toNatClampNeg)), .ref (L 11 ((b1 2 r9 1).toNatClampNeg)), .int ((b1 8 ((b1 2 r9 1).toNatClampNeg)) 0), .int ((b1 8 ((b1 2 r9 1).toNatClampNeg)) 1), .int ((b1 8 ((b1 2 r9 1).toNatClampNeg)) 2)])) (tw_mem (f := 8) (i := (b1 2 r9 1).toNatClampNeg) (in_lt (hwb1.2.1 r9 hr24).2.1) rfl)) (ci := 4) (q0 := 0) rfl rfl, fun U hU hW => ⟨rfl, m_pay hK hP hE (fun _ _ h => h) U hU hW⟩⟩ rfl rfl hl.1 rfl (lv_room (Nat.le_of_ble_eq_true rfl)) dX5_driveOnLinks_74 ⟨(by show (0 + 0) + 3 * cT tr * i + 0 ≤ 72 * cT tr; omega), (by show (0 + 0) + 3 * pB tr Bd * i + 0 ≤ 72 * pB tr Bd; omega)⟩) hS (fun q _ h => hFc q h) hFc (fun r_2 u t H1 locs ht hvm hpo hB hz1 hk1 hS => ?_)
      obtain rfl := hpo
      obtain ⟨f_2, hP1⟩ := hB
      subst f_2
      rw [ht] at hP1
      have hP : mw (dC, dI) vwCl A (TW cy L tr b1 κ9 τ9) H1 := hP.join (fun _ _ h => h) hk1 hFc hP1 (fun _ _ h => Or.inl h)
      generalize H1 = H at hP hS ⊢
      clear hP1 hk1 hFc
      suffices h91 : ∀ ls : Array Slot, lv_has ls 9 [(6, .int (T_most b1 r9)), (5, .ref (L 2 r9)), (4, .int (nI r9)), (3, .int (nI i)), (2, .int (fmod ((a 0 0) 0) ((a 1 0) 0))), (1, .int ((a 1 0) 0)), (0, .ref (L 0 0))] → W p l e _ s m _ below meth c H locs ((0 + 0) + 3 * cT tr * i + 0) ((0 + 0) + 3 * pB tr Bd * i + 0) _ (F0 m 91 ls []) by
        refine lv_if_eq (tgt := 88) hx hb dX5_driveOnLinks_77 (by decide) (fun c_5 => ?_) (fun c_5 => ?_)
        · refine lv_iconst (v := 0) hx hb dX5_driveOnLinks_88 (by decide) ?_
          have e89 : (0 : Int32) = T_most b1 r9 := by unfold T_most; rw [if_pos c_5]
          refine W.eq (g2 := F0 m 89 ls [.int (T_most b1 r9)]) (by rw [e89]) ?_
          refine lv_istore (lv' := [(6, .int (T_most b1 r9)), (5, .ref (L 2 r9)), (4, .int (nI r9)), (3, .int (nI i)), (2, .int (fmod ((a 0 0) 0) ((a 1 0) 0))), (1, .int ((a 1 0) 0)), (0, .ref (L 0 0))]) hx hb dX5_driveOnLinks_89 hl (by decide) rfl (fun ls hl => ?_)
          exact h91 ls (lv_sub hl [0, 1, 2, 3, 4, 5, 6] rfl)
        · refine lv_aload hx hb dX5_driveOnLinks_80 (lv_at hl 0 rfl) ?_
          refine va_getN (D := (dC, dI)) (ws := [(L 2 r9, .inr (1, [.int ((b1 2 r9) 0), .int ((b1 2 r9) 1), .int ((b1 2 r9) 2), .int ((b1 2 r9) 3), .int ((b1 2 r9) 4), .int ((b1 2 r9) 5), .int ((b1 2 r9) 6), .int ((b1 2 r9) 7), .int ((b1 2 r9) 8), .ref (L 3 r9), .ref (L 5 r9), .int ((b1 2 r9) 9), .int ((b1 2 r9) 10), .int ((b1 2 r9) 11), .int ((b1 2 r9) 12), .ref (L 7 r9)]))]) (ci := 1) (v := .int ((b1 2 r9) 5)) (C := RX1) (T := TX1) (N := 16) hx hb hts tl_X1 hown hK (hP.one (tw_mem (f := 2) (i := r9) hr24 rfl)) 0 rfl rfl 5 (by decide) (va_Nw.use rfl (te_f10 hE)) (fun _ h9 => h9) rfl dX5_driveOnLinks_82 ?_
          refine lv_goto (tgt := 89) hx hb dX5_driveOnLinks_85 (by decide) ?_
          have e89 : ((b1 2 r9) 5 : Int32) = T_most b1 r9 := by unfold T_most; rw [if_neg c_5]
          refine W.eq (g2 := F0 m 89 ls [.int (T_most b1 r9)]) (by rw [e89]) ?_
          refine lv_istore (lv' := [(6, .int (T_most b1 r9)), (5, .ref (L 2 r9)), (4, .int (nI r9)), (3, .int (nI i)), (2, .int (fmod ((a 0 0) 0) ((a 1 0) 0))), (1, .int ((a 1 0) 0)), (0, .ref (L 0 0))]) hx hb dX5_driveOnLinks_89 hl (by decide) rfl (fun ls hl => ?_)
          exact h91 ls (lv_sub hl [0, 1, 2, 3, 4, 5, 6] rfl)
      clear hl
      intro ls hl
      refine lv_iconst (v := 1) hx hb dX5_driveOnLinks_91 (by decide) ?_
      refine lv_istore (lv' := [(7, .int 1), (6, .int (T_most b1 r9)), (5, .ref (L 2 r9)), (4, .int (nI r9)), (3, .int (nI i)), (2, .int (fmod ((a 0 0) 0) ((a 1 0) 0))), (1, .int ((a 1 0) 0)), (0, .ref (L 0 0))]) hx hb dX5_driveOnLinks_92 hl (by decide) rfl (fun ls hl => ?_)
      refine lv_iconst (v := 0) hx hb dX5_driveOnLinks_94 (by decide) ?_
      refine lv_istore (lv' := [(8, .int 0), (7, .int 1), (6, .int (T_most b1 r9)), (5, .ref (L 2 r9)), (4, .int (nI r9)), (3, .int (nI i)), (2, .int (fmod ((a 0 0) 0) ((a 1 0) 0))), (1, .int ((a 1 0) 0)), (0, .ref (L 0 0))]) hx hb dX5_driveOnLinks_95 hl (by decide) rfl (fun ls hl => ?_)
      have hmo := T_most_3 hr24 hwb1
      obtain ⟨n9, hn9⟩ : ∃ y : Nat, y = (T_most b1 r9).toNatClampNeg := ⟨_, rfl⟩
      rw [← hn9] at hmo
      refine W.widen (k := ((0 + 0) + 3 * cT tr * i + 0) + cT tr * 0) (n := ((0 + 0) + 3 * pB tr Bd * i + 0) + pB tr Bd * 0) (Nat.le_refl _) (Nat.le_refl _) ?_
      suffices hin : ∀ (d k : Nat), k + d = n9 → ∀ (bb : St) (κb : Kap) (τb : Tau) (gg : Int32), (if gg = 0 then bb else T_many r9 d bb) = T_many r9 n9 b1 → Hid L tr bb κb τb → Wf (M + 3 * i + k) bb → ∀ ls : Array Slot, lv_has ls 9 [(8, .int (nI k)), (7, .int gg), (6, .int (T_most b1 r9)), (5, .ref (L 2 r9)), (4, .int (nI r9)), (3, .int (nI i)), (2, .int (fmod ((a 0 0) 0) ((a 1 0) 0))), (1, .int ((a 1 0) 0)), (0, .ref (L 0 0))] → ∀ (H : Heap) (locs : List Loc), mw (dC, dI) vwCl A (TW cy L tr bb κb τb) H → va_S A s.heap H locs → W p l e _ s m _ below meth c H locs (((0 + 0) + 3 * cT tr * i + 0) + cT tr * k) (((0 + 0) + 3 * pB tr Bd * i + 0) + pB tr Bd * k) _ (F0 m 97 ls []) from hin n9 0 (by omega) b1 κ9 τ9 1 (by rw [if_neg (by decide)]) hh9 hwb1 ls (lv_sub hl [0, 1, 2, 3, 4, 5, 6, 7, 8] rfl) _ _ hP hS
      clear hP hS hl ls
      intro d
      induction d with
      | zero =>
        intro k hk bb κb τb gg hq hhb hwbb ls hl H locs hP hS
        have q5 : cT tr * k ≤ 3 * cT tr := m_tot3 (by omega)
        have q6 : pB tr Bd * k ≤ 3 * pB tr Bd := m_tot3 (by omega)
        refine lv_iload hx hb dX5_driveOnLinks_97 (lv_at hl 1 rfl) ?_
        refine lv_if_eq (tgt := 123) hx hb dX5_driveOnLinks_99 (by decide) (fun c_6 => ?_) (fun c_6 => ?_)
        · have hq9 : bb = T_many r9 n9 b1 := by rw [if_pos c_6] at hq; exact hq
          refine lv_iinc (v := nI (i + 1)) (lv' := [(3, .int (nI (i + 1))), (8, .int (nI k)), (7, .int gg), (6, .int (T_most b1 r9)), (5, .ref (L 2 r9)), (4, .int (nI r9)), (2, .int (fmod ((a 0 0) 0) ((a 1 0) 0))), (1, .int ((a 1 0) 0)), (0, .ref (L 0 0))]) hx hb dX5_driveOnLinks_123 hl (k := 5) rfl (nI_1 i) (by decide) rfl (fun ls hl => ?_)
          refine lv_goto (tgt := 25) hx hb dX5_driveOnLinks_126 (by decide) ?_
          have e9 : bb = itN (T_link (fmod (a 0 0 0) (a 1 0 0)) (a 1 0 0)) (i + 1) a := by
            rw [show itN (T_link (fmod (a 0 0 0) (a 1 0 0)) (a 1 0 0)) (i + 1) a = T_link (fmod (a 0 0 0) (a 1 0 0)) (a 1 0 0) i b1 from by rw [eb1]; rfl]
            unfold T_link
            rw [hr9, nI_clamp (by omega), ← hn9]
            exact hq9
          have hh8 : Hid L tr (itN (T_link (fmod (a 0 0 0) (a 1 0 0)) (a 1 0 0)) (i + 1) a) κb τb := by rw [← e9]; exact hhb
          rw [e9] at hP
          refine W.widen (k := (fun i => (0 + 0) + 3 * cT tr * i) (i + 1)) (n := (fun i => (0 + 0) + 3 * pB tr Bd * i) (i + 1)) (by show ((0 + 0) + 3 * cT tr * i + 0) + cT tr * k ≤ (0 + 0) + 3 * cT tr * (i + 1); omega) (by show ((0 + 0) + 3 * pB tr Bd * i + 0) + pB tr Bd * k ≤ (0 + 0) + 3 * pB tr Bd * (i + 1); omega) ?_
          exact ih (κb, τb) _ _ ls ⟨hh8, hP, hS, lv_sub hl [0, 6, 7, 8] rfl⟩
        · refine lv_iload hx hb dX5_driveOnLinks_102 (lv_at hl 0 rfl) ?_
          refine lv_iload hx hb dX5_driveOnLinks_104 (lv_at hl 2 rfl) ?_
          have hq9 : bb = T_many r9 n9 b1 := by rw [if_neg c_6] at hq; exact hq
          refine lv_icmp_ge (tgt := 123) hx hb dX5_driveOnLinks_106 (by decide) (fun _ => ?_) (fun c_7 => absurd (m_leN (by omega) (by omega)) c_7)
          refine lv_iinc (v := nI (i + 1)) (lv' := [(3, .int (nI (i + 1))), (8, .int (nI k)), (7, .int gg), (6, .int (T_most b1 r9)), (5, .ref (L 2 r9)), (4, .int (nI r9)), (2, .int (fmod ((a 0 0) 0) ((a 1 0) 0))), (1, .int ((a 1 0) 0)), (0, .ref (L 0 0))]) hx hb dX5_driveOnLinks_123 hl (k := 5) rfl (nI_1 i) (by decide) rfl (fun ls hl => ?_)
          refine lv_goto (tgt := 25) hx hb dX5_driveOnLinks_126 (by decide) ?_
          have e9 : bb = itN (T_link (fmod (a 0 0 0) (a 1 0 0)) (a 1 0 0)) (i + 1) a := by
            rw [show itN (T_link (fmod (a 0 0 0) (a 1 0 0)) (a 1 0 0)) (i + 1) a = T_link (fmod (a 0 0 0) (a 1 0 0)) (a 1 0 0) i b1 from by rw [eb1]; rfl]
            unfold T_link
            rw [hr9, nI_clamp (by omega), ← hn9]
            exact hq9
          have hh8 : Hid L tr (itN (T_link (fmod (a 0 0 0) (a 1 0 0)) (a 1 0 0)) (i + 1) a) κb τb := by rw [← e9]; exact hhb
          rw [e9] at hP
          refine W.widen (k := (fun i => (0 + 0) + 3 * cT tr * i) (i + 1)) (n := (fun i => (0 + 0) + 3 * pB tr Bd * i) (i + 1)) (by show ((0 + 0) + 3 * cT tr * i + 0) + cT tr * k ≤ (0 + 0) + 3 * cT tr * (i + 1); omega) (by show ((0 + 0) + 3 * pB tr Bd * i + 0) + pB tr Bd * k ≤ (0 + 0) + 3 * pB tr Bd * (i + 1); omega) ?_
          exact ih (κb, τb) _ _ ls ⟨hh8, hP, hS, lv_sub hl [0, 6, 7, 8] rfl⟩
      | succ d ihd =>
        intro k hk bb κb τb gg hq hhb hwbb ls hl H locs hP hS
        have q5 : cT tr * k ≤ 3 * cT tr := m_tot3 (by omega)
        have q6 : pB tr Bd * k ≤ 3 * pB tr Bd := m_tot3 (by omega)
        refine lv_iload hx hb dX5_driveOnLinks_97 (lv_at hl 1 rfl) ?_
        refine lv_if_eq (tgt := 123) hx hb dX5_driveOnLinks_99 (by decide) (fun c_8 => ?_) (fun c_8 => ?_)
        · have hq9 : bb = T_many r9 n9 b1 := by rw [if_pos c_8] at hq; exact hq
          refine lv_iinc (v := nI (i + 1)) (lv' := [(3, .int (nI (i + 1))), (8, .int (nI k)), (7, .int gg), (6, .int (T_most b1 r9)), (5, .ref (L 2 r9)), (4, .int (nI r9)), (2, .int (fmod ((a 0 0) 0) ((a 1 0) 0))), (1, .int ((a 1 0) 0)), (0, .ref (L 0 0))]) hx hb dX5_driveOnLinks_123 hl (k := 5) rfl (nI_1 i) (by decide) rfl (fun ls hl => ?_)
          refine lv_goto (tgt := 25) hx hb dX5_driveOnLinks_126 (by decide) ?_
          have e9 : bb = itN (T_link (fmod (a 0 0 0) (a 1 0 0)) (a 1 0 0)) (i + 1) a := by
            rw [show itN (T_link (fmod (a 0 0 0) (a 1 0 0)) (a 1 0 0)) (i + 1) a = T_link (fmod (a 0 0 0) (a 1 0 0)) (a 1 0 0) i b1 from by rw [eb1]; rfl]
            unfold T_link
            rw [hr9, nI_clamp (by omega), ← hn9]
            exact hq9
          have hh8 : Hid L tr (itN (T_link (fmod (a 0 0 0) (a 1 0 0)) (a 1 0 0)) (i + 1) a) κb τb := by rw [← e9]; exact hhb
          rw [e9] at hP
          refine W.widen (k := (fun i => (0 + 0) + 3 * cT tr * i) (i + 1)) (n := (fun i => (0 + 0) + 3 * pB tr Bd * i) (i + 1)) (by show ((0 + 0) + 3 * cT tr * i + 0) + cT tr * k ≤ (0 + 0) + 3 * cT tr * (i + 1); omega) (by show ((0 + 0) + 3 * pB tr Bd * i + 0) + pB tr Bd * k ≤ (0 + 0) + 3 * pB tr Bd * (i + 1); omega) ?_
          exact ih (κb, τb) _ _ ls ⟨hh8, hP, hS, lv_sub hl [0, 6, 7, 8] rfl⟩
        · refine lv_iload hx hb dX5_driveOnLinks_102 (lv_at hl 0 rfl) ?_
          refine lv_iload hx hb dX5_driveOnLinks_104 (lv_at hl 2 rfl) ?_
          refine lv_icmp_ge (tgt := 123) hx hb dX5_driveOnLinks_106 (by decide) (fun c_9 => absurd c_9 (m_ltN (by omega) (by omega))) (fun _ => ?_)
          have q7 : cT tr * k + cT tr = cT tr * (k + 1) := (Nat.mul_succ _ _).symm
          have q8 : pB tr Bd * k + pB tr Bd = pB tr Bd * (k + 1) := (Nat.mul_succ _ _).symm
          have q9 : cT tr * (k + 1) ≤ 3 * cT tr := m_tot3 (by omega)
          have q10 : pB tr Bd * (k + 1) ≤ 3 * pB tr Bd := m_tot3 (by omega)
          refine lv_aload_n hx hb dX5_driveOnLinks_109 rfl (lv_at hl 8 rfl) ?_
          refine lv_aload hx hb dX5_driveOnLinks_110 (lv_at hl 3 rfl) ?_
          have hFc := m_free (C := (TW cy L tr bb κb τb)) hP hS hA (fun _ _ h => h)
          refine va_calli (va_runV (As := [.ref (L 2 r9)]) (rest := []) ⟨hx, hb, hml, hown, hts⟩ (c_Traffic_firstGoesOn l dC dI cy L tr bb κb τb ((M + 3 * i + k)) Bd r9 H.size hhb.1 hwbb hhb hr24 (by omega) hB2) (tp_cwV 1 hts tw_269 tw_271 tw_7 tw_21 tw_272 rfl rfl (by decide +kernel) ⟨Nat.le_of_ble_eq_true rfl, Nat.le_of_ble_eq_true rfl⟩) ⟨m_blind, va_recv hK (hP.one (e := .inr (5, [.ref (L 1 0), .ref (L 20 0), .ref (L 21 0), .ref (L 22 0), .ref (L 23 0), va_rf tr, .int ((bb 0 0) 0), .int ((bb 0 0) 1), .int ((bb 0 0) 2), .int ((bb 0 0) 3), .int ((bb 0 0) 4), .int ((bb 0 0) 5)])) (tw_mem (f := 0) (i := 0) (by decide) rfl)) (ci := 5) (q0 := 0) rfl rfl, fun U hU hW => ⟨rfl, m_pay hK hP hE (fun _ _ h => h) U hU hW⟩⟩ rfl rfl hl.1 rfl (lv_room (Nat.le_of_ble_eq_true rfl)) dX5_driveOnLinks_112 ⟨(by show ((0 + 0) + 3 * cT tr * i + 0) + cT tr * k + (cT tr) ≤ 72 * cT tr; omega), (by show ((0 + 0) + 3 * pB tr Bd * i + 0) + pB tr Bd * k + (pB tr Bd) ≤ 72 * pB tr Bd; omega)⟩) hS (fun q _ h => hFc q h) hFc (fun r_3 u t H1 locs ht hvm hpo hB hz1 hk1 hS => ?_)
          obtain rfl := hpo
          obtain ⟨z_1, z_2, f_3, f_4, hP1⟩ := hB
          subst f_3
          rw [ht] at hP1
          have hP : mw (dC, dI) vwCl A (TW cy L tr ((T_first bb r9).1) z_1 z_2) H1 := hP.join (fun _ _ h => h) hk1 hFc hP1 (fun _ _ h => Or.inl h)
          generalize H1 = H at hP hS ⊢
          clear hP1 hk1 hFc
          obtain ⟨b2, eb2⟩ : ∃ z : St, z = (T_first bb r9).1 := ⟨_, rfl⟩
          rw [← eb2] at hP
          refine lv_istore (lv' := [(7, .int ((T_first bb r9).2)), (8, .int (nI k)), (6, .int (T_most b1 r9)), (5, .ref (L 2 r9)), (4, .int (nI r9)), (3, .int (nI i)), (2, .int (fmod ((a 0 0) 0) ((a 1 0) 0))), (1, .int ((a 1 0) 0)), (0, .ref (L 0 0))]) hx hb dX5_driveOnLinks_115 hl (by decide) rfl (fun ls hl => ?_)
          refine lv_iinc (v := nI (k + 1)) (lv' := [(8, .int (nI (k + 1))), (7, .int ((T_first bb r9).2)), (6, .int (T_most b1 r9)), (5, .ref (L 2 r9)), (4, .int (nI r9)), (3, .int (nI i)), (2, .int (fmod ((a 0 0) 0) ((a 1 0) 0))), (1, .int ((a 1 0) 0)), (0, .ref (L 0 0))]) hx hb dX5_driveOnLinks_117 hl (k := 1) rfl (nI_1 k) (by decide) rfl (fun ls hl => ?_)
          refine lv_goto (tgt := 97) hx hb dX5_driveOnLinks_120 (by decide) ?_
          refine W.widen (k := ((0 + 0) + 3 * cT tr * i + 0) + cT tr * (k + 1)) (n := ((0 + 0) + 3 * pB tr Bd * i + 0) + pB tr Bd * (k + 1)) (by omega) (by omega) ?_
          exact ihd (k + 1) (by omega) b2 z_1 z_2 (T_first bb r9).2 (by rw [← hq, if_neg c_8, eb2]; rfl) (by rw [eb2]; exact f_4) (by rw [eb2]; exact T_first_Wf (M := M + 3 * i + k) hr24 (by omega) hwbb) ls (lv_sub hl [0, 1, 2, 3, 4, 5, 6, 7, 8] rfl) H locs hP hS
  · refine W.widen (k := 72 * cT tr) (n := 72 * pB tr Bd) (by show 0 + 0 ≤ 72 * cT tr; omega) (by show 0 + 0 ≤ 72 * pB tr Bd; omega) ?_
    have s_2 : a = T_links a := by
      unfold T_links
      rw [if_neg c_1]
    rw [s_2] at hP
    have g_2 : Hid L tr (T_links a) κ τ := by
      rw [← s_2]
      exact hh
    exact W.vret hx hb hr (fun t ht hW => ⟨⟨(), rfl, trivial, ⟨κ, τ, g_2, by show mw _ _ _ _ t.heap; rw [ht]; exact hP⟩⟩, hS.F ht⟩) hS.2.2 dX5_driveOnLinks_13
end
section
theorem tw_169 : Cond.code yX2_playSlowTick cX2_playSlowTick 2 none ∈ tp_all := tp_mem 169 (by decide +kernel) rfl
theorem tw_166 : Cond.methodLink RX5 62 yX2_playSlowTick ∈ tp_all := tp_mem 166 (by decide +kernel) rfl
theorem tw_167 : Cond.instanceMethod yX2_playSlowTick ∈ tp_all := tp_mem 167 (by decide +kernel) rfl
theorem tw_168 : Cond.selects RX2 yX2_playSlowTick yX2_playSlowTick ∈ tp_all := tp_mem 168 (by decide +kernel) rfl
theorem tw_887 : Cond.fieldLink RX5 42 "Turnpike$Traffic" "refresh" "I" ∈ tp_all := tp_mem 887 (by decide +kernel) rfl
theorem tw_177 : Cond.code yX2_reckonCostsIn cX2_reckonCostsIn 4 none ∈ tp_all := tp_mem 177 (by decide +kernel) rfl
theorem tw_174 : Cond.methodLink RX5 68 yX2_reckonCostsIn ∈ tp_all := tp_mem 174 (by decide +kernel) rfl
theorem tw_175 : Cond.instanceMethod yX2_reckonCostsIn ∈ tp_all := tp_mem 175 (by decide +kernel) rfl
theorem tw_176 : Cond.selects RX2 yX2_reckonCostsIn yX2_reckonCostsIn ∈ tp_all := tp_mem 176 (by decide +kernel) rfl
theorem tw_195 : Cond.code yX5_bringVehicles cX5_bringVehicles 2 none ∈ tp_all := tp_mem 195 (by decide +kernel) rfl
theorem tw_191 : Cond.methodLink RX5 71 yX5_bringVehicles ∈ tp_all := tp_mem 191 (by decide +kernel) rfl
theorem tw_193 : Cond.instanceMethod yX5_bringVehicles ∈ tp_all := tp_mem 193 (by decide +kernel) rfl
theorem tw_2 : Cond.selects RX5 yX5_bringVehicles yX5_bringVehicles ∈ tp_all := tp_mem 2 (by decide +kernel) rfl
theorem tw_235 : Cond.code yX5_playSignals cX5_playSignals 2 none ∈ tp_all := tp_mem 235 (by decide +kernel) rfl
theorem tw_232 : Cond.methodLink RX5 74 yX5_playSignals ∈ tp_all := tp_mem 232 (by decide +kernel) rfl
theorem tw_234 : Cond.instanceMethod yX5_playSignals ∈ tp_all := tp_mem 234 (by decide +kernel) rfl
theorem tw_4 : Cond.selects RX5 yX5_playSignals yX5_playSignals ∈ tp_all := tp_mem 4 (by decide +kernel) rfl
theorem tw_260 : Cond.code yX5_driveOnLinks cX5_driveOnLinks 9 none ∈ tp_all := tp_mem 260 (by decide +kernel) rfl
theorem tw_257 : Cond.methodLink RX5 77 yX5_driveOnLinks ∈ tp_all := tp_mem 257 (by decide +kernel) rfl
theorem tw_259 : Cond.instanceMethod yX5_driveOnLinks ∈ tp_all := tp_mem 259 (by decide +kernel) rfl
theorem tw_6 : Cond.selects RX5 yX5_driveOnLinks yX5_driveOnLinks ∈ tp_all := tp_mem 6 (by decide +kernel) rfl
theorem tw_359 : Cond.code yX5_driveFromNodes cX5_driveFromNodes 4 none ∈ tp_all := tp_mem 359 (by decide +kernel) rfl
theorem tw_356 : Cond.methodLink RX5 80 yX5_driveFromNodes ∈ tp_all := tp_mem 356 (by decide +kernel) rfl
theorem tw_358 : Cond.instanceMethod yX5_driveFromNodes ∈ tp_all := tp_mem 358 (by decide +kernel) rfl
theorem tw_11 : Cond.selects RX5 yX5_driveFromNodes yX5_driveFromNodes ∈ tp_all := tp_mem 11 (by decide +kernel) rfl
theorem tw_364 : Cond.code yX2_countQueuesIn cX2_countQueuesIn 3 none ∈ tp_all := tp_mem 364 (by decide +kernel) rfl
theorem tw_361 : Cond.methodLink RX5 83 yX2_countQueuesIn ∈ tp_all := tp_mem 361 (by decide +kernel) rfl
theorem tw_362 : Cond.instanceMethod yX2_countQueuesIn ∈ tp_all := tp_mem 362 (by decide +kernel) rfl
theorem tw_363 : Cond.selects RX2 yX2_countQueuesIn yX2_countQueuesIn ∈ tp_all := tp_mem 363 (by decide +kernel) rfl
theorem dX5_tick_0 : decode cX5_tick 0 = .ok (.aload_n 0, 1) := by decide +kernel
theorem dX5_tick_1 : decode cX5_tick 1 = .ok (.getfield 12, 3) := by decide +kernel
theorem dX5_tick_4 : decode cX5_tick 4 = .ok (.invokevirtual 62, 3) := by decide +kernel
theorem dX5_tick_7 : decode cX5_tick 7 = .ok (.aload_n 0, 1) := by decide +kernel
theorem dX5_tick_8 : decode cX5_tick 8 = .ok (.getfield 42, 3) := by decide +kernel
theorem dX5_tick_11 : decode cX5_tick 11 = .ok (.ifCond .le 26, 3) := by decide +kernel
theorem dX5_tick_14 : decode cX5_tick 14 = .ok (.aload_n 0, 1) := by decide +kernel
theorem dX5_tick_15 : decode cX5_tick 15 = .ok (.getfield 65, 3) := by decide +kernel
theorem dX5_tick_18 : decode cX5_tick 18 = .ok (.aload_n 0, 1) := by decide +kernel
theorem dX5_tick_19 : decode cX5_tick 19 = .ok (.getfield 42, 3) := by decide +kernel
theorem dX5_tick_22 : decode cX5_tick 22 = .ok (.irem, 1) := by decide +kernel
theorem dX5_tick_23 : decode cX5_tick 23 = .ok (.ifCond .ne 14, 3) := by decide +kernel
theorem dX5_tick_26 : decode cX5_tick 26 = .ok (.aload_n 0, 1) := by decide +kernel
theorem dX5_tick_27 : decode cX5_tick 27 = .ok (.getfield 12, 3) := by decide +kernel
theorem dX5_tick_30 : decode cX5_tick 30 = .ok (.aload_n 0, 1) := by decide +kernel
theorem dX5_tick_31 : decode cX5_tick 31 = .ok (.getfield 65, 3) := by decide +kernel
theorem dX5_tick_34 : decode cX5_tick 34 = .ok (.invokevirtual 68, 3) := by decide +kernel
theorem dX5_tick_37 : decode cX5_tick 37 = .ok (.aload_n 0, 1) := by decide +kernel
theorem dX5_tick_38 : decode cX5_tick 38 = .ok (.invokevirtual 71, 3) := by decide +kernel
theorem dX5_tick_41 : decode cX5_tick 41 = .ok (.aload_n 0, 1) := by decide +kernel
theorem dX5_tick_42 : decode cX5_tick 42 = .ok (.invokevirtual 74, 3) := by decide +kernel
theorem dX5_tick_45 : decode cX5_tick 45 = .ok (.aload_n 0, 1) := by decide +kernel
theorem dX5_tick_46 : decode cX5_tick 46 = .ok (.invokevirtual 77, 3) := by decide +kernel
theorem dX5_tick_49 : decode cX5_tick 49 = .ok (.aload_n 0, 1) := by decide +kernel
theorem dX5_tick_50 : decode cX5_tick 50 = .ok (.invokevirtual 80, 3) := by decide +kernel
theorem dX5_tick_53 : decode cX5_tick 53 = .ok (.aload_n 0, 1) := by decide +kernel
theorem dX5_tick_54 : decode cX5_tick 54 = .ok (.getfield 12, 3) := by decide +kernel
theorem dX5_tick_57 : decode cX5_tick 57 = .ok (.aload_n 0, 1) := by decide +kernel
theorem dX5_tick_58 : decode cX5_tick 58 = .ok (.getfield 65, 3) := by decide +kernel
theorem dX5_tick_61 : decode cX5_tick 61 = .ok (.invokevirtual 83, 3) := by decide +kernel
theorem dX5_tick_64 : decode cX5_tick 64 = .ok (.aload_n 0, 1) := by decide +kernel
theorem dX5_tick_65 : decode cX5_tick 65 = .ok (.dup, 1) := by decide +kernel
theorem dX5_tick_66 : decode cX5_tick 66 = .ok (.getfield 65, 3) := by decide +kernel
theorem dX5_tick_69 : decode cX5_tick 69 = .ok (.iconst 1, 1) := by decide +kernel
theorem dX5_tick_70 : decode cX5_tick 70 = .ok (.iadd, 1) := by decide +kernel
theorem dX5_tick_71 : decode cX5_tick 71 = .ok (.putfield 65, 3) := by decide +kernel
theorem dX5_tick_74 : decode cX5_tick 74 = .ok (.return_, 1) := by decide +kernel
set_option maxRecDepth 100000 in
set_option maxHeartbeats 4000000 in
/-- Traffic.tick -/
theorem c_Traffic_tick (l : Launch) (dC : Nat → ClassId) (dI : Nat → Nat → Nat) (cy : Nat → ClassId) (L : Lay) (tr : Option Nat) (a : St) (κ : Kap) (τ : Tau) (M : Nat) (Bd : Nat) (sz : Nat) (hT : TL L tr τ) (hw : Wf M a) (hh : Hid L tr a κ τ) (hMB : M + 84 ≤ Bd) (hck : 0 ≤ (a 0 0 0).toInt) (hB2 : Bd < 30000) : Met l yX5_tick (tp_w yX5_tick cX5_tick 1 none) ({ frames := 6, cells := 84 * cT tr, slots := 84 * pB tr Bd, locals := 151 }) (va_Pc [.ref (L 0 0)] (mPre dC dI cy (TW cy L tr a κ τ) sz)) (va_Qv (fun _ : Unit => True) (fun (_ : Unit) (t : State) => ∃ (κ2 : Kap), ∃ (τ2 : Tau), (Hid L tr (T_tick a) κ2 τ2) ∧ mw (dC, dI) vwCl (mA (TW cy L tr a κ τ) sz) (TW cy L tr (T_tick a) κ2 τ2) t.heap) (mA (TW cy L tr a κ τ) sz)) (84 * cT tr) (84 * pB tr Bd) (mA (TW cy L tr a κ τ) sz) := by
  refine Met.ofW (cc := cX5_tick) (maxL := 1) (ret := none) (by decide) rfl ?_
  intro p e s m args below meth c s₁ B hml hv
  obtain ⟨rfl, hsz, hP, hK, hE⟩ := hv
  have hx := B.exec
  have hb := B.bytes
  have hr := B.returns
  have hts0 := atoms_spec (ws := tp_w yX5_tick cX5_tick 1 none) B.pre
  have hts : ∀ w ∈ tp_all, w.before _ s = true := fun w h => hts0 w (List.mem_cons_of_mem _ h)
  have hown : s.vm.findClass RX5 = some m.cls := findClass_of_methodNamed B.named
  have hlocks := B.notSynchronized
  subst hsz
  have hP := hP.self s.heap.size
  generalize hAe : mA (TW cy L tr a κ τ) s.heap.size = A at hP ⊢
  have hA : ∀ q : Nat, s.heap.size ≤ q → A q := fun q h => by rw [← hAe]; exact Or.inr h
  have hS : va_S A s.heap s.heap [] := va_S.rf
  have hl9 := lv_entry ([.ref (L 0 0)]) (n := 1) (Nat.le_of_ble_eq_true rfl)
  rw [lg_entry_eq]
  generalize (lg_sl ([.ref (L 0 0)]) ++ List.replicate (1 - (lg_sl ([.ref (L 0 0)])).length) Slot.unset).toArray = ls at hl9 ⊢
  have hl : lv_has ls 1 [(0, .ref (L 0 0))] := hl9
  refine lv_aload_n hx hb dX5_tick_0 rfl (lv_at hl 0 rfl) ?_
  refine va_get (D := (dC, dI)) (ws := [(L 0 0, .inr (5, [.ref (L 1 0), .ref (L 20 0), .ref (L 21 0), .ref (L 22 0), .ref (L 23 0), va_rf tr, .int ((a 0 0) 0), .int ((a 0 0) 1), .int ((a 0 0) 2), .int ((a 0 0) 3), .int ((a 0 0) 4), .int ((a 0 0) 5)]))]) (ci := 5) (v := .ref (L 1 0)) (C := RX5) (T := TX5) (N := 12) hx hb hts tl_X5 hown hK (hP.one (tw_mem (f := 0) (i := 0) (by decide) rfl)) 0 rfl rfl 0 (by decide) (hts _ tw_873) (fun _ h9 => h9) rfl dX5_tick_1 ?_
  have hFc := m_free (C := (TW cy L tr a κ τ)) hP hS hA (fun _ _ h => h)
  refine va_callv (va_runV (As := []) (rest := []) ⟨hx, hb, hml, hown, hts⟩ (c_Roads_playSlowTick l dC dI cy L tr a κ τ M s.heap.size hT hw) (tp_cwV 0 hts tw_166 tw_167 tw_168 tw_22 tw_169 rfl rfl (by decide +kernel) ⟨Nat.le_of_ble_eq_true rfl, Nat.le_of_ble_eq_true rfl⟩) ⟨m_blind, va_recv hK (hP.one (e := .inr (2, [.ref (L 24 0), .int ((a 1 0) 0), .ref (L 25 0), .int κ.1])) (tw_mem (f := 1) (i := 0) (by decide) rfl)) (ci := 2) (q0 := 0) rfl rfl, fun U hU hW => ⟨rfl, m_pay hK hP hE (fun _ _ h => h) U hU hW⟩⟩ rfl rfl hl.1 rfl (lv_room (Nat.le_of_ble_eq_true rfl)) dX5_tick_4 ⟨(by show 0 + 0 ≤ 84 * cT tr; omega), (by show 0 + 0 ≤ 84 * pB tr Bd; omega)⟩) hS (fun q _ h => hFc q h) hFc (fun u t H1 locs ht hvm hpo hB hz1 hk1 hS => ?_)
  have hP1 := hB
  rw [ht] at hP1
  have hP : mw (dC, dI) vwCl A (TW cy L tr (G_slow a) κ τ) H1 := hP.join (fun _ _ h => h) hk1 hFc hP1 (fun _ _ h => Or.inl h)
  generalize H1 = H at hP hS ⊢
  clear hP1 hk1 hFc
  obtain ⟨b1, eb1⟩ : ∃ z : St, z = G_slow a := ⟨_, rfl⟩
  rw [← eb1] at hP
  have hw1 : Wf M b1 := by rw [eb1]; exact G_slow_Wf hw
  have hh1 : Hid L tr b1 κ τ := by rw [eb1]; exact Hid.same hw G_slow_sameR G_slow_sameT hh
  have h01 : b1 0 = a 0 := by rw [eb1]; funext j; exact G_slow_off (by decide)
  suffices h37 : ∀ (κ5 : Kap), CV (T_costs b1) κ5 → ∀ ls : Array Slot, lv_has ls 1 [(0, .ref (L 0 0))] → ∀ (H : Heap) (locs : List Loc), mw (dC, dI) vwCl A (TW cy L tr (T_costs b1) κ5 τ) H → va_S A s.heap H locs → W p l e _ s m _ below meth c H locs (0 + 0) (0 + 0) _ (F0 m 37 ls []) by
    refine lv_aload_n hx hb dX5_tick_7 rfl (lv_at hl 0 rfl) ?_
    refine va_get (D := (dC, dI)) (ws := [(L 0 0, .inr (5, [.ref (L 1 0), .ref (L 20 0), .ref (L 21 0), .ref (L 22 0), .ref (L 23 0), va_rf tr, .int ((b1 0 0) 0), .int ((b1 0 0) 1), .int ((b1 0 0) 2), .int ((b1 0 0) 3), .int ((b1 0 0) 4), .int ((b1 0 0) 5)]))]) (ci := 5) (v := .int ((b1 0 0) 1)) (C := RX5) (T := TX5) (N := 12) hx hb hts tl_X5 hown hK (hP.one (tw_mem (f := 0) (i := 0) (by decide) rfl)) 0 rfl rfl 7 (by decide) (hts _ tw_887) (fun _ h9 => h9) rfl dX5_tick_8 ?_
    refine lv_if_le (tgt := 37) hx hb dX5_tick_11 (by decide) (fun c_1 => ?_) (fun c_1 => ?_)
    · have e37 : T_costs b1 = b1 := by unfold T_costs; rw [if_pos c_1]
      rw [← e37] at hP
      exact h37 κ (by rw [e37]; exact hh1.2.1) ls (lv_sub hl [0] rfl) _ _ hP hS
    · refine lv_aload_n hx hb dX5_tick_14 rfl (lv_at hl 0 rfl) ?_
      refine va_get (D := (dC, dI)) (ws := [(L 0 0, .inr (5, [.ref (L 1 0), .ref (L 20 0), .ref (L 21 0), .ref (L 22 0), .ref (L 23 0), va_rf tr, .int ((b1 0 0) 0), .int ((b1 0 0) 1), .int ((b1 0 0) 2), .int ((b1 0 0) 3), .int ((b1 0 0) 4), .int ((b1 0 0) 5)]))]) (ci := 5) (v := .int ((b1 0 0) 0)) (C := RX5) (T := TX5) (N := 12) hx hb hts tl_X5 hown hK (hP.one (tw_mem (f := 0) (i := 0) (by decide) rfl)) 0 rfl rfl 6 (by decide) (hts _ tw_885) (fun _ h9 => h9) rfl dX5_tick_15 ?_
      refine lv_aload_n hx hb dX5_tick_18 rfl (lv_at hl 0 rfl) ?_
      refine va_get (D := (dC, dI)) (ws := [(L 0 0, .inr (5, [.ref (L 1 0), .ref (L 20 0), .ref (L 21 0), .ref (L 22 0), .ref (L 23 0), va_rf tr, .int ((b1 0 0) 0), .int ((b1 0 0) 1), .int ((b1 0 0) 2), .int ((b1 0 0) 3), .int ((b1 0 0) 4), .int ((b1 0 0) 5)]))]) (ci := 5) (v := .int ((b1 0 0) 1)) (C := RX5) (T := TX5) (N := 12) hx hb hts tl_X5 hown hK (hP.one (tw_mem (f := 0) (i := 0) (by decide) rfl)) 0 rfl rfl 7 (by decide) (hts _ tw_887) (fun _ h9 => h9) rfl dX5_tick_19 ?_
      refine lv_irem hx hb dX5_tick_22 (m_ne0 c_1) ?_
      refine lv_if_ne (tgt := 37) hx hb dX5_tick_23 (by decide) (fun c_2 => ?_) (fun c_2 => ?_)
      · have e37 : T_costs b1 = b1 := by unfold T_costs; rw [if_neg c_1, if_neg c_2]
        rw [← e37] at hP
        exact h37 κ (by rw [e37]; exact hh1.2.1) ls (lv_sub hl [0] rfl) _ _ hP hS
      · refine lv_aload_n hx hb dX5_tick_26 rfl (lv_at hl 0 rfl) ?_
        refine va_get (D := (dC, dI)) (ws := [(L 0 0, .inr (5, [.ref (L 1 0), .ref (L 20 0), .ref (L 21 0), .ref (L 22 0), .ref (L 23 0), va_rf tr, .int ((b1 0 0) 0), .int ((b1 0 0) 1), .int ((b1 0 0) 2), .int ((b1 0 0) 3), .int ((b1 0 0) 4), .int ((b1 0 0) 5)]))]) (ci := 5) (v := .ref (L 1 0)) (C := RX5) (T := TX5) (N := 12) hx hb hts tl_X5 hown hK (hP.one (tw_mem (f := 0) (i := 0) (by decide) rfl)) 0 rfl rfl 0 (by decide) (hts _ tw_873) (fun _ h9 => h9) rfl dX5_tick_27 ?_
        refine lv_aload_n hx hb dX5_tick_30 rfl (lv_at hl 0 rfl) ?_
        refine va_get (D := (dC, dI)) (ws := [(L 0 0, .inr (5, [.ref (L 1 0), .ref (L 20 0), .ref (L 21 0), .ref (L 22 0), .ref (L 23 0), va_rf tr, .int ((b1 0 0) 0), .int ((b1 0 0) 1), .int ((b1 0 0) 2), .int ((b1 0 0) 3), .int ((b1 0 0) 4), .int ((b1 0 0) 5)]))]) (ci := 5) (v := .int ((b1 0 0) 0)) (C := RX5) (T := TX5) (N := 12) hx hb hts tl_X5 hown hK (hP.one (tw_mem (f := 0) (i := 0) (by decide) rfl)) 0 rfl rfl 6 (by decide) (hts _ tw_885) (fun _ h9 => h9) rfl dX5_tick_31 ?_
        have hFc := m_free (C := (TW cy L tr b1 κ τ)) hP hS hA (fun _ _ h => h)
        refine va_callv (va_runV (As := [.int ((b1 0 0) 0)]) (rest := []) ⟨hx, hb, hml, hown, hts⟩ (c_Roads_reckonCostsIn l dC dI cy L tr b1 κ τ M ((b1 0 0) 0) H.size hT hw1 hh1.2.1) (tp_cwV 1 hts tw_174 tw_175 tw_176 tw_22 tw_177 rfl rfl (by decide +kernel) ⟨Nat.le_of_ble_eq_true rfl, Nat.le_of_ble_eq_true rfl⟩) ⟨m_blind, va_recv hK (hP.one (e := .inr (2, [.ref (L 24 0), .int ((b1 1 0) 0), .ref (L 25 0), .int κ.1])) (tw_mem (f := 1) (i := 0) (by decide) rfl)) (ci := 2) (q0 := 0) rfl rfl, fun U hU hW => ⟨rfl, m_pay hK hP hE (fun _ _ h => h) U hU hW⟩⟩ rfl rfl hl.1 rfl (lv_room (Nat.le_of_ble_eq_true rfl)) dX5_tick_34 ⟨(by show 0 + 0 + 0 ≤ 84 * cT tr; omega), (by show 0 + 0 + 0 ≤ 84 * pB tr Bd; omega)⟩) hS (fun q _ h => hFc q h) hFc (fun u t H1 locs ht hvm hpo hB hz1 hk1 hS => ?_)
        obtain ⟨z_1, f_1, hP1⟩ := hB
        rw [ht] at hP1
        have hP : mw (dC, dI) vwCl A (TW cy L tr (G_reck b1 ((b1 0 0) 0)) z_1 τ) H1 := hP.join (fun _ _ h => h) hk1 hFc hP1 (fun _ _ h => Or.inl h)
        generalize H1 = H at hP hS ⊢
        clear hP1 hk1 hFc
        obtain ⟨b2, eb2⟩ : ∃ z : St, z = G_reck b1 ((b1 0 0) 0) := ⟨_, rfl⟩
        rw [← eb2] at hP
        have e37 : T_costs b1 = b2 := by unfold T_costs; rw [if_neg c_1, if_pos c_2]; rw [eb2]
        rw [← e37] at hP
        exact h37 z_1 (by rw [e37]; exact (by rw [eb2]; exact f_1)) ls (lv_sub hl [0] rfl) _ _ hP hS
  clear hP hS hl hl9 ls
  intro κ5 hc5 ls hl H locs hP hS
  obtain ⟨b2, eb2⟩ : ∃ z : St, z = T_costs b1 := ⟨_, rfl⟩
  rw [← eb2] at hP
  rw [← eb2] at hc5
  have hw2 : Wf M b2 := by rw [eb2]; unfold T_costs; split; exact hw1; split; exact G_reck_Wf hw1; exact hw1
  have h02 : b2 0 = a 0 := by rw [eb2, ← h01]; unfold T_costs; split; rfl; split; (funext j; exact G_reck_off (by decide)); rfl
  have ht2 : TRab tr b2 τ := by rw [eb2]; unfold T_costs; split; exact hh1.2.2; split; exact TRab.same G_reck_sameT hh1.2.2; exact hh1.2.2
  refine lv_aload_n hx hb dX5_tick_37 rfl (lv_at hl 0 rfl) ?_
  have hFc := m_free (C := (TW cy L tr b2 κ5 τ)) hP hS hA (fun _ _ h => h)
  refine va_callv (va_runV (As := []) (rest := []) ⟨hx, hb, hml, hown, hts⟩ (c_Traffic_bringVehicles l dC dI cy L tr b2 κ5 τ M H.size hT hw2 hc5) (tp_cwV 0 hts tw_191 tw_193 tw_2 tw_21 tw_195 rfl rfl (by decide +kernel) ⟨Nat.le_of_ble_eq_true rfl, Nat.le_of_ble_eq_true rfl⟩) ⟨m_blind, va_recv hK (hP.one (e := .inr (5, [.ref (L 1 0), .ref (L 20 0), .ref (L 21 0), .ref (L 22 0), .ref (L 23 0), va_rf tr, .int ((b2 0 0) 0), .int ((b2 0 0) 1), .int ((b2 0 0) 2), .int ((b2 0 0) 3), .int ((b2 0 0) 4), .int ((b2 0 0) 5)])) (tw_mem (f := 0) (i := 0) (by decide) rfl)) (ci := 5) (q0 := 0) rfl rfl, fun U hU hW => ⟨rfl, m_pay hK hP hE (fun _ _ h => h) U hU hW⟩⟩ rfl rfl hl.1 rfl (lv_room (Nat.le_of_ble_eq_true rfl)) dX5_tick_38 ⟨(by show 0 + 0 + 0 ≤ 84 * cT tr; omega), (by show 0 + 0 + 0 ≤ 84 * pB tr Bd; omega)⟩) hS (fun q _ h => hFc q h) hFc (fun u t H1 locs ht hvm hpo hB hz1 hk1 hS => ?_)
  obtain ⟨z_2, f_2, hP1⟩ := hB
  rw [ht] at hP1
  have hP : mw (dC, dI) vwCl A (TW cy L tr (T_flows b2) z_2 τ) H1 := hP.join (fun _ _ h => h) hk1 hFc hP1 (fun _ _ h => Or.inl h)
  generalize H1 = H at hP hS ⊢
  clear hP1 hk1 hFc
  obtain ⟨b3, eb3⟩ : ∃ z : St, z = T_flows b2 := ⟨_, rfl⟩
  rw [← eb3] at hP
  have hw3 : Wf M b3 := by rw [eb3]; exact T_flows_Wf hw2
  have ht3 : TRab tr b3 τ := by rw [eb3]; exact T_flows_TR hw2 ht2
  have hc3 : CV b3 z_2 := by rw [eb3]; exact f_2
  refine lv_aload_n hx hb dX5_tick_41 rfl (lv_at hl 0 rfl) ?_
  have hFc := m_free (C := (TW cy L tr b3 z_2 τ)) hP hS hA (fun _ _ h => h)
  refine va_callv (va_runV (As := []) (rest := []) ⟨hx, hb, hml, hown, hts⟩ (c_Traffic_playSignals l dC dI cy L tr b3 z_2 τ M H.size hT hw3) (tp_cwV 0 hts tw_232 tw_234 tw_4 tw_21 tw_235 rfl rfl (by decide +kernel) ⟨Nat.le_of_ble_eq_true rfl, Nat.le_of_ble_eq_true rfl⟩) ⟨m_blind, va_recv hK (hP.one (e := .inr (5, [.ref (L 1 0), .ref (L 20 0), .ref (L 21 0), .ref (L 22 0), .ref (L 23 0), va_rf tr, .int ((b3 0 0) 0), .int ((b3 0 0) 1), .int ((b3 0 0) 2), .int ((b3 0 0) 3), .int ((b3 0 0) 4), .int ((b3 0 0) 5)])) (tw_mem (f := 0) (i := 0) (by decide) rfl)) (ci := 5) (q0 := 0) rfl rfl, fun U hU hW => ⟨rfl, m_pay hK hP hE (fun _ _ h => h) U hU hW⟩⟩ rfl rfl hl.1 rfl (lv_room (Nat.le_of_ble_eq_true rfl)) dX5_tick_42 ⟨(by show 0 + 0 + 0 + 0 ≤ 84 * cT tr; omega), (by show 0 + 0 + 0 + 0 ≤ 84 * pB tr Bd; omega)⟩) hS (fun q _ h => hFc q h) hFc (fun u t H1 locs ht hvm hpo hB hz1 hk1 hS => ?_)
  have hP1 := hB
  rw [ht] at hP1
  have hP : mw (dC, dI) vwCl A (TW cy L tr (T_sigs b3) z_2 τ) H1 := hP.join (fun _ _ h => h) hk1 hFc hP1 (fun _ _ h => Or.inl h)
  generalize H1 = H at hP hS ⊢
  clear hP1 hk1 hFc
  obtain ⟨b4, eb4⟩ : ∃ z : St, z = T_sigs b3 := ⟨_, rfl⟩
  rw [← eb4] at hP
  have hw4 : Wf M b4 := by rw [eb4]; exact T_sigs_Wf hw3
  have hh4 : Hid L tr b4 z_2 τ := ⟨hT, by rw [eb4]; exact CV.same (sameR.of (T_sigs_off (by decide)).symm (T_sigs_off (by decide)).symm) (in_le hw3.1.1) hc3, by rw [eb4]; exact TRab.same (sameT.of (T_sigs_off (by decide)).symm (T_sigs_off (by decide)).symm (by rw [T_sigs_off (by decide)])) ht3⟩
  have hk4 : 0 ≤ (b4 0 0 0).toInt := by rw [eb4, T_sigs_off (by decide), eb3, T_flows_00 (by decide) (by decide), h02]; exact hck
  refine lv_aload_n hx hb dX5_tick_45 rfl (lv_at hl 0 rfl) ?_
  have hFc := m_free (C := (TW cy L tr b4 z_2 τ)) hP hS hA (fun _ _ h => h)
  refine va_callv (va_runV (As := []) (rest := []) ⟨hx, hb, hml, hown, hts⟩ (c_Traffic_driveOnLinks l dC dI cy L tr b4 z_2 τ M Bd H.size hT hw4 hh4 (by omega) hk4 hB2) (tp_cwV 0 hts tw_257 tw_259 tw_6 tw_21 tw_260 rfl rfl (by decide +kernel) ⟨Nat.le_of_ble_eq_true rfl, Nat.le_of_ble_eq_true rfl⟩) ⟨m_blind, va_recv hK (hP.one (e := .inr (5, [.ref (L 1 0), .ref (L 20 0), .ref (L 21 0), .ref (L 22 0), .ref (L 23 0), va_rf tr, .int ((b4 0 0) 0), .int ((b4 0 0) 1), .int ((b4 0 0) 2), .int ((b4 0 0) 3), .int ((b4 0 0) 4), .int ((b4 0 0) 5)])) (tw_mem (f := 0) (i := 0) (by decide) rfl)) (ci := 5) (q0 := 0) rfl rfl, fun U hU hW => ⟨rfl, m_pay hK hP hE (fun _ _ h => h) U hU hW⟩⟩ rfl rfl hl.1 rfl (lv_room (Nat.le_of_ble_eq_true rfl)) dX5_tick_46 ⟨(by show 0 + 0 + 0 + 0 + (72 * cT tr) ≤ 84 * cT tr; omega), (by show 0 + 0 + 0 + 0 + (72 * pB tr Bd) ≤ 84 * pB tr Bd; omega)⟩) hS (fun q _ h => hFc q h) hFc (fun u t H1 locs ht hvm hpo hB hz1 hk1 hS => ?_)
  obtain ⟨z_3, z_4, f_3, hP1⟩ := hB
  rw [ht] at hP1
  have hP : mw (dC, dI) vwCl A (TW cy L tr (T_links b4) z_3 z_4) H1 := hP.join (fun _ _ h => h) hk1 hFc hP1 (fun _ _ h => Or.inl h)
  generalize H1 = H at hP hS ⊢
  clear hP1 hk1 hFc
  obtain ⟨b5, eb5⟩ : ∃ z : St, z = T_links b4 := ⟨_, rfl⟩
  rw [← eb5] at hP
  have hw5 : Wf (M + 72) b5 := by rw [eb5]; exact T_links_Wf hw4 (by omega) hk4
  have hh5 : Hid L tr b5 z_3 z_4 := by rw [eb5]; exact f_3
  refine lv_aload_n hx hb dX5_tick_49 rfl (lv_at hl 0 rfl) ?_
  have hFc := m_free (C := (TW cy L tr b5 z_3 z_4)) hP hS hA (fun _ _ h => h)
  refine va_callv (va_runV (As := []) (rest := []) ⟨hx, hb, hml, hown, hts⟩ (c_Traffic_driveFromNodes l dC dI cy L tr b5 z_3 z_4 ((M + 72)) Bd H.size f_3.1 hw5 hh5 (by omega) hB2) (tp_cwV 0 hts tw_356 tw_358 tw_11 tw_21 tw_359 rfl rfl (by decide +kernel) ⟨Nat.le_of_ble_eq_true rfl, Nat.le_of_ble_eq_true rfl⟩) ⟨m_blind, va_recv hK (hP.one (e := .inr (5, [.ref (L 1 0), .ref (L 20 0), .ref (L 21 0), .ref (L 22 0), .ref (L 23 0), va_rf tr, .int ((b5 0 0) 0), .int ((b5 0 0) 1), .int ((b5 0 0) 2), .int ((b5 0 0) 3), .int ((b5 0 0) 4), .int ((b5 0 0) 5)])) (tw_mem (f := 0) (i := 0) (by decide) rfl)) (ci := 5) (q0 := 0) rfl rfl, fun U hU hW => ⟨rfl, m_pay hK hP hE (fun _ _ h => h) U hU hW⟩⟩ rfl rfl hl.1 rfl (lv_room (Nat.le_of_ble_eq_true rfl)) dX5_tick_50 ⟨(by show 0 + 0 + 0 + 0 + (72 * cT tr) + (12 * cT tr) ≤ 84 * cT tr; omega), (by show 0 + 0 + 0 + 0 + (72 * pB tr Bd) + (12 * pB tr Bd) ≤ 84 * pB tr Bd; omega)⟩) hS (fun q _ h => hFc q h) hFc (fun u t H1 locs ht hvm hpo hB hz1 hk1 hS => ?_)
  obtain ⟨z_5, z_6, f_4, hP1⟩ := hB
  rw [ht] at hP1
  have hP : mw (dC, dI) vwCl A (TW cy L tr (T_nodes b5) z_5 z_6) H1 := hP.join (fun _ _ h => h) hk1 hFc hP1 (fun _ _ h => Or.inl h)
  generalize H1 = H at hP hS ⊢
  clear hP1 hk1 hFc
  obtain ⟨b6, eb6⟩ : ∃ z : St, z = T_nodes b5 := ⟨_, rfl⟩
  rw [← eb6] at hP
  have hw6 : Wf (M + 72 + 12) b6 := by rw [eb6]; exact T_nodes_Wf hw5 (by omega)
  have hh6 : Hid L tr b6 z_5 z_6 := by rw [eb6]; exact f_4
  refine lv_aload_n hx hb dX5_tick_53 rfl (lv_at hl 0 rfl) ?_
  refine va_get (D := (dC, dI)) (ws := [(L 0 0, .inr (5, [.ref (L 1 0), .ref (L 20 0), .ref (L 21 0), .ref (L 22 0), .ref (L 23 0), va_rf tr, .int ((b6 0 0) 0), .int ((b6 0 0) 1), .int ((b6 0 0) 2), .int ((b6 0 0) 3), .int ((b6 0 0) 4), .int ((b6 0 0) 5)]))]) (ci := 5) (v := .ref (L 1 0)) (C := RX5) (T := TX5) (N := 12) hx hb hts tl_X5 hown hK (hP.one (tw_mem (f := 0) (i := 0) (by decide) rfl)) 0 rfl rfl 0 (by decide) (hts _ tw_873) (fun _ h9 => h9) rfl dX5_tick_54 ?_
  refine lv_aload_n hx hb dX5_tick_57 rfl (lv_at hl 0 rfl) ?_
  refine va_get (D := (dC, dI)) (ws := [(L 0 0, .inr (5, [.ref (L 1 0), .ref (L 20 0), .ref (L 21 0), .ref (L 22 0), .ref (L 23 0), va_rf tr, .int ((b6 0 0) 0), .int ((b6 0 0) 1), .int ((b6 0 0) 2), .int ((b6 0 0) 3), .int ((b6 0 0) 4), .int ((b6 0 0) 5)]))]) (ci := 5) (v := .int ((b6 0 0) 0)) (C := RX5) (T := TX5) (N := 12) hx hb hts tl_X5 hown hK (hP.one (tw_mem (f := 0) (i := 0) (by decide) rfl)) 0 rfl rfl 6 (by decide) (hts _ tw_885) (fun _ h9 => h9) rfl dX5_tick_58 ?_
  have hFc := m_free (C := (TW cy L tr b6 z_5 z_6)) hP hS hA (fun _ _ h => h)
  refine va_callv (va_runV (As := [.int ((b6 0 0) 0)]) (rest := []) ⟨hx, hb, hml, hown, hts⟩ (c_Roads_countQueuesIn l dC dI cy L tr b6 z_5 z_6 ((M + 72 + 12)) ((b6 0 0) 0) H.size f_4.1 hw6) (tp_cwV 1 hts tw_361 tw_362 tw_363 tw_22 tw_364 rfl rfl (by decide +kernel) ⟨Nat.le_of_ble_eq_true rfl, Nat.le_of_ble_eq_true rfl⟩) ⟨m_blind, va_recv hK (hP.one (e := .inr (2, [.ref (L 24 0), .int ((b6 1 0) 0), .ref (L 25 0), .int z_5.1])) (tw_mem (f := 1) (i := 0) (by decide) rfl)) (ci := 2) (q0 := 0) rfl rfl, fun U hU hW => ⟨rfl, m_pay hK hP hE (fun _ _ h => h) U hU hW⟩⟩ rfl rfl hl.1 rfl (lv_room (Nat.le_of_ble_eq_true rfl)) dX5_tick_61 ⟨(by show 0 + 0 + 0 + 0 + (72 * cT tr) + (12 * cT tr) + 0 ≤ 84 * cT tr; omega), (by show 0 + 0 + 0 + 0 + (72 * pB tr Bd) + (12 * pB tr Bd) + 0 ≤ 84 * pB tr Bd; omega)⟩) hS (fun q _ h => hFc q h) hFc (fun u t H1 locs ht hvm hpo hB hz1 hk1 hS => ?_)
  have hP1 := hB
  rw [ht] at hP1
  have hP : mw (dC, dI) vwCl A (TW cy L tr (G_cq b6 ((b6 0 0) 0)) z_5 z_6) H1 := hP.join (fun _ _ h => h) hk1 hFc hP1 (fun _ _ h => Or.inl h)
  generalize H1 = H at hP hS ⊢
  clear hP1 hk1 hFc
  obtain ⟨b7, eb7⟩ : ∃ z : St, z = G_cq b6 ((b6 0 0) 0) := ⟨_, rfl⟩
  rw [← eb7] at hP
  have hw7 : Wf (M + 72 + 12) b7 := by rw [eb7]; exact G_cq_Wf hw6
  have hh7 : Hid L tr b7 z_5 z_6 := by rw [eb7]; exact Hid.same hw6 G_cq_sameR G_cq_sameT hh6
  refine lv_aload_n hx hb dX5_tick_64 rfl (lv_at hl 0 rfl) ?_
  refine lv_dup hx hb dX5_tick_65 rfl ?_
  refine va_get (D := (dC, dI)) (ws := [(L 0 0, .inr (5, [.ref (L 1 0), .ref (L 20 0), .ref (L 21 0), .ref (L 22 0), .ref (L 23 0), va_rf tr, .int ((b7 0 0) 0), .int ((b7 0 0) 1), .int ((b7 0 0) 2), .int ((b7 0 0) 3), .int ((b7 0 0) 4), .int ((b7 0 0) 5)]))]) (ci := 5) (v := .int ((b7 0 0) 0)) (C := RX5) (T := TX5) (N := 12) hx hb hts tl_X5 hown hK (hP.one (tw_mem (f := 0) (i := 0) (by decide) rfl)) 0 rfl rfl 6 (by decide) (hts _ tw_885) (fun _ h9 => h9) rfl dX5_tick_66 ?_
  refine lv_iconst (v := 1) hx hb dX5_tick_69 (by decide) ?_
  refine lv_iadd hx hb dX5_tick_70 ?_
  obtain ⟨ws9, k9, hPw, hDw, hk9, -, hbk⟩ := hP.cut (e := .inr (5, [.ref (L 1 0), .ref (L 20 0), .ref (L 21 0), .ref (L 22 0), .ref (L 23 0), va_rf tr, .int ((b7 0 0) 0), .int ((b7 0 0) 1), .int ((b7 0 0) 2), .int ((b7 0 0) 3), .int ((b7 0 0) 4), .int ((b7 0 0) 5)])) (tw_mem (f := 0) (i := 0) (by decide) rfl)
  refine va_put (D := (dC, dI)) (ci := 5) (v := .int (((b7 0 0) 0) + 1)) (ty := .int) (C := RX5) (T := TX5) (N := 12) hx hb hts tl_X5 tyX5 tyX5_ok nmX5 hown hK hPw hDw hS k9 hk9 rfl 6 (by decide) (hts _ tw_885) (fun _ h9 => h9) rfl (by decide +kernel) rfl rfl (Nat.le_of_ble_eq_true rfl) dX5_tick_71 (fun H locs hPw hDw hS => ?_)
  have hP : mw (dC, dI) vwCl A (TW cy L tr (S2 b7 0 0 (upd (b7 0 0) 0 (((b7 0 0) 0) + 1))) z_5 z_6) H := (hbk _ _ hPw hDw).sub (tw_set (b := S2 b7 0 0 (upd (b7 0 0) 0 (((b7 0 0) 0) + 1))) (f := 0) (i := 0) (x := upd (b7 0 0) 0 (((b7 0 0) 0) + 1)) f_4.1 (by decide) (by decide) rfl)
  clear hbk hPw hDw hk9
  refine W.widen (k := 84 * cT tr) (n := 84 * pB tr Bd) (by show 0 + 0 + 0 + 0 + (72 * cT tr) + (12 * cT tr) + 0 + 0 ≤ 84 * cT tr; omega) (by show 0 + 0 + 0 + 0 + (72 * pB tr Bd) + (12 * pB tr Bd) + 0 + 0 ≤ 84 * pB tr Bd; omega) ?_
  have s_1 : S2 b7 0 0 (upd (b7 0 0) 0 (((b7 0 0) 0) + 1)) = T_tick a := by
    have e6 : b6 = T_play (T_costs (G_slow a)) := by rw [eb6, eb5, eb4, eb3, eb2, eb1]; rfl
    unfold T_tick
    rw [← e6, ← eb7]
    rfl
  rw [s_1] at hP
  have g_1 : Hid L tr (T_tick a) z_5 z_6 := by
    rw [← s_1]
    exact Hid.same hw7 (sameR.off (by decide) (by decide)) (sameT.z0 (x := upd (b7 0 0) 0 (b7 0 0 0 + 1)) rfl) hh7
  exact W.vret hx hb hr (fun t ht hW => ⟨⟨(), rfl, trivial, ⟨z_5, z_6, g_1, by show mw _ _ _ _ t.heap; rw [ht]; exact hP⟩⟩, hS.F ht⟩) hS.2.2 dX5_tick_74
end
