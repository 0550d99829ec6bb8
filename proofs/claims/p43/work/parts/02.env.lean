/-! the words that a call keeps, in one list; the words of nest mates and arrays of references: an environment that a call keeps -/
def tp_all : List Cond := lw_tbl.filter goodWord
theorem tp_mem {w : Cond} (i : Nat) (h : lw_tbl[i]? = some w) (hg : goodWord w = true) : w ∈ tp_all := List.mem_filter.mpr ⟨List.mem_of_getElem? h, hg⟩
theorem tp_ins {ws : List Cond} (h : ∀ w ∈ ws, w ∈ tp_all) : GoodIn tp_all ws := fun w hw => ⟨h w hw, good_of_word (List.mem_filter.mp (h w hw)).2⟩
abbrev tp_w (y : MethodName) (b : ByteArray) (n : Nat) (ret : Option FieldType) : List Cond := Cond.code y b n ret :: tp_all
abbrev tp_wW (y : MethodName) (b : ByteArray) (n : Nat) (ret : Option FieldType) (hh : List (Nat × Nat × Nat × Nat)) : List Cond := Cond.codeWith y b n ret hh :: tp_all
theorem tp_in {c : Cond} (h : c ∈ tp_all) : GoodIn tp_all (c :: tp_all) := tp_ins fun w hw => (List.mem_cons.mp hw).elim (fun e => by rw [e]; exact h) id
theorem tp_m3 {a b c : Cond} (h1 : a ∈ tp_all) (h2 : b ∈ tp_all) (h3 : c ∈ tp_all) : ∀ w ∈ [a, b, c], w ∈ tp_all := by
  intro w hw
  simp only [List.mem_cons, List.not_mem_nil, or_false] at hw
  rcases hw with rfl | rfl | rfl <;> assumption
theorem tp_m4 {a b c d : Cond} (h1 : a ∈ tp_all) (h2 : b ∈ tp_all) (h3 : c ∈ tp_all) (h4 : d ∈ tp_all) : ∀ w ∈ [a, b, c, d], w ∈ tp_all := by
  intro w hw
  simp only [List.mem_cons, List.not_mem_nil, or_false] at hw
  rcases hw with rfl | rfl | rfl | rfl <;> assumption
theorem tp_lay {ws : List Cond} (ps : List Nat) (hp : ws = ps.filterMap (fun i => lw_tbl[i]?)) (h : ws.all goodWord = true) : ∀ w ∈ ws, w ∈ tp_all := by
  intro w hw
  refine List.mem_filter.mpr ⟨?_, List.all_eq_true.mp h w hw⟩
  rw [hp] at hw
  obtain ⟨i, -, hi⟩ := List.mem_filterMap.mp hw
  exact List.mem_of_getElem? hi
section TPC
variable {R : Room} {s : State} {args : Array Value} {own C : String} {index maxL mc ms : Nat} {y : MethodName} {bytes : ByteArray} {ret : Option FieldType} {rm : Room}
theorem tp_cwV (n : Nat) (ht : ∀ w ∈ tp_all, w.before args s = true) (q1 : Cond.methodLink own index y ∈ tp_all) (q2 : Cond.instanceMethod y ∈ tp_all) (q3 : Cond.selects C y y ∈ tp_all) (q4 : Cond.initialized C ∈ tp_all) (q5 : Cond.code y bytes maxL ret ∈ tp_all) (hrc : rm.cells = mc) (hrs : rm.slots = ms)
    (hd : y.cls = C ∧ y.cls ≠ "java/lang/invoke/MethodHandle" ∧ y.cls ≠ "java/lang/invoke/VarHandle" ∧ (parseMethodDescriptor y.desc).map (fun d => d.parameters.length) = some n) (hR : rm.frames + 1 ≤ R.frames ∧ 8 + (maxL + 11) + rm.locals ≤ R.locals) : CallW R s args own C index y bytes maxL ret (tp_w y bytes maxL ret) rm mc ms n :=
  cwV n ht (goodIn_app (tp_ins (tp_m4 q1 q2 q3 q4)) (tp_in q5)) rfl hrc hrs hd hR
theorem tp_cwS (n : Nat) (ht : ∀ w ∈ tp_all, w.before args s = true) (q1 : Cond.methodLink own index y ∈ tp_all) (q2 : Cond.static y ∈ tp_all) (q4 : Cond.initialized y.cls ∈ tp_all) (q5 : Cond.code y bytes maxL ret ∈ tp_all) (hrc : rm.cells = mc) (hrs : rm.slots = ms)
    (hd : y.cls ≠ "java/lang/invoke/MethodHandle" ∧ y.cls ≠ "java/lang/invoke/VarHandle" ∧ (parseMethodDescriptor y.desc).map (fun d => d.parameters.length) = some n) (hR : rm.frames + 1 ≤ R.frames ∧ 8 + (maxL + 11) + rm.locals ≤ R.locals) : CallB R s args own index y bytes maxL ret (tp_w y bytes maxL ret) rm mc ms n ∧ (Cond.static y).before args s = true :=
  va_cwS n ht (goodIn_app (tp_ins (tp_m3 q1 q2 q4)) (tp_in q5)) rfl hrc hrs hd hR
theorem tp_cwI (n : Nat) (ht : ∀ w ∈ tp_all, w.before args s = true) (q1 : Cond.methodLink own index y ∈ tp_all) (q2 : Cond.instanceMethod y ∈ tp_all) (q4 : Cond.initialized y.cls ∈ tp_all) (q5 : Cond.code y bytes maxL none ∈ tp_all) (hrc : rm.cells = mc) (hrs : rm.slots = ms) (hy1 : y.name = "<init>")
    (hd : y.cls ≠ "java/lang/invoke/MethodHandle" ∧ y.cls ≠ "java/lang/invoke/VarHandle" ∧ (parseMethodDescriptor y.desc).map (fun d => d.parameters.length) = some n) (hR : rm.frames + 1 ≤ R.frames ∧ 8 + (maxL + 11) + rm.locals ≤ R.locals) : CallB R s args own index y bytes maxL none (tp_w y bytes maxL none) rm mc ms n ∧ y.name = "<init>" ∧ (Cond.instanceMethod y).before args s = true :=
  cwI n ht (tp_in q5) rfl hrc hrs (ht _ q4) (ht _ q1) (ht _ q2) hy1 hd hR
theorem tp_cnB {host : String} (n : Nat) (ht : ∀ w ∈ tp_all, w.before args s = true) (hl : va_Nw (.methodLinkNest own index y host) s) (q4 : Cond.initialized y.cls ∈ tp_all) (q5 : Cond.code y bytes maxL ret ∈ tp_all) (hrc : rm.cells = mc) (hrs : rm.slots = ms)
    (hd : y.cls ≠ "java/lang/invoke/MethodHandle" ∧ y.cls ≠ "java/lang/invoke/VarHandle" ∧ (parseMethodDescriptor y.desc).map (fun d => d.parameters.length) = some n) (hR : rm.frames + 1 ≤ R.frames ∧ 8 + (maxL + 11) + rm.locals ≤ R.locals) : va_CN R s args own index y host bytes maxL ret (tp_w y bytes maxL ret) rm mc ms n :=
  va_cnB n ht (tp_in q5) rfl hrc hrs hl (ht _ q4) hd hR
end TPC
def tp_fln : List (String × Nat × String × String × String × String) := [("Turnpike$Link", 37, "Turnpike$Row", "size", "I", "Turnpike"), ("Turnpike", 188, "Turnpike$Row", "size", "I", "Turnpike"), ("Turnpike$Roads", 27, "Turnpike$Link", "from", "I", "Turnpike"), ("Turnpike$Roads", 30, "Turnpike$Link", "to", "I", "Turnpike"), ("Turnpike$Traffic", 159, "Turnpike$Link", "to", "I", "Turnpike"), ("Turnpike$Roads", 33, "Turnpike$Link", "time", "I", "Turnpike"), ("Turnpike$Traffic", 222, "Turnpike$Link", "time", "I", "Turnpike"), ("Turnpike$Roads", 36, "Turnpike$Link", "room", "I", "Turnpike"), ("Turnpike$Roads", 39, "Turnpike$Link", "firstRate", "I", "Turnpike"), ("Turnpike$Roads", 42, "Turnpike$Link", "rate", "I", "Turnpike"), ("Turnpike$Traffic", 165, "Turnpike$Link", "rate", "I", "Turnpike"), ("Turnpike", 96, "Turnpike$Link", "rate", "I", "Turnpike"), ("Turnpike", 99, "Turnpike$Link", "slowTicks", "I", "Turnpike"), ("Turnpike", 87, "Turnpike$Link", "shut", "Z", "Turnpike"), ("Turnpike$Roads", 75, "Turnpike$Link", "shut", "Z", "Turnpike"), ("Turnpike$Roads", 45, "Turnpike$Link", "cost", "I", "Turnpike"), ("Turnpike", 126, "Turnpike$Link", "cost", "I", "Turnpike"), ("Turnpike$Traffic", 172, "Turnpike$Link", "row", "LTurnpike$Row;", "Turnpike"), ("Turnpike", 193, "Turnpike$Link", "row", "LTurnpike$Row;", "Turnpike"), ("Turnpike", 204, "Turnpike$Link", "came", "I", "Turnpike"), ("Turnpike", 207, "Turnpike$Link", "left", "I", "Turnpike"), ("Turnpike", 210, "Turnpike$Link", "greatestQueue", "I", "Turnpike"), ("Turnpike", 213, "Turnpike$Link", "sumOfQueues", "I", "Turnpike"), ("Turnpike", 221, "Turnpike$Link", "wentOnto", "[I", "Turnpike"), ("Turnpike$Traffic", 155, "Turnpike$Roads", "link", "[LTurnpike$Link;", "Turnpike"), ("Turnpike", 47, "Turnpike$Roads", "links", "I", "Turnpike"), ("Turnpike$Traffic", 146, "Turnpike$Roads", "links", "I", "Turnpike"), ("Turnpike", 66, "Turnpike$Signal", "phases", "I", "Turnpike"), ("Turnpike$Traffic", 131, "Turnpike$Signal", "phases", "I", "Turnpike"), ("Turnpike", 129, "Turnpike$Signal", "phase", "I", "Turnpike"), ("Turnpike", 132, "Turnpike$Signal", "ticks", "I", "Turnpike"), ("Turnpike$Traffic", 109, "Turnpike$Flow", "from", "I", "Turnpike"), ("Turnpike$Traffic", 96, "Turnpike$Flow", "to", "I", "Turnpike"), ("Turnpike$Traffic", 99, "Turnpike$Flow", "kind", "I", "Turnpike"), ("Turnpike$Traffic", 265, "Turnpike$Flow", "start", "I", "Turnpike"), ("Turnpike$Traffic", 268, "Turnpike$Flow", "period", "I", "Turnpike"), ("Turnpike$Traffic", 271, "Turnpike$Flow", "most", "I", "Turnpike"), ("Turnpike$Traffic", 106, "Turnpike$Flow", "came", "I", "Turnpike"), ("Turnpike", 227, "Turnpike$Flow", "came", "I", "Turnpike"), ("Turnpike", 228, "Turnpike$Flow", "arrived", "I", "Turnpike"), ("Turnpike$Traffic", 119, "Turnpike$Flow", "givenUp", "I", "Turnpike"), ("Turnpike", 231, "Turnpike$Flow", "givenUp", "I", "Turnpike"), ("Turnpike", 234, "Turnpike$Flow", "sumOfTrips", "I", "Turnpike"), ("Turnpike", 237, "Turnpike$Flow", "sumOfDelays", "I", "Turnpike"), ("Turnpike", 240, "Turnpike$Flow", "longestTrip", "I", "Turnpike"), ("Turnpike$Traffic", 244, "Turnpike$Vehicle", "flow", "I", "Turnpike"), ("Turnpike$Traffic", 186, "Turnpike$Vehicle", "to", "I", "Turnpike"), ("Turnpike$Roads", 83, "Turnpike$Vehicle", "to", "I", "Turnpike"), ("Turnpike$Traffic", 208, "Turnpike$Vehicle", "kind", "I", "Turnpike"), ("Turnpike$Traffic", 116, "Turnpike$Vehicle", "state", "I", "Turnpike"), ("Turnpike", 150, "Turnpike$Vehicle", "state", "I", "Turnpike"), ("Turnpike", 155, "Turnpike$Vehicle", "link", "I", "Turnpike"), ("Turnpike$Traffic", 229, "Turnpike$Vehicle", "end", "I", "Turnpike"), ("Turnpike", 158, "Turnpike$Vehicle", "end", "I", "Turnpike"), ("Turnpike$Traffic", 236, "Turnpike$Vehicle", "gone", "I", "Turnpike"), ("Turnpike", 161, "Turnpike$Vehicle", "gone", "I", "Turnpike"), ("Turnpike$Traffic", 246, "Turnpike$Vehicle", "trip", "I", "Turnpike"), ("Turnpike", 178, "Turnpike$Vehicle", "trip", "I", "Turnpike"), ("Turnpike$Traffic", 249, "Turnpike$Vehicle", "delay", "I", "Turnpike"), ("Turnpike", 181, "Turnpike$Vehicle", "delay", "I", "Turnpike"), ("Turnpike", 43, "Turnpike$Traffic", "roads", "LTurnpike$Roads;", "Turnpike"), ("Turnpike", 62, "Turnpike$Traffic", "signal", "[LTurnpike$Signal;", "Turnpike"), ("Turnpike", 184, "Turnpike$Traffic", "row", "[LTurnpike$Row;", "Turnpike"), ("Turnpike", 110, "Turnpike$Traffic", "flow", "[LTurnpike$Flow;", "Turnpike"), ("Turnpike", 247, "Turnpike$Traffic", "vehicle", "[LTurnpike$Vehicle;", "Turnpike"), ("Turnpike", 164, "Turnpike$Traffic", "trails", "LTurnpike$Trails;", "Turnpike"), ("Turnpike", 102, "Turnpike$Traffic", "clock", "I", "Turnpike"), ("Turnpike", 80, "Turnpike$Traffic", "refresh", "I", "Turnpike"), ("Turnpike", 21, "Turnpike$Traffic", "nodes", "I", "Turnpike"), ("Turnpike", 105, "Turnpike$Traffic", "flows", "I", "Turnpike"), ("Turnpike", 143, "Turnpike$Traffic", "vehicles", "I", "Turnpike"), ("Turnpike", 251, "Turnpike$Traffic", "underWay", "I", "Turnpike")]
def tp_mln : List (String × Nat × MethodName × String) := [("Turnpike$Trails", 16, yX8_isWithin, "Turnpike"), ("Turnpike$Roads", 22, yX1_init, "Turnpike"), ("Turnpike$Traffic", 48, yX6_init, "Turnpike"), ("Turnpike$Traffic", 53, yX4_init, "Turnpike"), ("Turnpike$Traffic", 57, yX0_init, "Turnpike"), ("Turnpike$Traffic", 58, yX7_init, "Turnpike"), ("TurnpikeLaw$Roads", 81, yL_cell, "TurnpikeLaw"), ("TurnpikeLaw$Roads", 87, yL_below, "TurnpikeLaw")]
def tp_aos : List String := ["Turnpike$Link", "Turnpike$Signal", "Turnpike$Row", "Turnpike$Flow", "Turnpike$Vehicle"]
def tp_aoa : List FieldType := [.int, .long, (.array .int)]
/-- what a method may need of the tables beside its words: kept by every call -/
def tp_E (U : State) : Prop := (∀ q ∈ tp_fln, va_Nw (.fieldLinkNest q.1 q.2.1 q.2.2.1 q.2.2.2.1 q.2.2.2.2.1 q.2.2.2.2.2) U) ∧ (∀ q ∈ tp_mln, va_Nw (.methodLinkNest q.1 q.2.1 q.2.2.1 q.2.2.2) U) ∧ (∀ C ∈ tp_aos, va_AO C U) ∧ (∀ t ∈ tp_aoa, va_AOA t U)
theorem tp_E.warm {s U : State} (hW : s.WarmedH U.vm) (h : tp_E s) : tp_E U := ⟨fun q m => va_Nw.warmF hW (h.1 q m), fun q m => va_Nw.warmM hW (h.2.1 q m), fun C m => va_AO.moved hW.alike (h.2.2.1 C m), fun t m => va_AOA.moved hW.alike (h.2.2.2 t m)⟩
theorem tp_alike {u U : State} (hv : u.vm = U.vm) : u.vm.Alike U.vm := by rw [hv]; exact Vm.Alike.refl _
theorem tp_E.same {u U : State} (hv : u.vm = U.vm) (h : tp_E u) : tp_E U := ⟨fun q m => va_Nw.same rfl hv (h.1 q m), fun q m => va_Nw.same rfl hv (h.2.1 q m), fun C m => va_AO.moved (tp_alike hv) (h.2.2.1 C m), fun t m => va_AOA.moved (tp_alike hv) (h.2.2.2 t m)⟩
/-- the classes of arrays, one for each type -/
abbrev tp_ty (cy : Nat → ClassId) : List (ClassId × FieldType) := [(cy 0, .int), (cy 1, .long), (cy 2, .boolean), (cy 3, .object RX1), (cy 4, .object RX4), (cy 5, .object RX3), (cy 6, .object RX0), (cy 7, .object RX7), (cy 8, .array .int), (cy 9, .array .long), (cy 10, .array (.array .int))]
theorem tp_RA {U : State} {c1 c2 : ClassId} {t : FieldType} (h1 : va_RA U c1 t) (h2 : va_RA U c2 t) : c1 = c2 := by
  cases t with
  | object C =>
    obtain ⟨k1, p1, -, -, -, e1⟩ := h1
    obtain ⟨k2, p2, -, -, -, e2⟩ := h2
    exact Option.some.inj (e1.symm.trans e2)
  | _ => exact Option.some.inj ((show U.vm.findClass _ = some c1 from h1).symm.trans h2)
/-- an array class that comes again is the one that was there -/
theorem tp_one {D : va_G} {cl : List vw_C} {tys : List (ClassId × FieldType)} {U : State} (hK : va_K D cl tys U) (i j : Nat) {c1 c2 : ClassId} {t : FieldType} (h1 : tys[i]? = some (c1, t)) (h2 : tys[j]? = some (c2, t)) : c1 = c2 := tp_RA (hK.2 i _ h1).2 (hK.2 j _ h2).2
section TPL
variable {p : Program} {l : Launch} {e : Env} {R : Room} {s : State} {m : MethodId} {args : Array Value} {below : List Frame} {meth : Method} {c : Code} {Q : State → Prop} {pc : Nat} {st : List Value}
/-- a loop: a state of its own, a place below which it ends, the cells and slots told by the place -/
theorem tp_for {σ : Type} (N : Nat) (cf sf : Nat → Nat) (I : Nat → σ → Heap → List Loc → Array Slot → Prop)
    (hx : ∀ (x : σ) (H : Heap) (locs : List Loc) (ls : Array Slot), I N x H locs ls → W p l e R s m args below meth c H locs (cf N) (sf N) Q (F0 m pc ls st))
    (hs : ∀ (i : Nat) (x : σ) (H : Heap) (locs : List Loc) (ls : Array Slot), i < N → I i x H locs ls → (∀ (x : σ) (H : Heap) (locs : List Loc) (ls : Array Slot), I (i + 1) x H locs ls → W p l e R s m args below meth c H locs (cf (i + 1)) (sf (i + 1)) Q (F0 m pc ls st)) → W p l e R s m args below meth c H locs (cf i) (sf i) Q (F0 m pc ls st)) :
    ∀ (n i : Nat), i + n = N → ∀ (x : σ) (H : Heap) (locs : List Loc) (ls : Array Slot), I i x H locs ls → W p l e R s m args below meth c H locs (cf i) (sf i) Q (F0 m pc ls st) := by
  intro n
  induction n with
  | zero =>
    intro i hi x H locs ls h
    have e : i = N := by omega
    subst e
    exact hx x H locs ls h
  | succ n ih =>
    intro i hi x H locs ls h
    exact hs i x H locs ls (by omega) h (fun x H locs ls h => ih (i + 1) (by omega) x H locs ls h)
/-- a loop with a measure that falls: the turn may end the loop itself -/
theorem tp_loop {σ : Type} (μ : σ → Nat) (C S : σ → Nat) (I : σ → Heap → List Loc → Array Slot → Prop)
    (hs : ∀ (x : σ) (H : Heap) (locs : List Loc) (ls : Array Slot), I x H locs ls → (∀ (y : σ) (H : Heap) (locs : List Loc) (ls : Array Slot), μ y < μ x → I y H locs ls → W p l e R s m args below meth c H locs (C y) (S y) Q (F0 m pc ls st)) → W p l e R s m args below meth c H locs (C x) (S x) Q (F0 m pc ls st)) :
    ∀ (n : Nat) (x : σ), μ x ≤ n → ∀ (H : Heap) (locs : List Loc) (ls : Array Slot), I x H locs ls → W p l e R s m args below meth c H locs (C x) (S x) Q (F0 m pc ls st) := by
  intro n
  induction n with
  | zero =>
    intro x hx H locs ls h
    exact hs x H locs ls h (fun y _ _ _ hy => absurd hy (by omega))
  | succ n ih =>
    intro x hx H locs ls h
    exact hs x H locs ls h (fun y H locs ls hy hi => ih y (by omega) H locs ls hi)
end TPL
theorem tl_X0 : ∀ w ∈ u_ws RX0 TX0 12, w ∈ tp_all := tp_lay [788, 790, 792, 794, 796, 798, 800, 802, 804, 806, 808, 810] (by decide +kernel) (by decide +kernel)
theorem tl_X1 : ∀ w ∈ u_ws RX1 TX1 16, w ∈ tp_all := tp_lay [662, 664, 666, 668, 670, 672, 674, 676, 678, 680, 682, 684, 686, 688, 690, 692] (by decide +kernel) (by decide +kernel)
theorem tl_X2 : ∀ w ∈ u_ws RX2 TX2 4, w ∈ tp_all := tp_lay [702, 704, 706, 708] (by decide +kernel) (by decide +kernel)
theorem tl_X3 : ∀ w ∈ u_ws RX3 TX3 2, w ∈ tp_all := tp_lay [618, 620] (by decide +kernel) (by decide +kernel)
theorem tl_X4 : ∀ w ∈ u_ws RX4 TX4 6, w ∈ tp_all := tp_lay [745, 747, 749, 751, 753, 755] (by decide +kernel) (by decide +kernel)
theorem tl_X5 : ∀ w ∈ u_ws RX5 TX5 12, w ∈ tp_all := tp_lay [897, 899, 901, 903, 905, 907, 909, 911, 913, 915, 917, 919] (by decide +kernel) (by decide +kernel)
theorem tl_X6 : ∀ w ∈ u_ws RX6 TX6 1, w ∈ tp_all := tp_lay [728] (by decide +kernel) (by decide +kernel)
theorem tl_X7 : ∀ w ∈ u_ws RX7 TX7 13, w ∈ tp_all := tp_lay [846, 848, 850, 852, 854, 856, 858, 860, 862, 864, 866, 868, 870] (by decide +kernel) (by decide +kernel)
theorem tl_X8 : ∀ w ∈ u_ws RX8 TX8 2, w ∈ tp_all := tp_lay [924, 926] (by decide +kernel) (by decide +kernel)
theorem tl_X9 : ∀ w ∈ u_ws RX9 TX9 25, w ∈ tp_all := tp_lay [963, 965, 967, 969, 971, 973, 975, 977, 979, 981, 983, 985, 987, 989, 991, 993, 995, 997, 999, 1001, 1003, 1005, 1007, 1009, 1011] (by decide +kernel) (by decide +kernel)
