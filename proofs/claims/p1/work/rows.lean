section
-- ===== PART A: goes FIRST, ahead of the names: the tables' words, and 'selects' of the private methods out of them =====
/-- a private method of a class that the tables say can be made, by its rows of tables_1 -/
def lw_okq (q : MethodName × Nat) : Prop := (q.1.cls ≠ "java/lang/invoke/MethodHandle" ∧ q.1.cls ≠ "java/lang/invoke/VarHandle") ∧ Cond.instantiable q.1.cls q.2 ∈ tables_1 ∧ Cond.privateMethod q.1 ∈ tables_1 ∧ Cond.instanceMethod q.1 ∈ tables_1
theorem lw_p0 : lw_okq (⟨"Turnpike", "digestNodes", "(J)J"⟩, 2) := ⟨⟨by decide +kernel, by decide +kernel⟩, List.mem_of_getElem? (i := 22) (by decide +kernel), List.mem_of_getElem? (i := 412) (by decide +kernel), List.mem_of_getElem? (i := 413) (by decide +kernel)⟩
theorem lw_p1 : lw_okq (⟨"Turnpike", "checkNode", "(I)V"⟩, 2) := ⟨⟨by decide +kernel, by decide +kernel⟩, List.mem_of_getElem? (i := 22) (by decide +kernel), List.mem_of_getElem? (i := 420) (by decide +kernel), List.mem_of_getElem? (i := 421) (by decide +kernel)⟩
theorem lw_p2 : lw_okq (⟨"java/lang/Throwable", "fillInStackTrace", "(I)Ljava/lang/Throwable;"⟩, 6) := ⟨⟨by decide +kernel, by decide +kernel⟩, List.mem_of_getElem? (i := 462) (by decide +kernel), List.mem_of_getElem? (i := 460) (by decide +kernel), List.mem_of_getElem? (i := 461) (by decide +kernel)⟩
theorem lw_p3 : lw_okq (⟨"Turnpike", "digestLinks", "(J)J"⟩, 2) := ⟨⟨by decide +kernel, by decide +kernel⟩, List.mem_of_getElem? (i := 22) (by decide +kernel), List.mem_of_getElem? (i := 520) (by decide +kernel), List.mem_of_getElem? (i := 521) (by decide +kernel)⟩
theorem lw_p4 : lw_okq (⟨"Turnpike", "linkNumbered", "(I)LTurnpike$Link;"⟩, 2) := ⟨⟨by decide +kernel, by decide +kernel⟩, List.mem_of_getElem? (i := 22) (by decide +kernel), List.mem_of_getElem? (i := 528) (by decide +kernel), List.mem_of_getElem? (i := 529) (by decide +kernel)⟩
theorem lw_p5 : lw_okq (⟨"Turnpike", "digestFlows", "(J)J"⟩, 2) := ⟨⟨by decide +kernel, by decide +kernel⟩, List.mem_of_getElem? (i := 22) (by decide +kernel), List.mem_of_getElem? (i := 591) (by decide +kernel), List.mem_of_getElem? (i := 592) (by decide +kernel)⟩
theorem lw_p6 : lw_okq (⟨"Turnpike", "digestVehicles", "(J)J"⟩, 2) := ⟨⟨by decide +kernel, by decide +kernel⟩, List.mem_of_getElem? (i := 22) (by decide +kernel), List.mem_of_getElem? (i := 600) (by decide +kernel), List.mem_of_getElem? (i := 601) (by decide +kernel)⟩
theorem lw_p7 : lw_okq (⟨"Turnpike", "vehicleNumbered", "(I)LTurnpike$Vehicle;"⟩, 2) := ⟨⟨by decide +kernel, by decide +kernel⟩, List.mem_of_getElem? (i := 22) (by decide +kernel), List.mem_of_getElem? (i := 608) (by decide +kernel), List.mem_of_getElem? (i := 609) (by decide +kernel)⟩
theorem lw_p8 : lw_okq (⟨"Turnpike$Traffic", "bringVehicles", "()V"⟩, 12) := ⟨⟨by decide +kernel, by decide +kernel⟩, List.mem_of_getElem? (i := 30) (by decide +kernel), List.mem_of_getElem? (i := 778) (by decide +kernel), List.mem_of_getElem? (i := 779) (by decide +kernel)⟩
theorem lw_p9 : lw_okq (⟨"Turnpike$Traffic", "bring", "(I)V"⟩, 12) := ⟨⟨by decide +kernel, by decide +kernel⟩, List.mem_of_getElem? (i := 30) (by decide +kernel), List.mem_of_getElem? (i := 786) (by decide +kernel), List.mem_of_getElem? (i := 787) (by decide +kernel)⟩
theorem lw_p10 : lw_okq (⟨"Turnpike$Traffic", "playSignals", "()V"⟩, 12) := ⟨⟨by decide +kernel, by decide +kernel⟩, List.mem_of_getElem? (i := 30) (by decide +kernel), List.mem_of_getElem? (i := 808) (by decide +kernel), List.mem_of_getElem? (i := 809) (by decide +kernel)⟩
theorem lw_p11 : lw_okq (⟨"Turnpike$Signal", "isOn", "()Z"⟩, 6) := ⟨⟨by decide +kernel, by decide +kernel⟩, List.mem_of_getElem? (i := 177) (by decide +kernel), List.mem_of_getElem? (i := 816) (by decide +kernel), List.mem_of_getElem? (i := 817) (by decide +kernel)⟩
theorem lw_p12 : lw_okq (⟨"Turnpike$Traffic", "driveOnLinks", "()V"⟩, 12) := ⟨⟨by decide +kernel, by decide +kernel⟩, List.mem_of_getElem? (i := 30) (by decide +kernel), List.mem_of_getElem? (i := 832) (by decide +kernel), List.mem_of_getElem? (i := 833) (by decide +kernel)⟩
theorem lw_p13 : lw_okq (⟨"Turnpike$Traffic", "firstGoesOn", "(LTurnpike$Link;)Z"⟩, 12) := ⟨⟨by decide +kernel, by decide +kernel⟩, List.mem_of_getElem? (i := 30) (by decide +kernel), List.mem_of_getElem? (i := 844) (by decide +kernel), List.mem_of_getElem? (i := 845) (by decide +kernel)⟩
theorem lw_p14 : lw_okq (⟨"Turnpike$Traffic", "arrive", "(LTurnpike$Vehicle;)V"⟩, 12) := ⟨⟨by decide +kernel, by decide +kernel⟩, List.mem_of_getElem? (i := 30) (by decide +kernel), List.mem_of_getElem? (i := 851) (by decide +kernel), List.mem_of_getElem? (i := 852) (by decide +kernel)⟩
theorem lw_p15 : lw_okq (⟨"Turnpike$Traffic", "nextOf", "(LTurnpike$Vehicle;I)I"⟩, 12) := ⟨⟨by decide +kernel, by decide +kernel⟩, List.mem_of_getElem? (i := 30) (by decide +kernel), List.mem_of_getElem? (i := 864) (by decide +kernel), List.mem_of_getElem? (i := 865) (by decide +kernel)⟩
def lw_privs_1 : List (MethodName × Nat) := [(⟨"Turnpike", "digestNodes", "(J)J"⟩, 2), (⟨"Turnpike", "checkNode", "(I)V"⟩, 2), (⟨"java/lang/Throwable", "fillInStackTrace", "(I)Ljava/lang/Throwable;"⟩, 6), (⟨"Turnpike", "digestLinks", "(J)J"⟩, 2), (⟨"Turnpike", "linkNumbered", "(I)LTurnpike$Link;"⟩, 2), (⟨"Turnpike", "digestFlows", "(J)J"⟩, 2), (⟨"Turnpike", "digestVehicles", "(J)J"⟩, 2), (⟨"Turnpike", "vehicleNumbered", "(I)LTurnpike$Vehicle;"⟩, 2), (⟨"Turnpike$Traffic", "bringVehicles", "()V"⟩, 12), (⟨"Turnpike$Traffic", "bring", "(I)V"⟩, 12), (⟨"Turnpike$Traffic", "playSignals", "()V"⟩, 12), (⟨"Turnpike$Signal", "isOn", "()Z"⟩, 6), (⟨"Turnpike$Traffic", "driveOnLinks", "()V"⟩, 12), (⟨"Turnpike$Traffic", "firstGoesOn", "(LTurnpike$Link;)Z"⟩, 12), (⟨"Turnpike$Traffic", "arrive", "(LTurnpike$Vehicle;)V"⟩, 12), (⟨"Turnpike$Traffic", "nextOf", "(LTurnpike$Vehicle;I)I"⟩, 12)]
theorem lw_r1 : ∀ q ∈ lw_privs_1, lw_okq q := List.forall_mem_cons.mpr ⟨lw_p0, List.forall_mem_cons.mpr ⟨lw_p1, List.forall_mem_cons.mpr ⟨lw_p2, List.forall_mem_cons.mpr ⟨lw_p3, List.forall_mem_cons.mpr ⟨lw_p4, List.forall_mem_cons.mpr ⟨lw_p5, List.forall_mem_cons.mpr ⟨lw_p6, List.forall_mem_cons.mpr ⟨lw_p7, List.forall_mem_cons.mpr ⟨lw_p8, List.forall_mem_cons.mpr ⟨lw_p9, List.forall_mem_cons.mpr ⟨lw_p10, List.forall_mem_cons.mpr ⟨lw_p11, List.forall_mem_cons.mpr ⟨lw_p12, List.forall_mem_cons.mpr ⟨lw_p13, List.forall_mem_cons.mpr ⟨lw_p14, List.forall_mem_cons.mpr ⟨lw_p15, fun _ h => absurd h List.not_mem_nil⟩⟩⟩⟩⟩⟩⟩⟩⟩⟩⟩⟩⟩⟩⟩⟩
theorem lw_p16 : lw_okq (⟨"Turnpike$Traffic", "comesOnto", "(ILTurnpike$Vehicle;I)Z"⟩, 12) := ⟨⟨by decide +kernel, by decide +kernel⟩, List.mem_of_getElem? (i := 30) (by decide +kernel), List.mem_of_getElem? (i := 873) (by decide +kernel), List.mem_of_getElem? (i := 874) (by decide +kernel)⟩
theorem lw_p17 : lw_okq (⟨"Turnpike$Traffic", "driveFromNodes", "()V"⟩, 12) := ⟨⟨by decide +kernel, by decide +kernel⟩, List.mem_of_getElem? (i := 30) (by decide +kernel), List.mem_of_getElem? (i := 926) (by decide +kernel), List.mem_of_getElem? (i := 927) (by decide +kernel)⟩
theorem lw_p18 : lw_okq (⟨"TurnpikeModel", "no", "(I)I"⟩, 2) := ⟨⟨by decide +kernel, by decide +kernel⟩, List.mem_of_getElem? (i := 1087) (by decide +kernel), List.mem_of_getElem? (i := 1289) (by decide +kernel), List.mem_of_getElem? (i := 1290) (by decide +kernel)⟩
theorem lw_p19 : lw_okq (⟨"TurnpikeModel", "isNode", "(I)Z"⟩, 2) := ⟨⟨by decide +kernel, by decide +kernel⟩, List.mem_of_getElem? (i := 1087) (by decide +kernel), List.mem_of_getElem? (i := 1297) (by decide +kernel), List.mem_of_getElem? (i := 1298) (by decide +kernel)⟩
theorem lw_p20 : lw_okq (⟨"TurnpikeModel", "isLink", "(I)Z"⟩, 2) := ⟨⟨by decide +kernel, by decide +kernel⟩, List.mem_of_getElem? (i := 1087) (by decide +kernel), List.mem_of_getElem? (i := 1308) (by decide +kernel), List.mem_of_getElem? (i := 1309) (by decide +kernel)⟩
theorem lw_p21 : lw_okq (⟨"TurnpikeModel", "isNot", "(I)Z"⟩, 2) := ⟨⟨by decide +kernel, by decide +kernel⟩, List.mem_of_getElem? (i := 1087) (by decide +kernel), List.mem_of_getElem? (i := 1324) (by decide +kernel), List.mem_of_getElem? (i := 1325) (by decide +kernel)⟩
theorem lw_p22 : lw_okq (⟨"TurnpikeModel$World", "come", "(I)V"⟩, 43) := ⟨⟨by decide +kernel, by decide +kernel⟩, List.mem_of_getElem? (i := 1093) (by decide +kernel), List.mem_of_getElem? (i := 1352) (by decide +kernel), List.mem_of_getElem? (i := 1353) (by decide +kernel)⟩
theorem lw_p23 : lw_okq (⟨"TurnpikeModel$World", "put", "(III)V"⟩, 43) := ⟨⟨by decide +kernel, by decide +kernel⟩, List.mem_of_getElem? (i := 1093) (by decide +kernel), List.mem_of_getElem? (i := 1366) (by decide +kernel), List.mem_of_getElem? (i := 1367) (by decide +kernel)⟩
theorem lw_p24 : lw_okq (⟨"TurnpikeModel$World", "add", "(II)V"⟩, 43) := ⟨⟨by decide +kernel, by decide +kernel⟩, List.mem_of_getElem? (i := 1093) (by decide +kernel), List.mem_of_getElem? (i := 1371) (by decide +kernel), List.mem_of_getElem? (i := 1372) (by decide +kernel)⟩
theorem lw_p25 : lw_okq (⟨"TurnpikeModel$World", "signal", "(I)V"⟩, 43) := ⟨⟨by decide +kernel, by decide +kernel⟩, List.mem_of_getElem? (i := 1093) (by decide +kernel), List.mem_of_getElem? (i := 1375) (by decide +kernel), List.mem_of_getElem? (i := 1376) (by decide +kernel)⟩
theorem lw_p26 : lw_okq (⟨"TurnpikeModel$World", "drive", "(I)V"⟩, 43) := ⟨⟨by decide +kernel, by decide +kernel⟩, List.mem_of_getElem? (i := 1093) (by decide +kernel), List.mem_of_getElem? (i := 1379) (by decide +kernel), List.mem_of_getElem? (i := 1380) (by decide +kernel)⟩
theorem lw_p27 : lw_okq (⟨"TurnpikeModel$World", "isGreen", "(I)Z"⟩, 43) := ⟨⟨by decide +kernel, by decide +kernel⟩, List.mem_of_getElem? (i := 1093) (by decide +kernel), List.mem_of_getElem? (i := 1383) (by decide +kernel), List.mem_of_getElem? (i := 1384) (by decide +kernel)⟩
theorem lw_p28 : lw_okq (⟨"TurnpikeModel$World", "takeFirst", "(I)V"⟩, 43) := ⟨⟨by decide +kernel, by decide +kernel⟩, List.mem_of_getElem? (i := 1093) (by decide +kernel), List.mem_of_getElem? (i := 1387) (by decide +kernel), List.mem_of_getElem? (i := 1388) (by decide +kernel)⟩
theorem lw_p29 : lw_okq (⟨"TurnpikeModel$World", "arrive", "(I)V"⟩, 43) := ⟨⟨by decide +kernel, by decide +kernel⟩, List.mem_of_getElem? (i := 1093) (by decide +kernel), List.mem_of_getElem? (i := 1391) (by decide +kernel), List.mem_of_getElem? (i := 1392) (by decide +kernel)⟩
theorem lw_p30 : lw_okq (⟨"TurnpikeModel$World", "goOn", "(III)Z"⟩, 43) := ⟨⟨by decide +kernel, by decide +kernel⟩, List.mem_of_getElem? (i := 1093) (by decide +kernel), List.mem_of_getElem? (i := 1395) (by decide +kernel), List.mem_of_getElem? (i := 1396) (by decide +kernel)⟩
theorem lw_p31 : lw_okq (⟨"TurnpikeModel$World", "next", "(II)I"⟩, 43) := ⟨⟨by decide +kernel, by decide +kernel⟩, List.mem_of_getElem? (i := 1093) (by decide +kernel), List.mem_of_getElem? (i := 1399) (by decide +kernel), List.mem_of_getElem? (i := 1400) (by decide +kernel)⟩
def lw_privs_2 : List (MethodName × Nat) := [(⟨"Turnpike$Traffic", "comesOnto", "(ILTurnpike$Vehicle;I)Z"⟩, 12), (⟨"Turnpike$Traffic", "driveFromNodes", "()V"⟩, 12), (⟨"TurnpikeModel", "no", "(I)I"⟩, 2), (⟨"TurnpikeModel", "isNode", "(I)Z"⟩, 2), (⟨"TurnpikeModel", "isLink", "(I)Z"⟩, 2), (⟨"TurnpikeModel", "isNot", "(I)Z"⟩, 2), (⟨"TurnpikeModel$World", "come", "(I)V"⟩, 43), (⟨"TurnpikeModel$World", "put", "(III)V"⟩, 43), (⟨"TurnpikeModel$World", "add", "(II)V"⟩, 43), (⟨"TurnpikeModel$World", "signal", "(I)V"⟩, 43), (⟨"TurnpikeModel$World", "drive", "(I)V"⟩, 43), (⟨"TurnpikeModel$World", "isGreen", "(I)Z"⟩, 43), (⟨"TurnpikeModel$World", "takeFirst", "(I)V"⟩, 43), (⟨"TurnpikeModel$World", "arrive", "(I)V"⟩, 43), (⟨"TurnpikeModel$World", "goOn", "(III)Z"⟩, 43), (⟨"TurnpikeModel$World", "next", "(II)I"⟩, 43)]
theorem lw_r2 : ∀ q ∈ lw_privs_2, lw_okq q := List.forall_mem_cons.mpr ⟨lw_p16, List.forall_mem_cons.mpr ⟨lw_p17, List.forall_mem_cons.mpr ⟨lw_p18, List.forall_mem_cons.mpr ⟨lw_p19, List.forall_mem_cons.mpr ⟨lw_p20, List.forall_mem_cons.mpr ⟨lw_p21, List.forall_mem_cons.mpr ⟨lw_p22, List.forall_mem_cons.mpr ⟨lw_p23, List.forall_mem_cons.mpr ⟨lw_p24, List.forall_mem_cons.mpr ⟨lw_p25, List.forall_mem_cons.mpr ⟨lw_p26, List.forall_mem_cons.mpr ⟨lw_p27, List.forall_mem_cons.mpr ⟨lw_p28, List.forall_mem_cons.mpr ⟨lw_p29, List.forall_mem_cons.mpr ⟨lw_p30, List.forall_mem_cons.mpr ⟨lw_p31, fun _ h => absurd h List.not_mem_nil⟩⟩⟩⟩⟩⟩⟩⟩⟩⟩⟩⟩⟩⟩⟩⟩
theorem lw_p32 : lw_okq (⟨"TurnpikeModel", "ok", "(I)I"⟩, 2) := ⟨⟨by decide +kernel, by decide +kernel⟩, List.mem_of_getElem? (i := 1087) (by decide +kernel), List.mem_of_getElem? (i := 1408) (by decide +kernel), List.mem_of_getElem? (i := 1409) (by decide +kernel)⟩
theorem lw_p33 : lw_okq (⟨"TurnpikeModel", "distanceNow", "(III)I"⟩, 2) := ⟨⟨by decide +kernel, by decide +kernel⟩, List.mem_of_getElem? (i := 1087) (by decide +kernel), List.mem_of_getElem? (i := 1448) (by decide +kernel), List.mem_of_getElem? (i := 1449) (by decide +kernel)⟩
theorem lw_p34 : lw_okq (⟨"TurnpikeModel", "ofVehicle", "(I[I)I"⟩, 2) := ⟨⟨by decide +kernel, by decide +kernel⟩, List.mem_of_getElem? (i := 1087) (by decide +kernel), List.mem_of_getElem? (i := 1467) (by decide +kernel), List.mem_of_getElem? (i := 1468) (by decide +kernel)⟩
theorem lw_p35 : lw_okq (⟨"TurnpikeModel", "isVehicle", "(I)Z"⟩, 2) := ⟨⟨by decide +kernel, by decide +kernel⟩, List.mem_of_getElem? (i := 1087) (by decide +kernel), List.mem_of_getElem? (i := 1471) (by decide +kernel), List.mem_of_getElem? (i := 1472) (by decide +kernel)⟩
theorem lw_p36 : lw_okq (⟨"TurnpikeModel", "countNow", "(II)I"⟩, 2) := ⟨⟨by decide +kernel, by decide +kernel⟩, List.mem_of_getElem? (i := 1087) (by decide +kernel), List.mem_of_getElem? (i := 1521) (by decide +kernel), List.mem_of_getElem? (i := 1522) (by decide +kernel)⟩
def lw_privs_3 : List (MethodName × Nat) := [(⟨"TurnpikeModel", "ok", "(I)I"⟩, 2), (⟨"TurnpikeModel", "distanceNow", "(III)I"⟩, 2), (⟨"TurnpikeModel", "ofVehicle", "(I[I)I"⟩, 2), (⟨"TurnpikeModel", "isVehicle", "(I)Z"⟩, 2), (⟨"TurnpikeModel", "countNow", "(II)I"⟩, 2)]
theorem lw_r3 : ∀ q ∈ lw_privs_3, lw_okq q := List.forall_mem_cons.mpr ⟨lw_p32, List.forall_mem_cons.mpr ⟨lw_p33, List.forall_mem_cons.mpr ⟨lw_p34, List.forall_mem_cons.mpr ⟨lw_p35, List.forall_mem_cons.mpr ⟨lw_p36, fun _ h => absurd h List.not_mem_nil⟩⟩⟩⟩⟩
def lw_privs : List (MethodName × Nat) := lw_privs_1 ++ (lw_privs_2 ++ (lw_privs_3))
def lw_tbl : List Cond := k2_sels lw_privs ++ tables_1
theorem lw_privs_ok : ∀ q ∈ lw_privs, lw_okq q := by
  show ∀ q ∈ lw_privs_1 ++ (lw_privs_2 ++ (lw_privs_3)), lw_okq q
  exact List.forall_mem_append.mpr ⟨lw_r1, List.forall_mem_append.mpr ⟨lw_r2, lw_r3⟩⟩
/-- the streams that the claim lets the run draw from -/
abbrev lw_cs : List Choice := [Jvm.Choice.named "NaN.bits"]
theorem lw_bits : nanBits ∈ lw_cs := by first | decide | exact List.mem_cons_self | simp [lw_cs, nanBits]
/-- a class of arrays over an array type (the printed block va_mna names these words) -/
def va_AOA (ty : FieldType) (U : State) : Prop := (Cond.arrayOver (.array ty)).before #[] U = true
theorem va_AOA.of {ty : FieldType} {A : Array Value} {U : State} (h : (Cond.arrayOver (.array ty)).before A U = true) : va_AOA ty U := h
theorem va_AOA.use {ty : FieldType} {A : Array Value} {U : State} (h : va_AOA ty U) : (Cond.arrayOver (.array ty)).before A U = true := h
theorem va_AOA.moved {ty : FieldType} {u U : State} (hvm : u.vm.Alike U.vm) (h : va_AOA ty u) : va_AOA ty U := Jvm.Stand.arrayOver_alikeB hvm h
/-! ===== BEGIN words of one list among another's, by their places ===== -/
theorem goodIn_r {big : List Cond} (ws : List Cond) (ps : List Nat) (hp : ws = ps.filterMap (fun i => big[i]?)) (h : ws.all goodWord = true) : GoodIn big ws := by
  intro w hw
  have h1 := List.all_eq_true.mp h w hw
  rw [hp] at hw
  obtain ⟨i, -, hi⟩ := List.mem_filterMap.mp hw
  have hm : w ∈ big := by first | exact List.mem_of_getElem? hi | exact List.getElem?_mem hi
  exact ⟨hm, good_of_word h1⟩
theorem goodIn_app {big a b : List Cond} (ha : GoodIn big a) (hb : GoodIn big b) : GoodIn big (a ++ b) := fun w h => (List.mem_append.mp h).elim (ha w) (hb w)
theorem goodIn_ca {big a b : List Cond} {c : Cond} (ha : GoodIn big (c :: a)) (hb : GoodIn big b) : GoodIn big (c :: (a ++ b)) := fun w h => (List.mem_cons.mp h).elim (fun e => ha w (List.mem_cons.mpr (Or.inl e))) (fun h => (List.mem_append.mp h).elim (fun h => ha w (List.mem_cons.mpr (Or.inr h))) (hb w))
theorem goodIn_sub {big ws : List Cond} (hm : ∀ w ∈ ws, w ∈ big) (h : ws.all goodWord = true) : GoodIn big ws := fun w hw => ⟨hm w hw, good_of_word (List.all_eq_true.mp h w hw)⟩
/-! ===== END ===== -/

/-! ===== BEGIN new T[n][m]: the outer array a place, the inner ones among the pooled ===== -/
/-- f, but v at every address of l -/
def vr_up {α : Type} (f : Nat → α) (l : List Nat) (v : α) : Nat → α := fun a => if a ∈ l then v else f a
theorem vr_up_in {α : Type} {f : Nat → α} {l : List Nat} {v : α} {a : Nat} (h : a ∈ l) : vr_up f l v a = v := if_pos h
theorem vr_up_ne {α : Type} {f : Nat → α} {l : List Nat} {v : α} {a : Nat} (h : a ∉ l) : vr_up f l v a = f a := if_neg h
theorem vr_rows {L l : List Nat} {f : Nat → va_E} {e : va_E} (h : ∀ a, a ∈ l → a ∉ L) : va_pl L f ++ l.map (fun a => (a, e)) = va_pl (L ++ l) (vr_up f l e) := by
  unfold va_pl
  rw [List.map_append]
  congr 1
  · apply List.map_congr_left
    intro a ha
    rw [vr_up_ne (fun q => h a q ha)]
  · apply List.map_congr_left
    intro a ha
    rw [vr_up_in ha]
theorem vr_lay {X rows : va_W} {x : Nat × va_E} {pl : va_W} {D : va_G} {cl : List vw_C} {H : Heap} (hP : va_P D cl (((X ++ pl) ++ [x]) ++ rows) H) : va_P D cl ((X ++ [x]) ++ (pl ++ rows)) H := by
  rw [List.append_assoc (X ++ pl)] at hP
  have h := va_P.swap hP
  rw [← List.append_assoc X] at h
  have h2 := va_P.swap h
  rw [List.append_assoc (X ++ [x])] at h2
  exact h2
theorem vr_layD {X rows : va_W} {x : Nat × va_E} {pl : va_W} {A : Nat → Prop} (hD : va_D A (((X ++ pl) ++ [x]) ++ rows)) : va_D A ((X ++ [x]) ++ (pl ++ rows)) := by
  rw [List.append_assoc (X ++ pl)] at hD
  have h := va_D.swap hD
  rw [← List.append_assoc X] at h
  have h2 := va_D.swap h
  rw [List.append_assoc (X ++ [x])] at h2
  exact h2
theorem vr_outer (c : ClassId) (N h0 : Nat) : ∀ i : Nat, Jvm.Free.Multi.outerC c N h0 i = arrV c N (fun j => va_rf (if j < i then some (h0 + 1 + j) else none))
  | 0 => by
    show ({ cls := c, slots := Array.replicate N .null, vm := .none } : Cell) = _
    rw [arrV_new]
    refine congrArg (arrV c N) (funext fun j => ?_)
    simp [va_rf]
  | i + 1 => by
    show (Jvm.Free.Multi.outerC c N h0 i).setSlot i (.ref (h0 + 1 + i)) = _
    rw [vr_outer c N h0 i, arrV_store]
    refine congrArg (arrV c N) (funext fun j => ?_)
    by_cases e : j = i
    · subst e
      simp [updV, va_rf]
    · by_cases h : j < i
      · simp [updV, e, h, Nat.lt_succ_of_lt h]
      · simp [updV, e, h, show ¬ j < i + 1 by omega]
section VGM
variable {p : Program} {l : Launch} {e : Env} {R : Room} {s : State} {m : MethodId} {args : Array Value} {below : List Frame} {meth : Method} {c : Code} {H : Heap} {locs : List Loc} {cells slots : Nat} {Q : State → Prop}
variable {cc : ByteArray} {pc : Nat} {ls : Array Slot} {rest : List Value} {D : va_G} {cl : List vw_C} {A : Nat → Prop} {a : Nat} {tys : List (ClassId × FieldType)} {ws : va_W} {H0 : Heap}
theorem va_mna {X : va_W} {L : List Nat} {f : Nat → va_E} {cc : ByteArray} (hexec : p.tables.exec = Jvm.exec) (hb : c.code = cc) {own : String} {index : Nat} {ty : FieldType} {cy : ClassId} (hown : s.vm.findClass own = some m.cls) (hclink : (Cond.classLink own index ("[" ++ (FieldType.array ty).toString)).before args s = true) (hover : va_AOA ty s) (harr : (Cond.arrayClass ty).before args s = true) (hcy : s.vm.findClass (FieldType.array ty).toString = some cy)
    (hK : va_K D cl tys s) (hP : va_P D cl (X ++ va_pl L f) H) (hD : va_D A (X ++ va_pl L f)) (hS : va_S A H0 H locs) (hA : ∀ q, H0.size ≤ q → A q) {n k : Int32} {N' K' : Nat} {z : vp_A} (hn : ¬ n < 0) (hk : ¬ k < 0) (hN : n.toNatClampNeg = N') (hM : k.toNatClampNeg = K')
    (hb1 : N' * 4 ≤ 536870912) (hb2 : K' * componentBytes ty ≤ 536870912) (hb3 : K' ≤ 536870912) (hdf : fits ty (defaultValue ty) = true) (hdd : (defaultValue ty).isDefault = true) (hcells : cells + (1 + N') ≤ R.cells) (hslots : slots + (N' + N' * K') ≤ R.slots) (hz : ∀ c : ClassId, Jvm.Free.Multi.innerC c K' (defaultValue ty) = vp_cell c z) (hdg : decode cc pc = .ok (.multianewarray index 2, 4))
    (kk : ∀ (q : Nat) (r : Nat → Nat) (cA : ClassId) (H1 : Heap), (∀ i j : Nat, i < N' → j < N' → r i = r j → i = j) → (∀ i : Nat, i < N' → r i ∉ L) → va_K D cl (tys ++ [(cA, .array ty)]) s →
      va_P D cl ((X ++ [(q, .inl (cA, N', .inr (.inr (.inr (.inr (fun i => if i < N' then some (r i) else none))))))]) ++ va_pl (L ++ (List.range N').map r) (vr_up f ((List.range N').map r) (.inl (cy, z)))) H1 → va_D A ((X ++ [(q, .inl (cA, N', .inr (.inr (.inr (.inr (fun i => if i < N' then some (r i) else none))))))]) ++ va_pl (L ++ (List.range N').map r) (vr_up f ((List.range N').map r) (.inl (cy, z)))) → va_S A H0 H1 locs →
      W p l e R s m args below meth c H1 locs (cells + 1 + N') (slots + N' + N' * K') Q (F0 m (pc + 4) ls (.ref q :: rest))) : W p l e R s m args below meth c H locs cells slots Q (F0 m pc ls (.int k :: .int n :: rest)) := by
  subst hN
  subst hM
  intro T hT Xs
  obtain ⟨vm₁, cA, comp, -, fA, fC, hO, -, X', step⟩ := Xs.multianewarray2F hexec hown hclink (va_AOA.use hover) harr (g := F0 m pc ls (.int k :: .int n :: rest)) rfl (by rw [hb]; exact hdg) rfl hn hk hb1 hb2 hb3 hdf hdd hcells hslots
  have ec : some cy = some comp := hcy.symm.trans fC
  cases ec
  generalize hF : Jvm.Free.Multi.fill (T.setVm vm₁) cA cy n.toNatClampNeg k.toNatClampNeg (defaultValue ty) n.toNatClampNeg = F at X' step
  have hTh : (T.setVm vm₁).heap = H := hT
  obtain ⟨f1, f2, -, -⟩ := Jvm.Free.Multi.fill_facts (T.setVm vm₁) cA cy n.toNatClampNeg k.toNatClampNeg (defaultValue ty) n.toNatClampNeg
  rw [hF, hTh] at f1 f2
  have hold : ∀ x : Nat, x < H.size → F.heap[x]? = H[x]? := fun x hx => by
    have := Jvm.Free.Multi.fill_old (T.setVm vm₁) cA cy n.toNatClampNeg k.toNatClampNeg (defaultValue ty) (a := x) (by rw [hTh]; exact hx) n.toNatClampNeg
    rw [hF, hTh] at this
    exact this
  have hrow : ∀ j : Nat, j < n.toNatClampNeg → F.heap[H.size + 1 + j]? = some (vp_cell cy z) := fun j hj => by
    have := Jvm.Free.Multi.fill_inner (T.setVm vm₁) cA cy n.toNatClampNeg k.toNatClampNeg (defaultValue ty) n.toNatClampNeg j hj
    rw [hF, hTh, hz] at this
    exact this
  have hout : Jvm.Free.Multi.outerC cA n.toNatClampNeg H.size n.toNatClampNeg = vp_cell cA (n.toNatClampNeg, .inr (.inr (.inr (.inr (fun i => if i < n.toNatClampNeg then some (H.size + 1 + i) else none))))) := by
    rw [vp_cell_q]
    exact vr_outer cA n.toNatClampNeg H.size n.toNatClampNeg
  rw [hout] at f2
  have hlt : ∀ a, a ∈ L → a < H.size := fun a ha => by
    obtain ⟨k9, hk9⟩ := va_pl_get (X := X) (f := f) ha
    exact (hP k9 _ hk9).lt
  have hnl : ∀ i : Nat, i < n.toNatClampNeg → H.size + 1 + i ∉ L := fun i _ h => by
    have := hlt _ h
    omega
  have hnm : ∀ a, a ∈ (List.range n.toNatClampNeg).map (fun i => H.size + 1 + i) → a ∉ L := fun a ha h => by
    obtain ⟨i, -, rfl⟩ := List.mem_map.mp ha
    have := hlt _ h
    omega
  have hP0 : va_P D cl (X ++ va_pl L f) F.heap := hP.kept (fun k9 x hx => hold x.1 ((hP k9 x hx).lt))
  have hP1 : va_P D cl ((X ++ va_pl L f) ++ [(H.size, .inl (cA, n.toNatClampNeg, .inr (.inr (.inr (.inr (fun i => if i < n.toNatClampNeg then some (H.size + 1 + i) else none))))))]) F.heap := hP0.app (fun k9 x hx => by
    have h0 : k9 < 1 := (List.getElem?_eq_some_iff.mp hx).1
    rw [show k9 = 0 by omega] at hx
    cases hx
    exact f2)
  have hP2 : va_P D cl (((X ++ va_pl L f) ++ [(H.size, .inl (cA, n.toNatClampNeg, .inr (.inr (.inr (.inr (fun i => if i < n.toNatClampNeg then some (H.size + 1 + i) else none))))))]) ++ ((List.range n.toNatClampNeg).map (fun i => H.size + 1 + i)).map (fun a => (a, .inl (cy, z)))) F.heap := hP1.app (fun k9 x hx => by
    obtain ⟨a, ha, rfl⟩ := List.mem_map.mp (List.mem_of_getElem? hx)
    obtain ⟨i, hi, rfl⟩ := List.mem_map.mp ha
    exact hrow i (List.mem_range.mp hi))
  have hD2 : va_D A (((X ++ va_pl L f) ++ [(H.size, .inl (cA, n.toNatClampNeg, .inr (.inr (.inr (.inr (fun i => if i < n.toNatClampNeg then some (H.size + 1 + i) else none))))))]) ++ ((List.range n.toNatClampNeg).map (fun i => H.size + 1 + i)).map (fun a => (a, .inl (cy, z)))) := by
    have hD1 := hD.push (e := .inl (cA, n.toNatClampNeg, .inr (.inr (.inr (.inr (fun i => if i < n.toNatClampNeg then some (H.size + 1 + i) else none)))))) hP rfl (hA _ hS.1)
    generalize hW1 : (X ++ va_pl L f) ++ [(H.size, .inl (cA, n.toNatClampNeg, .inr (.inr (.inr (.inr (fun i => if i < n.toNatClampNeg then some (H.size + 1 + i) else none))))))] = W1 at hD1 hP1 ⊢
    have hle : ∀ (k9 : Nat) (x : Nat × va_E), W1[k9]? = some x → x.1 ≤ H.size := fun k9 x hx => by
      rw [← hW1] at hx
      by_cases hl : k9 < (X ++ va_pl L f).length
      · rw [List.getElem?_append_left hl] at hx
        exact Nat.le_of_lt ((hP k9 x hx).lt)
      · rw [List.getElem?_append_right (by omega)] at hx
        have h0 : k9 - (X ++ va_pl L f).length < 1 := (List.getElem?_eq_some_iff.mp hx).1
        rw [show k9 - (X ++ va_pl L f).length = 0 by omega] at hx
        cases hx
        exact Nat.le_refl _
    have hr : ∀ (k9 : Nat) (x : Nat × va_E), (((List.range n.toNatClampNeg).map (fun i => H.size + 1 + i)).map (fun a => ((a, .inl (cy, z)) : Nat × va_E)))[k9]? = some x → x.1 = H.size + 1 + k9 := fun k9 x hx => by
      rw [List.getElem?_map, List.getElem?_map] at hx
      by_cases h9 : k9 < n.toNatClampNeg
      · rw [List.getElem?_range h9] at hx
        cases hx
        rfl
      · have hn0 : (List.range n.toNatClampNeg)[k9]? = none := List.getElem?_eq_none (by rw [List.length_range]; omega)
        rw [hn0] at hx
        cases hx
    refine ⟨fun i j x y hi hj hxy => ?_, fun k9 x hx => ?_⟩
    · by_cases h1 : i < W1.length <;> by_cases h2 : j < W1.length
      · rw [List.getElem?_append_left h1] at hi
        rw [List.getElem?_append_left h2] at hj
        exact hD1.1 i j x y hi hj hxy
      · rw [List.getElem?_append_left h1] at hi
        rw [List.getElem?_append_right (by omega)] at hj
        have := hle _ _ hi
        have := hr _ _ hj
        omega
      · rw [List.getElem?_append_right (by omega)] at hi
        rw [List.getElem?_append_left h2] at hj
        have := hle _ _ hj
        have := hr _ _ hi
        omega
      · rw [List.getElem?_append_right (by omega)] at hi hj
        have := hr _ _ hi
        have := hr _ _ hj
        omega
    · by_cases h1 : k9 < W1.length
      · rw [List.getElem?_append_left h1] at hx
        exact hD1.2 k9 x hx
      · rw [List.getElem?_append_right (by omega)] at hx
        have := hr _ _ hx
        exact hA _ (by have := hS.1; omega)
  have hAr : ArrOfT s cA (.array ty) := fun N9 z9 => by
    obtain ⟨-, k9, hk9, cm9, hkk9⟩ := (hO 0 0 0).1
    exact ⟨(fun q hq => by cases hq), k9, hk9, cm9, hkk9⟩
  have hK2 : va_K D cl (tys ++ [(cA, .array ty)]) s := ⟨hK.1, fun k9 x hx => by
    by_cases hl : k9 < tys.length
    · rw [List.getElem?_append_left hl] at hx
      exact hK.2 k9 x hx
    · rw [List.getElem?_append_right (by omega)] at hx
      have h0 : k9 - tys.length < 1 := (List.getElem?_eq_some_iff.mp hx).1
      rw [show k9 - tys.length = 0 by omega] at hx
      cases hx
      exact ⟨hAr, fA⟩⟩
  obtain ⟨t, a1, b1⟩ := kk H.size (fun i => H.size + 1 + i) cA F.heap (fun i j _ _ h => by have h9 : H.size + 1 + i = H.size + 1 + j := h; omega) hnl hK2 (by rw [← vr_rows hnm]; exact vr_lay hP2) (by rw [← vr_rows hnm]; exact vr_layD hD2) ⟨by rw [f1]; have := hS.1; omega, fun x h1 h2 => (hold x (Nat.lt_of_lt_of_le h1 hS.1)).trans (hS.2.1 x h1 h2), hS.2.2⟩ F rfl X'
  refine ⟨t, step t ?_, b1⟩
  have e : T.heap.size = H.size := by rw [hT]
  rw [e]
  exact a1
end VGM
/-! ===== END ===== -/

/-! ===== BEGIN exceptions that leave a method, and their catching by the caller (launches without stack traces) ===== -/
section VXA
/-! The laws vx_back, vx_callV, vx_callS, vx_callSW, vx_throw0, vx_throwS follow proofs of the library, with one case more: JvmDerived/Free/Laws.lean (Back.of_free), Shelf42/LK1.lean (callV, callS), Shelf/KitTraced.lean (throwNew0V, throwNewS). -/
/-- where a method has thrown q: the class by its name, the cell, what was written, the world -/
def vx_T (XC : String → State → State → Prop) (st : State) (q : Addr) (t : State) (mc ms : Nat) (free : Addr → Prop) : Prop :=
  ∃ (E : String) (ce : Cell) (L : List Loc), XC E st t ∧ t.heap[q]? = some ce ∧ ce.vm = .none ∧ st.vm.findClass E = some ce.cls ∧ st.WarmedH t.vm ∧ st.sameButNew ({ t with vm := st.vm } : State) L mc ms ∧ ∀ z ∈ L, free z.base
def vx_Q (Qc : Array Value → State → Outcome → State → Prop) (XC : String → State → State → Prop) (mc ms : Nat) (free : Addr → Prop) : Array Value → State → Outcome → State → Prop := fun a st o t =>
  (Qc a st o t ∧ ∃ L, FrameEnd st o t L mc ms ∧ ∀ q ∈ L, free q.base) ∨ ∃ q, o = .threw q ∧ vx_T XC st q t mc ms free
/-- a callee that returns or throws -/
def vx_Met (l : Launch) (y : MethodName) (ws : List Cond) (rm : Room) (Pc : Array Value → State → Prop) (Qc : Array Value → State → Outcome → State → Prop) (XC : String → State → State → Prop) (mc ms : Nat) (free : Addr → Prop) : Prop :=
  MetFree l y (headSpec ws rm) Pc (fun _ _ _ _ _ => True) (vx_Q Qc XC mc ms free)
def vx_Post (XC : String → State → State → Prop) (mc ms : Nat) (free : Addr → Prop) : Pt → Array Value → Addr → Pt → Prop := fun A a q B =>
  ∃ (g : JFrame) (mk : MethodId) (t : State) (L : List Loc) (E : String) (ce : Cell), B.U.heap = t.heap ∧ B.U.vm = t.vm ∧ XC E (A.U.calling g mk a) t ∧ t.heap[q]? = some ce ∧ ce.vm = .none ∧ A.U.vm.findClass E = some ce.cls ∧ B.locs = A.locs ++ L ∧ (∀ z ∈ L, free z.base) ∧ B.cells = A.cells + mc ∧ B.slots = A.slots + ms
def vx_Back (l : Launch) (R : Room) (p : Program) (e : Env) (below : List Frame) (s : State) (sargs : Array Value) (y : MethodName) (len W9 : Nat)
    (Pre : Pt → Array Value → Prop) (Post : Pt → Array Value → Option Value → Pt → Prop) (PostX : Pt → Array Value → Addr → Pt → Prop) : Prop :=
  ∀ (m : MethodId) (meth : Method) (c : Code) (A : Pt) (g : JFrame) (ig : Instr) (mk : MethodId) (a : Array Value),
    Stand p l e R s m sargs below meth c A.U A.locs A.cells A.slots → g.method = m → g.locals.size = c.maxLocals → decode c.code g.pc = .ok (ig, len) →
    2 * g.monitorRoom + (g.stack.map fun v => v.category).sum ≤ W9 → A.U.methodNamed? y = some mk → Pre A a →
    (∃ (v : Option Value) (B : Pt), Stand p l e R s m sargs below meth c B.U B.locs B.cells B.slots ∧ Post A a v B ∧
      Steps p.tables e below (doInvoke e (A.U.setTop g) [] mk a).1 (B.U.setTop { g with pc := g.pc + len, stack := v.toList ++ g.stack })) ∨
    (∃ (q : Addr) (B : Pt), Stand p l e R s m sargs below meth c B.U B.locs B.cells B.slots ∧ PostX A a q B ∧
      Steps p.tables e below (doInvoke e (A.U.setTop g) [] mk a).1 ((B.U.setTop g).pushFrame (.throwing q)))
section Payer
variable {l : Launch} {R : Room} {p : Program} {e : Env} {below : List Frame} {s : State} {sargs : Array Value} {y : MethodName} {len W9 : Nat}
theorem vx_back {ws : List Cond} {rm : Room} {Pc : Array Value → State → Prop} {Qc : Array Value → State → Outcome → State → Prop} {XC : String → State → State → Prop} {mc ms : Nat} {free : Addr → Prop} {bytes : ByteArray} {maxL : Nat} {ret : Option FieldType}
    (hM : vx_Met l y ws rm Pc Qc XC mc ms free) (hblind : FrameBlind Pc) (hrc : rm.cells = mc) (hrs : rm.slots = ms)
    (hframes : rm.frames + 1 ≤ R.frames) (hlocals : W9 + (maxL + 11) + rm.locals ≤ R.locals)
    (hws : ∀ w ∈ ws, ∀ a' U, s.WarmedH U.vm → w.before a' U = true) (hcode : Cond.code y bytes maxL ret ∈ ws) (hinit : ∀ a' U, s.WarmedH U.vm → (Cond.initialized y.cls).before a' U = true) :
    vx_Back l R p e below s sargs y len W9 (PreOf R mc ms Pc) (PostOf Qc mc ms free) (vx_Post XC mc ms free) := by
  intro m meth c A g ig mk a X hg hsize hdg hW hn hp
  have h1 : (headSpec ws rm).pre.before a A.U = true := atoms_intro fun w hw => hws w hw _ _ X.warmed
  have h2 : (Cond.code y bytes maxL ret).before a A.U = true := hws _ hcode _ _ X.warmed
  have h3 : (Cond.initialized y.cls).before a A.U = true := hinit _ _ X.warmed
  have h4 : A.cells + (headSpec ws rm).room.cells ≤ R.cells := by rw [show (headSpec ws rm).room.cells = mc from hrc]; exact hp.1
  have h5 : A.slots + (headSpec ws rm).room.slots ≤ R.slots := by rw [show (headSpec ws rm).room.slots = ms from hrs]; exact hp.2.1
  have hPc : Pc a (A.U.calling g mk a) := hblind _ _ _ _ hp.2.2
  obtain ⟨U, Ls, c0, s0⟩ := A
  dsimp only [Pt.U, Pt.locs, Pt.cells, Pt.slots] at h1 h2 h3 h4 h5 X hn hPc ⊢
  obtain ⟨methY, cY, hmY, hcY, -, hlY, -, -, -, -⟩ := Cond.code_spec hn h2
  obtain ⟨kY, hkY, -⟩ := className_of_methodNamed hn
  have hinitY : kY.init = .initialized := Cond.initialized_spec (findClass_of_methodNamed hn) hkY h3
  have h : At U g.method c below := by rw [hg]; exact X.here
  have hlocals9 : W9 + (maxL + 11) + (headSpec ws rm).room.locals ≤ R.locals := hlocals
  have happ : (headSpec ws rm).appliesLoose y e.platform (U.calling g mk a) = true :=
    Spec.appliesLoose_calling (g := g) h hdg hn hkY hinitY
      (X.room_calling (g := g) (R' := (headSpec ws rm).room) hsize hmY hcY hframes (by rw [hlY]; omega) h4 h5) h1
  obtain ⟨mid, hmid⟩ := h.above
  have hfr : (U.setTop g).frames = (.java g :: mid) ++ below := by rw [State.frames_setTop' g h.top, hmid]; rfl
  obtain ⟨o, s₂, hsteps, -, hend, hq⟩ := Steps.callFree hM p X.admits X.cas X.clock (acts := []) hfr happ hPc trivial
  have hq' : vx_Q Qc XC mc ms free a (U.calling g mk a) o s₂ := hq
  rw [State.frames_setTop' g h.top] at hend
  obtain ⟨g₀, hg0⟩ := Option.isSome_iff_exists.mp h.top
  obtain ⟨r, hr⟩ := State.topJava?_eq_some.mp hg0
  have hr' : (({ U with heap := s₂.heap, slotsUsed := s₂.slotsUsed } : State).setVm s₂.vm).frames = .java g₀ :: r := hr
  rcases hq' with ⟨hqc, L, hfe, hL⟩ | ⟨q, rfl, E, ce, L, hx, hce, hcv, hcl, hW₂, hsm, hL⟩
  · obtain ⟨⟨v, rfl⟩, hW₂, e2, q2, q3, q4, q5, q6⟩ := id hfe
    have e3 : s₂ = ({ (U.calling g mk a).setFrames s₂.frames with heap := s₂.heap, slotsUsed := s₂.slotsUsed } : State).setVm s₂.vm := by
      have : s₂ = ({ s₂ with vm := (U.calling g mk a).vm } : State).setVm s₂.vm := rfl
      rw [e2] at this
      exact this
    obtain ⟨c₂, i₂, len₂, hc₂, hd₂, hf₂⟩ := hend
    have hW' : U.WarmedH s₂.vm := hW₂
    have hcc : c₂ = c := by
      have h1 : s₂.code? g.method = U.code? g.method := by
        rw [State.code?_eq, State.code?_eq, hW'.alike.method?]
      exact Option.some.inj (hc₂.symm.trans (h1.trans h.code))
    subst hcc
    have hlen : len₂ = len := by rw [hdg] at hd₂; cases hd₂; rfl
    subst hlen
    have hs₂ : s₂ = (({ U with heap := s₂.heap, slotsUsed := s₂.slotsUsed } : State).setVm s₂.vm).setTop { g with pc := g.pc + len₂, stack := v.toList ++ g.stack } := by
      refine e3.trans ?_
      rw [hf₂, State.calling_eq h.top, State.setFrames_setFrames, State.setTop_of_frames _ hr', hr]
      rfl
    have hsame : U.sameButNew ({ U with heap := s₂.heap, slotsUsed := s₂.slotsUsed } : State) L mc ms := by
      refine ⟨?_, q2, q3, q4, q5, q6⟩
      obtain ⟨t, ht, -⟩ := State.frames_cons hr
      show ({ U with heap := s₂.heap, slotsUsed := s₂.slotsUsed } : State) = { U.setFrames U.frames with heap := s₂.heap, slotsUsed := s₂.slotsUsed }
      rw [State.setFrames_self ht]
    subst hg
    refine Or.inl ⟨v, ⟨(({ U with heap := s₂.heap, slotsUsed := s₂.slotsUsed } : State).setVm s₂.vm), Ls ++ L, c0 + mc, s0 + ms⟩,
      ⟨X.admits, X.cas, X.clock, X.frames, X.room, X.hears, X.method, X.code, (X.here.setHeapUsed s₂.heap s₂.slotsUsed).setVm hW'.alike, X.tail, State.WarmedH.trans X.warmed hW', X.limits, X.bytes, X.same.trans (hsame.setVm s.vm)⟩,
      ⟨g, mk, s₂, L, rfl, rfl, hqc, rfl, hL, rfl, rfl⟩, ?_⟩
    show Steps p.tables e below _ ((({ U with heap := s₂.heap, slotsUsed := s₂.slotsUsed } : State).setVm s₂.vm).setTop { g with pc := g.pc + len₂, stack := v.toList ++ g.stack })
    rw [← hs₂]
    exact hsteps
  · obtain ⟨e2, q2, q3, q4, q5, q6⟩ := id hsm
    have e3 : s₂ = ({ (U.calling g mk a).setFrames s₂.frames with heap := s₂.heap, slotsUsed := s₂.slotsUsed } : State).setVm s₂.vm := by
      have : s₂ = ({ s₂ with vm := (U.calling g mk a).vm } : State).setVm s₂.vm := rfl
      rw [e2] at this
      exact this
    have hf₂ : s₂.frames = .throwing q :: .java g :: U.frames.tail := hend
    have hW' : U.WarmedH s₂.vm := hW₂
    have hs₂ : s₂ = ((({ U with heap := s₂.heap, slotsUsed := s₂.slotsUsed } : State).setVm s₂.vm).setTop g).pushFrame (.throwing q) := by
      refine e3.trans ?_
      rw [hf₂, State.calling_eq h.top, State.setFrames_setFrames, State.pushFrame, State.frames_setTop _ hr', State.setTop_of_frames _ hr', State.setFrames_setFrames, hr]
      rfl
    have hsame : U.sameButNew ({ U with heap := s₂.heap, slotsUsed := s₂.slotsUsed } : State) L mc ms := by
      refine ⟨?_, q2, q3, q4, q5, q6⟩
      obtain ⟨t, ht, -⟩ := State.frames_cons hr
      show ({ U with heap := s₂.heap, slotsUsed := s₂.slotsUsed } : State) = { U.setFrames U.frames with heap := s₂.heap, slotsUsed := s₂.slotsUsed }
      rw [State.setFrames_self ht]
    subst hg
    refine Or.inr ⟨q, ⟨(({ U with heap := s₂.heap, slotsUsed := s₂.slotsUsed } : State).setVm s₂.vm), Ls ++ L, c0 + mc, s0 + ms⟩,
      ⟨X.admits, X.cas, X.clock, X.frames, X.room, X.hears, X.method, X.code, (X.here.setHeapUsed s₂.heap s₂.slotsUsed).setVm hW'.alike, X.tail, State.WarmedH.trans X.warmed hW', X.limits, X.bytes, X.same.trans (hsame.setVm s.vm)⟩,
      ⟨g, mk, s₂, L, E, ce, rfl, rfl, hx, hce, hcv, hcl, rfl, hL, rfl, rfl⟩, ?_⟩
    show Steps p.tables e below _ (((({ U with heap := s₂.heap, slotsUsed := s₂.slotsUsed } : State).setVm s₂.vm).setTop g).pushFrame (.throwing q))
    rw [← hs₂]
    exact hsteps
end Payer
section Calls
variable {p : Program} {l : Launch} {e : Env} {R : Room} {s : State} {m : MethodId} {args : Array Value} {below : List Frame} {meth : Method} {c : Code} {T : State} {locs : List Loc} {cells slots : Nat}
theorem vx_callV (X : Stand p l e R s m args below meth c T locs cells slots) (hexec : p.tables.exec = Jvm.exec) {own C : String} {index : Nat} {y : MethodName} {bytes : ByteArray} {maxL : Nat} {ret : Option FieldType}
    (hown : s.vm.findClass own = some m.cls) (hlink : (Cond.methodLink own index y).before args s = true) (hinst : (Cond.instanceMethod y).before args s = true) (hsel : (Cond.selects C y y).before args s = true)
    (hcode : (Cond.code y bytes maxL ret).before args s = true) (hy : y.cls ≠ "java/lang/invoke/MethodHandle" ∧ y.cls ≠ "java/lang/invoke/VarHandle")
    {W9 : Nat} {Pre : Pt → Array Value → Prop} {Post : Pt → Array Value → Option Value → Pt → Prop} {PostX : Pt → Array Value → Addr → Pt → Prop} (hK : vx_Back l R p e below s args y 3 W9 Pre Post PostX)
    {b : Addr} {cellB : Cell} (hcell : T.heap[b]? = some cellB) (hobj : cellB.vm.isStatics = false) (hcls : s.vm.findClass C = some cellB.cls)
    {g : JFrame} (hg : g.method = m) (hsize : g.locals.size = c.maxLocals) {argsL rest : List Value} (hlen : ∀ sig, parseMethodDescriptor y.desc = some sig → argsL.length = sig.parameters.length)
    (hstack : g.stack = argsL.reverse ++ .ref b :: rest) (hW : 2 * g.monitorRoom + (rest.map fun v => v.category).sum ≤ W9) (hdg : decode c.code g.pc = .ok (.invokevirtual index, 3))
    (hpre : ∀ vm₁, s.WarmedH vm₁ → Pre ⟨T.setVm vm₁, locs, cells, slots⟩ (Value.ref b :: argsL).toArray) :
    (∃ (v : Option Value) (vm₁ : Vm) (B : Pt), s.WarmedH vm₁ ∧ Stand p l e R s m args below meth c B.U B.locs B.cells B.slots ∧ Post ⟨T.setVm vm₁, locs, cells, slots⟩ (Value.ref b :: argsL).toArray v B ∧
      ∀ target, Steps p.tables e below (B.U.setTop { g with pc := g.pc + 3, stack := v.toList ++ rest }) target → Steps p.tables e below (T.setTop g) target) ∨
    (∃ (q : Addr) (vm₁ : Vm) (B : Pt), s.WarmedH vm₁ ∧ Stand p l e R s m args below meth c B.U B.locs B.cells B.slots ∧ PostX ⟨T.setVm vm₁, locs, cells, slots⟩ (Value.ref b :: argsL).toArray q B ∧
      Steps p.tables e below (T.setTop g) ((B.U.setTop { g with stack := rest }).pushFrame (.throwing q))) := by
  obtain ⟨mk, methM, hnamed, hmethM, hstM, habM⟩ := Cond.instanceMethod_spec hinst
  obtain ⟨methM', cM, hmethM', -, -, -, -, -, -, hsigM⟩ := Cond.code_spec hnamed hcode
  cases hmethM.symm.trans hmethM'
  obtain ⟨c2, r2, m2, q1, q2, q3, q4, kP, hkP, hkPi⟩ := Cond.selects_spec hsel
  cases hcls.symm.trans q1
  cases (State.methodFound?_of_named hnamed hy).symm.trans q2
  cases hnamed.symm.trans q3
  have hselP : selectMethod e.platform s.vm cellB.cls mk = .method mk := by rw [Launch.admits_selectMethod X.admits]; exact q4
  obtain ⟨vm₁, X₁, hstep₁⟩ := X.invokevirtual hexec hown hlink hnamed hmethM hstM hkP hkPi hy (a := b) (cell := cellB) hcell
    (fun z h => by rw [h] at hobj; cases hobj) hselP hmethM habM hkP hkPi (g := g) hg (argsL := argsL) (rest := rest) (hlen _ hsigM) hstack hdg
  rcases hK m meth c ⟨T.setVm vm₁, locs, cells, slots⟩ { g with stack := rest } (.invokevirtual index) mk (Value.ref b :: argsL).toArray X₁ hg hsize hdg hW (X₁.named hnamed) (hpre vm₁ X₁.warmed) with ⟨v, B, X', hpost, hsteps⟩ | ⟨q, B, X', hpost, hsteps⟩
  · exact Or.inl ⟨v, vm₁, B, X₁.warmed, X', hpost, fun target h => hstep₁ _ fun acts => by rw [doInvoke_state]; exact hsteps.trans h⟩
  · exact Or.inr ⟨q, vm₁, B, X₁.warmed, X', hpost, hstep₁ _ fun acts => by rw [doInvoke_state]; exact hsteps⟩
theorem vx_callS (X : Stand p l e R s m args below meth c T locs cells slots) (hexec : p.tables.exec = Jvm.exec) {own : String} {index : Nat} {y : MethodName} {bytes : ByteArray} {maxL : Nat} {ret : Option FieldType}
    (hown : s.vm.findClass own = some m.cls) (hlink : (Cond.methodLink own index y).before args s = true) (hstat : (Cond.static y).before args s = true) (hinit : (Cond.initialized y.cls).before args s = true)
    (hcode : (Cond.code y bytes maxL ret).before args s = true) (hy : y.cls ≠ "java/lang/invoke/MethodHandle" ∧ y.cls ≠ "java/lang/invoke/VarHandle")
    {W9 : Nat} {Pre : Pt → Array Value → Prop} {Post : Pt → Array Value → Option Value → Pt → Prop} {PostX : Pt → Array Value → Addr → Pt → Prop} (hK : vx_Back l R p e below s args y 3 W9 Pre Post PostX)
    {g : JFrame} (hg : g.method = m) (hsize : g.locals.size = c.maxLocals) {argsL rest : List Value} (hlen : ∀ sig, parseMethodDescriptor y.desc = some sig → argsL.length = sig.parameters.length)
    (hstack : g.stack = argsL.reverse ++ rest) (hW : 2 * g.monitorRoom + (rest.map fun v => v.category).sum ≤ W9) (hdg : decode c.code g.pc = .ok (.invokestatic index, 3))
    (hpre : ∀ vm₁, s.WarmedH vm₁ → Pre ⟨T.setVm vm₁, locs, cells, slots⟩ argsL.toArray) :
    (∃ (v : Option Value) (vm₁ : Vm) (B : Pt), s.WarmedH vm₁ ∧ Stand p l e R s m args below meth c B.U B.locs B.cells B.slots ∧ Post ⟨T.setVm vm₁, locs, cells, slots⟩ argsL.toArray v B ∧
      ∀ target, Steps p.tables e below (B.U.setTop { g with pc := g.pc + 3, stack := v.toList ++ rest }) target → Steps p.tables e below (T.setTop g) target) ∨
    (∃ (q : Addr) (vm₁ : Vm) (B : Pt), s.WarmedH vm₁ ∧ Stand p l e R s m args below meth c B.U B.locs B.cells B.slots ∧ PostX ⟨T.setVm vm₁, locs, cells, slots⟩ argsL.toArray q B ∧
      Steps p.tables e below (T.setTop g) ((B.U.setTop { g with stack := rest }).pushFrame (.throwing q))) := by
  obtain ⟨mk, hnamed⟩ := Cond.code_named hcode
  obtain ⟨methM, cM, hmethM, -, -, -, -, -, -, hsigM⟩ := Cond.code_spec hnamed hcode
  have hstatic : methM.isStatic = true := Cond.static_spec hnamed hmethM hstat
  obtain ⟨kP, hkP, -⟩ := className_of_methodNamed hnamed
  have hinitP : kP.init = .initialized := Cond.initialized_spec (findClass_of_methodNamed hnamed) hkP hinit
  obtain ⟨vm₁, X₁, hstep₁⟩ := X.invokestatic hexec hown hlink hnamed hmethM hstatic hkP hinitP hy (g := g) hg (argsL := argsL) (rest := rest) (hlen _ hsigM) hstack hdg
  rcases hK m meth c ⟨T.setVm vm₁, locs, cells, slots⟩ { g with stack := rest } (.invokestatic index) mk argsL.toArray X₁ hg hsize hdg hW (X₁.named hnamed) (hpre vm₁ X₁.warmed) with ⟨v, B, X', hpost, hsteps⟩ | ⟨q, B, X', hpost, hsteps⟩
  · exact Or.inl ⟨v, vm₁, B, X₁.warmed, X', hpost, fun target h => hstep₁ _ fun acts => by rw [doInvoke_state]; exact hsteps.trans h⟩
  · exact Or.inr ⟨q, vm₁, B, X₁.warmed, X', hpost, hstep₁ _ fun acts => by rw [doInvoke_state]; exact hsteps⟩
end Calls
theorem vx_cls {s : State} {T : State} {vm₁ : Vm} {E : String} {k : ClassId} (hW : s.WarmedH vm₁) (h : (T.setVm vm₁).vm.findClass E = some k) : s.vm.findClass E = some k := by
  have h1 : vm₁.findClass E = some k := h
  rw [hW.alike.findClass] at h1
  exact h1
/-- the method's frame g, with q thrown over it -/
def vx_W (p : Program) (l : Launch) (e : Env) (R : Room) (s : State) (m : MethodId) (args : Array Value) (below : List Frame) (meth : Method) (c : Code) (H : Heap) (locs : List Loc) (cells slots : Nat) (Q : State → Prop) (g : JFrame) (q : Addr) : Prop :=
  ∀ T : State, T.heap = H → Stand p l e R s m args below meth c T locs cells slots → ∃ t, Steps p.tables e below ((T.setTop g).pushFrame (.throwing q)) t ∧ Q t
def vx_Run (p : Program) (l : Launch) (e : Env) (R : Room) (s : State) (m : MethodId) (args : Array Value) (below : List Frame) (meth : Method) (c : Code) (H : Heap) (locs : List Loc) (cells slots mc ms : Nat) (g : JFrame) (rest : List Value) (Qa : State → Outcome → State → Prop) (XC : String → State → State → Prop) (free : Addr → Prop) : Prop :=
  ∀ T : State, T.heap = H → Stand p l e R s m args below meth c T locs cells slots →
    (∃ (v : Option Value) (st₀ t T' : State) (L : List Loc), st₀.heap = H ∧ Stand p l e R s m args below meth c T' (locs ++ L) (cells + mc) (slots + ms) ∧ (∀ q ∈ L, free q.base) ∧ T'.heap = t.heap ∧ T'.vm = t.vm ∧ Qa st₀ (.returned v) t ∧
      Goes p e below T g T' { g with pc := g.pc + 3, stack := v.toList ++ rest }) ∨
    (∃ (q : Addr) (st₀ t T' : State) (L : List Loc) (E : String) (ce : Cell), st₀.heap = H ∧ Stand p l e R s m args below meth c T' (locs ++ L) (cells + mc) (slots + ms) ∧ (∀ z ∈ L, free z.base) ∧ T'.heap = t.heap ∧ T'.vm = t.vm ∧ XC E st₀ t ∧ t.heap[q]? = some ce ∧ ce.vm = .none ∧ s.vm.findClass E = some ce.cls ∧
      Steps p.tables e below (T.setTop g) ((T'.setTop { g with stack := rest }).pushFrame (.throwing q)))
def vx_X {S : Type} (px : S → Prop) (B : String → S → State → Prop) (A : Nat → Prop) : String → State → State → Prop := fun E st t => ∃ u : S, px u ∧ B E u t ∧ va_F A st t
section Runs
variable {p : Program} {l : Launch} {e : Env} {R : Room} {s : State} {m : MethodId} {args : Array Value} {below : List Frame} {meth : Method} {c : Code} {H : Heap} {locs : List Loc} {cells slots : Nat}
variable {y : MethodName} {bytes cc : ByteArray} {maxL nL mc ms n index : Nat} {ret : Option FieldType} {ws : List Cond} {rm : Room} {Pc : Array Value → State → Prop} {Qc : Array Value → State → Outcome → State → Prop} {XC : String → State → State → Prop} {free : Addr → Prop} {Ts : List Cond} {own C : String} {b : Addr} {As rest : List Value} {g : JFrame}
theorem vx_callBack (cb : CallB R s args own index y bytes maxL ret ws rm mc ms n) (hM : vx_Met l y ws rm Pc Qc XC mc ms free) (hbl : FrameBlind Pc) : vx_Back l R p e below s args y 3 8 (PreOf R mc ms Pc) (PostOf Qc mc ms free) (vx_Post XC mc ms free) := by
  obtain ⟨hrc, hrs, hfr, hlo, hws, hcw, -, hini, -⟩ := cb
  exact vx_back (bytes := bytes) (maxL := maxL) (ret := ret) hM hbl hrc hrs hfr hlo hws hcw (fun a' U hW => word_at hW (Or.inl (by first | rfl | simp [Cond.onTables, Cond.keeps, Cond.steady])) hini)
theorem vx_runV (S : CallFix p m c cc nL s args Ts own) (hM : vx_Met l y ws rm Pc Qc XC mc ms free) (cw : CallW R s args own C index y bytes maxL ret ws rm mc ms n) (hp : PreV s H C b Pc As)
    (hg : g.method = m) (hn : As.length = n) (hsize : g.locals.size = nL) (hstack : g.stack = As.reverse ++ .ref b :: rest) (hW : 2 * g.monitorRoom + (rest.map fun v => v.category).sum ≤ 8) (hdg : decode cc g.pc = .ok (.invokevirtual index, 3)) (hf : cells + mc ≤ R.cells ∧ slots + ms ≤ R.slots) :
    vx_Run p l e R s m args below meth c H locs cells slots mc ms g rest (Qc (Value.ref b :: As).toArray) XC free := by
  have hK : vx_Back l R p e below s args y 3 8 (PreOf R mc ms Pc) (PostOf Qc mc ms free) (vx_Post XC mc ms free) := vx_callBack cw.1 hM hp.1
  obtain ⟨⟨-, -, -, -, -, -, hcode, -, hy, hlen, hl⟩, hin, hse⟩ := cw
  obtain ⟨hx, hb, hml, ho, -⟩ := S
  obtain ⟨-, ⟨cellB, hcB, hoB, hclB⟩, hPc⟩ := hp
  intro T hT X
  rcases vx_callV X hx (C := C) (bytes := bytes) (maxL := maxL) (ret := ret) ho hl hin hse hcode hy hK (by rw [hT]; exact hcB) hoB hclB hg (hsize.trans hml.symm) (argsL := As) (rest := rest) (fun sig h => hn.trans (hlen sig h)) hstack hW (by rw [hb]; exact hdg)
    (fun vm₁ hW₁ => ⟨hf.1, hf.2, hPc (T.setVm vm₁) hT hW₁⟩) with ⟨v, vm₁, ⟨U', l2, c2, s2⟩, hW₁, X', ⟨g', mk, t, L, e1, e2, hq, h1, hL, h2, h3⟩, st⟩ | ⟨q, vm₁, ⟨U', l2, c2, s2⟩, hW₁, X', ⟨g', mk, t, L, E, ce, e1, e2, hq, hce, hcv, hcl, h1, hL, h2, h3⟩, st⟩
  · dsimp only [Pt.U, Pt.locs, Pt.cells, Pt.slots] at X' e1 e2 h1 h2 h3 st
    subst h1; subst h2; subst h3
    exact Or.inl ⟨v, (T.setVm vm₁).calling g' mk (Value.ref b :: As).toArray, t, U', L, hT, X', hL, e1, e2, hq, st⟩
  · dsimp only [Pt.U, Pt.locs, Pt.cells, Pt.slots] at X' e1 e2 h1 h2 h3 st hcl
    subst h1; subst h2; subst h3
    exact Or.inr ⟨q, (T.setVm vm₁).calling g' mk (Value.ref b :: As).toArray, t, U', L, E, ce, hT, X', hL, e1, e2, hq, hce, hcv, vx_cls hW₁ hcl, st⟩
theorem vx_runS (S : CallFix p m c cc nL s args Ts own) (hM : vx_Met l y ws rm Pc Qc XC mc ms free) (cw : CallB R s args own index y bytes maxL ret ws rm mc ms n ∧ (Cond.static y).before args s = true) (hp : PreS s H Pc As)
    (hg : g.method = m) (hn : As.length = n) (hsize : g.locals.size = nL) (hstack : g.stack = As.reverse ++ rest) (hW : 2 * g.monitorRoom + (rest.map fun v => v.category).sum ≤ 8) (hdg : decode cc g.pc = .ok (.invokestatic index, 3)) (hf : cells + mc ≤ R.cells ∧ slots + ms ≤ R.slots) :
    vx_Run p l e R s m args below meth c H locs cells slots mc ms g rest (Qc As.toArray) XC free := by
  have hK : vx_Back l R p e below s args y 3 8 (PreOf R mc ms Pc) (PostOf Qc mc ms free) (vx_Post XC mc ms free) := vx_callBack cw.1 hM hp.1
  obtain ⟨⟨-, -, -, -, -, -, hcode, hini, hy, hlen, hl⟩, hstt⟩ := cw
  obtain ⟨hx, hb, hml, ho, -⟩ := S
  intro T hT X
  rcases vx_callS X hx (bytes := bytes) (maxL := maxL) (ret := ret) ho hl hstt hini hcode hy hK hg (hsize.trans hml.symm) (argsL := As) (rest := rest) (fun sig h => hn.trans (hlen sig h)) hstack hW (by rw [hb]; exact hdg)
    (fun vm₁ hW₁ => ⟨hf.1, hf.2, hp.2 (T.setVm vm₁) hT hW₁⟩) with ⟨v, vm₁, ⟨U', l2, c2, s2⟩, hW₁, X', ⟨g', mk, t, L, e1, e2, hq, h1, hL, h2, h3⟩, st⟩ | ⟨q, vm₁, ⟨U', l2, c2, s2⟩, hW₁, X', ⟨g', mk, t, L, E, ce, e1, e2, hq, hce, hcv, hcl, h1, hL, h2, h3⟩, st⟩
  · dsimp only [Pt.U, Pt.locs, Pt.cells, Pt.slots] at X' e1 e2 h1 h2 h3 st
    subst h1; subst h2; subst h3
    exact Or.inl ⟨v, (T.setVm vm₁).calling g' mk As.toArray, t, U', L, hT, X', hL, e1, e2, hq, st⟩
  · dsimp only [Pt.U, Pt.locs, Pt.cells, Pt.slots] at X' e1 e2 h1 h2 h3 st hcl
    subst h1; subst h2; subst h3
    exact Or.inr ⟨q, (T.setVm vm₁).calling g' mk As.toArray, t, U', L, E, ce, hT, X', hL, e1, e2, hq, hce, hcv, vx_cls hW₁ hcl, st⟩
end Runs
section Rows
variable {p : Program} {l : Launch} {e : Env} {R : Room} {s : State} {m : MethodId} {args : Array Value} {below : List Frame} {meth : Method} {c : Code} {H : Heap} {locs : List Loc} {cells slots : Nat} {Q : State → Prop}
variable {mc ms : Nat} {free : Addr → Prop} {A0 A1 : Nat → Prop} {H0 : Heap} {a : Array Value} {pc : Nat} {ls : Array Slot} {st0 rest : List Value}
theorem vx_keep {st₀ t T' : State} {L : List Loc} (h0 : st₀.heap = H) (e1 : T'.heap = t.heap) (hS : va_S A0 H0 H locs) (hA : ∀ q, q < H.size → A1 q → A0 q) (hf : ∀ q, free q → A0 q) (hL : ∀ q ∈ L, free q.base) (hF : va_F A1 st₀ t) :
    H.size ≤ T'.heap.size ∧ (∀ q : Nat, q < H.size → ¬ A1 q → T'.heap[q]? = H[q]?) ∧ va_S A0 H0 T'.heap (locs ++ L) := by
  obtain ⟨hz, hk⟩ := hF
  rw [h0] at hz hk
  exact ⟨by rw [e1]; exact hz, fun q h1 h2 => by rw [e1]; exact hk q h1 h2,
    ⟨Nat.le_trans hS.1 (by rw [e1]; exact hz), fun q h1 h2 => by rw [e1, hk q (Nat.lt_of_lt_of_le h1 hS.1) (fun z => h2 (hA q (Nat.lt_of_lt_of_le h1 hS.1) z))]; exact hS.2.1 q h1 h2, fun q hq => by
      rcases List.mem_append.mp hq with h | h
      · exact hS.2.2 q h
      · exact hf _ (hL q h)⟩⟩
theorem vx_calli {S SX : Type} {post : Int32 → S → Prop} {px : SX → Prop} {B : S → State → Prop} {BX : String → SX → State → Prop} {AX : Nat → Prop} (hr : vx_Run p l e R s m args below meth c H locs cells slots mc ms (F0 m pc ls st0) rest (va_Qi post B A1 a) (vx_X px BX AX) free) (hS : va_S A0 H0 H locs) (hA : ∀ q, q < H.size → A1 q → A0 q) (hf : ∀ q, free q → A0 q) (hAX : ∀ q, q < H.size → AX q → A0 q)
    (kx : ∀ (E : String) (ce : Cell) (q9 : Addr) (u : SX) (t : State) (H1 : Heap) (locs1 : List Loc), t.heap = H1 → s.vm.Alike t.vm → px u → BX E u t → H.size ≤ H1.size → (∀ q : Nat, q < H.size → ¬ AX q → H1[q]? = H[q]?) → va_S A0 H0 H1 locs1 → H1[q9]? = some ce → ce.vm = .none → s.vm.findClass E = some ce.cls → vx_W p l e R s m args below meth c H1 locs1 (cells + mc) (slots + ms) Q (F0 m pc ls rest) q9)
    (kk : ∀ (r : Int32) (u : S) (t : State) (H1 : Heap) (locs1 : List Loc), t.heap = H1 → s.vm.Alike t.vm → post r u → B u t → H.size ≤ H1.size → (∀ q : Nat, q < H.size → ¬ A1 q → H1[q]? = H[q]?) → va_S A0 H0 H1 locs1 → W p l e R s m args below meth c H1 locs1 (cells + mc) (slots + ms) Q (F0 m (pc + 3) ls (.int r :: rest))) : W p l e R s m args below meth c H locs cells slots Q (F0 m pc ls st0) := by
  intro T hT X
  rcases hr T hT X with ⟨v, st₀, t, T', L, h0, X', hL, e1, e2, ⟨⟨r, u, hv, hp, hb⟩, hF⟩, st⟩ | ⟨q, st₀, t, T', L, E, ce, h0, X', hL, e1, e2, ⟨u, hp, hb, hF⟩, hce, hcv, hcl, st⟩
  · cases hv
    obtain ⟨k1, k2, k3⟩ := vx_keep h0 e1 hS hA hf hL hF
    obtain ⟨t2, a1, b1⟩ := kk r u t T'.heap (locs ++ L) e1.symm (by rw [← e2]; exact X'.warmed.alike) hp hb k1 k2 k3 T' rfl X'
    exact ⟨t2, st t2 a1, b1⟩
  · obtain ⟨k1, k2, k3⟩ := vx_keep h0 e1 hS hAX hf hL hF
    obtain ⟨t2, a1, b1⟩ := kx E ce q u t T'.heap (locs ++ L) e1.symm (by rw [← e2]; exact X'.warmed.alike) hp hb k1 k2 k3 (by rw [e1]; exact hce) hcv hcl T' rfl X'
    exact ⟨t2, st.trans a1, b1⟩
theorem vx_calll {S SX : Type} {post : Int64 → S → Prop} {px : SX → Prop} {B : S → State → Prop} {BX : String → SX → State → Prop} {AX : Nat → Prop} (hr : vx_Run p l e R s m args below meth c H locs cells slots mc ms (F0 m pc ls st0) rest (va_Ql post B A1 a) (vx_X px BX AX) free) (hS : va_S A0 H0 H locs) (hA : ∀ q, q < H.size → A1 q → A0 q) (hf : ∀ q, free q → A0 q) (hAX : ∀ q, q < H.size → AX q → A0 q)
    (kx : ∀ (E : String) (ce : Cell) (q9 : Addr) (u : SX) (t : State) (H1 : Heap) (locs1 : List Loc), t.heap = H1 → s.vm.Alike t.vm → px u → BX E u t → H.size ≤ H1.size → (∀ q : Nat, q < H.size → ¬ AX q → H1[q]? = H[q]?) → va_S A0 H0 H1 locs1 → H1[q9]? = some ce → ce.vm = .none → s.vm.findClass E = some ce.cls → vx_W p l e R s m args below meth c H1 locs1 (cells + mc) (slots + ms) Q (F0 m pc ls rest) q9)
    (kk : ∀ (r : Int64) (u : S) (t : State) (H1 : Heap) (locs1 : List Loc), t.heap = H1 → s.vm.Alike t.vm → post r u → B u t → H.size ≤ H1.size → (∀ q : Nat, q < H.size → ¬ A1 q → H1[q]? = H[q]?) → va_S A0 H0 H1 locs1 → W p l e R s m args below meth c H1 locs1 (cells + mc) (slots + ms) Q (F0 m (pc + 3) ls (.long r :: rest))) : W p l e R s m args below meth c H locs cells slots Q (F0 m pc ls st0) := by
  intro T hT X
  rcases hr T hT X with ⟨v, st₀, t, T', L, h0, X', hL, e1, e2, ⟨⟨r, u, hv, hp, hb⟩, hF⟩, st⟩ | ⟨q, st₀, t, T', L, E, ce, h0, X', hL, e1, e2, ⟨u, hp, hb, hF⟩, hce, hcv, hcl, st⟩
  · cases hv
    obtain ⟨k1, k2, k3⟩ := vx_keep h0 e1 hS hA hf hL hF
    obtain ⟨t2, a1, b1⟩ := kk r u t T'.heap (locs ++ L) e1.symm (by rw [← e2]; exact X'.warmed.alike) hp hb k1 k2 k3 T' rfl X'
    exact ⟨t2, st t2 a1, b1⟩
  · obtain ⟨k1, k2, k3⟩ := vx_keep h0 e1 hS hAX hf hL hF
    obtain ⟨t2, a1, b1⟩ := kx E ce q u t T'.heap (locs ++ L) e1.symm (by rw [← e2]; exact X'.warmed.alike) hp hb k1 k2 k3 (by rw [e1]; exact hce) hcv hcl T' rfl X'
    exact ⟨t2, st.trans a1, b1⟩
theorem vx_callf {S SX : Type} {post : UInt32 → S → Prop} {px : SX → Prop} {B : S → State → Prop} {BX : String → SX → State → Prop} {AX : Nat → Prop} (hr : vx_Run p l e R s m args below meth c H locs cells slots mc ms (F0 m pc ls st0) rest (va_Qf post B A1 a) (vx_X px BX AX) free) (hS : va_S A0 H0 H locs) (hA : ∀ q, q < H.size → A1 q → A0 q) (hf : ∀ q, free q → A0 q) (hAX : ∀ q, q < H.size → AX q → A0 q)
    (kx : ∀ (E : String) (ce : Cell) (q9 : Addr) (u : SX) (t : State) (H1 : Heap) (locs1 : List Loc), t.heap = H1 → s.vm.Alike t.vm → px u → BX E u t → H.size ≤ H1.size → (∀ q : Nat, q < H.size → ¬ AX q → H1[q]? = H[q]?) → va_S A0 H0 H1 locs1 → H1[q9]? = some ce → ce.vm = .none → s.vm.findClass E = some ce.cls → vx_W p l e R s m args below meth c H1 locs1 (cells + mc) (slots + ms) Q (F0 m pc ls rest) q9)
    (kk : ∀ (r : UInt32) (u : S) (t : State) (H1 : Heap) (locs1 : List Loc), t.heap = H1 → s.vm.Alike t.vm → post r u → B u t → H.size ≤ H1.size → (∀ q : Nat, q < H.size → ¬ A1 q → H1[q]? = H[q]?) → va_S A0 H0 H1 locs1 → W p l e R s m args below meth c H1 locs1 (cells + mc) (slots + ms) Q (F0 m (pc + 3) ls (.float r :: rest))) : W p l e R s m args below meth c H locs cells slots Q (F0 m pc ls st0) := by
  intro T hT X
  rcases hr T hT X with ⟨v, st₀, t, T', L, h0, X', hL, e1, e2, ⟨⟨r, u, hv, hp, hb⟩, hF⟩, st⟩ | ⟨q, st₀, t, T', L, E, ce, h0, X', hL, e1, e2, ⟨u, hp, hb, hF⟩, hce, hcv, hcl, st⟩
  · cases hv
    obtain ⟨k1, k2, k3⟩ := vx_keep h0 e1 hS hA hf hL hF
    obtain ⟨t2, a1, b1⟩ := kk r u t T'.heap (locs ++ L) e1.symm (by rw [← e2]; exact X'.warmed.alike) hp hb k1 k2 k3 T' rfl X'
    exact ⟨t2, st t2 a1, b1⟩
  · obtain ⟨k1, k2, k3⟩ := vx_keep h0 e1 hS hAX hf hL hF
    obtain ⟨t2, a1, b1⟩ := kx E ce q u t T'.heap (locs ++ L) e1.symm (by rw [← e2]; exact X'.warmed.alike) hp hb k1 k2 k3 (by rw [e1]; exact hce) hcv hcl T' rfl X'
    exact ⟨t2, st.trans a1, b1⟩
theorem vx_calld {S SX : Type} {post : UInt64 → S → Prop} {px : SX → Prop} {B : S → State → Prop} {BX : String → SX → State → Prop} {AX : Nat → Prop} (hr : vx_Run p l e R s m args below meth c H locs cells slots mc ms (F0 m pc ls st0) rest (va_Qd post B A1 a) (vx_X px BX AX) free) (hS : va_S A0 H0 H locs) (hA : ∀ q, q < H.size → A1 q → A0 q) (hf : ∀ q, free q → A0 q) (hAX : ∀ q, q < H.size → AX q → A0 q)
    (kx : ∀ (E : String) (ce : Cell) (q9 : Addr) (u : SX) (t : State) (H1 : Heap) (locs1 : List Loc), t.heap = H1 → s.vm.Alike t.vm → px u → BX E u t → H.size ≤ H1.size → (∀ q : Nat, q < H.size → ¬ AX q → H1[q]? = H[q]?) → va_S A0 H0 H1 locs1 → H1[q9]? = some ce → ce.vm = .none → s.vm.findClass E = some ce.cls → vx_W p l e R s m args below meth c H1 locs1 (cells + mc) (slots + ms) Q (F0 m pc ls rest) q9)
    (kk : ∀ (r : UInt64) (u : S) (t : State) (H1 : Heap) (locs1 : List Loc), t.heap = H1 → s.vm.Alike t.vm → post r u → B u t → H.size ≤ H1.size → (∀ q : Nat, q < H.size → ¬ A1 q → H1[q]? = H[q]?) → va_S A0 H0 H1 locs1 → W p l e R s m args below meth c H1 locs1 (cells + mc) (slots + ms) Q (F0 m (pc + 3) ls (.double r :: rest))) : W p l e R s m args below meth c H locs cells slots Q (F0 m pc ls st0) := by
  intro T hT X
  rcases hr T hT X with ⟨v, st₀, t, T', L, h0, X', hL, e1, e2, ⟨⟨r, u, hv, hp, hb⟩, hF⟩, st⟩ | ⟨q, st₀, t, T', L, E, ce, h0, X', hL, e1, e2, ⟨u, hp, hb, hF⟩, hce, hcv, hcl, st⟩
  · cases hv
    obtain ⟨k1, k2, k3⟩ := vx_keep h0 e1 hS hA hf hL hF
    obtain ⟨t2, a1, b1⟩ := kk r u t T'.heap (locs ++ L) e1.symm (by rw [← e2]; exact X'.warmed.alike) hp hb k1 k2 k3 T' rfl X'
    exact ⟨t2, st t2 a1, b1⟩
  · obtain ⟨k1, k2, k3⟩ := vx_keep h0 e1 hS hAX hf hL hF
    obtain ⟨t2, a1, b1⟩ := kx E ce q u t T'.heap (locs ++ L) e1.symm (by rw [← e2]; exact X'.warmed.alike) hp hb k1 k2 k3 (by rw [e1]; exact hce) hcv hcl T' rfl X'
    exact ⟨t2, st.trans a1, b1⟩
theorem vx_callv {S SX : Type} {post : S → Prop} {px : SX → Prop} {B : S → State → Prop} {BX : String → SX → State → Prop} {AX : Nat → Prop} (hr : vx_Run p l e R s m args below meth c H locs cells slots mc ms (F0 m pc ls st0) rest (va_Qv post B A1 a) (vx_X px BX AX) free) (hS : va_S A0 H0 H locs) (hA : ∀ q, q < H.size → A1 q → A0 q) (hf : ∀ q, free q → A0 q) (hAX : ∀ q, q < H.size → AX q → A0 q)
    (kx : ∀ (E : String) (ce : Cell) (q9 : Addr) (u : SX) (t : State) (H1 : Heap) (locs1 : List Loc), t.heap = H1 → s.vm.Alike t.vm → px u → BX E u t → H.size ≤ H1.size → (∀ q : Nat, q < H.size → ¬ AX q → H1[q]? = H[q]?) → va_S A0 H0 H1 locs1 → H1[q9]? = some ce → ce.vm = .none → s.vm.findClass E = some ce.cls → vx_W p l e R s m args below meth c H1 locs1 (cells + mc) (slots + ms) Q (F0 m pc ls rest) q9)
    (kk : ∀ (u : S) (t : State) (H1 : Heap) (locs1 : List Loc), t.heap = H1 → s.vm.Alike t.vm → post u → B u t → H.size ≤ H1.size → (∀ q : Nat, q < H.size → ¬ A1 q → H1[q]? = H[q]?) → va_S A0 H0 H1 locs1 → W p l e R s m args below meth c H1 locs1 (cells + mc) (slots + ms) Q (F0 m (pc + 3) ls (rest))) : W p l e R s m args below meth c H locs cells slots Q (F0 m pc ls st0) := by
  intro T hT X
  rcases hr T hT X with ⟨v, st₀, t, T', L, h0, X', hL, e1, e2, ⟨⟨u, hv, hp, hb⟩, hF⟩, st⟩ | ⟨q, st₀, t, T', L, E, ce, h0, X', hL, e1, e2, ⟨u, hp, hb, hF⟩, hce, hcv, hcl, st⟩
  · cases hv
    obtain ⟨k1, k2, k3⟩ := vx_keep h0 e1 hS hA hf hL hF
    obtain ⟨t2, a1, b1⟩ := kk u t T'.heap (locs ++ L) e1.symm (by rw [← e2]; exact X'.warmed.alike) hp hb k1 k2 k3 T' rfl X'
    exact ⟨t2, st t2 a1, b1⟩
  · obtain ⟨k1, k2, k3⟩ := vx_keep h0 e1 hS hAX hf hL hF
    obtain ⟨t2, a1, b1⟩ := kx E ce q u t T'.heap (locs ++ L) e1.symm (by rw [← e2]; exact X'.warmed.alike) hp hb k1 k2 k3 (by rw [e1]; exact hce) hcv hcl T' rfl X'
    exact ⟨t2, st.trans a1, b1⟩
/-- caught by the row x of this method's table; the rows ahead don't take it -/
theorem vx_catch {own name : String} {E : String} {ce : Cell} {q : Addr} (hown : s.vm.findClass own = some m.cls) (pre : List ExceptionTableEntry) (x : ExceptionTableEntry) (suf : List ExceptionTableEntry) (hsplit : c.exceptionTable.toList = pre ++ x :: suf)
    (hpass : ∀ z ∈ pre, covers z pc = false ∨ (z.catchType ≠ 0 ∧ ∃ nm : String, (Cond.classLink own z.catchType nm).before args s = true ∧ va_Nc E nm s)) (hx : covers x pc = true) (h0 : x.catchType ≠ 0)
    (hlink : (Cond.classLink own x.catchType name).before args s = true) (hcast : (Cond.castable E name).before args s = true) (hcell : H[q]? = some ce) (hv : ce.vm = .none) (hcl : s.vm.findClass E = some ce.cls)
    (kk : W p l e R s m args below meth c H locs cells slots Q (F0 m x.handlerPc ls [.ref q])) : vx_W p l e R s m args below meth c H locs cells slots Q (F0 m pc ls rest) q := by
  intro T hT X
  have hpl : e.platform.magicAccessors = ({} : Platform).magicAccessors := by rw [X.admits.platform]
  obtain ⟨c3, c4, hc3, hc4, hasg⟩ := Cond.castable_spec hcast
  cases Option.some.inj (hc3.symm.trans hcl)
  obtain ⟨c5, hc5, hcl5⟩ := Cond.classLink_spec hown hlink e.platform hpl
  cases Option.some.inj (hc4.symm.trans hc5)
  obtain ⟨vm', X', st⟩ := X.thenCaughtThrough q (g := F0 m pc ls rest) rfl (Steps.refl _) (by rw [hT]; exact hcell) (by rw [hv]; rfl) (by obtain ⟨k9, h9, -⟩ := Vm.findClass_spec hcl; exact ⟨k9, h9⟩) pre x suf hsplit
    (fun z hz => by
      rcases hpass z hz with h | ⟨hz0, nm, hl1, hn1⟩
      · exact Or.inl h
      · obtain ⟨c6, hc6, hcl6⟩ := Cond.classLink_spec hown hl1 e.platform hpl
        obtain ⟨a8, b8, h1, h2, h3⟩ := hn1
        cases Option.some.inj (h1.symm.trans hcl)
        cases Option.some.inj (h2.symm.trans hc6)
        exact Or.inr ⟨hz0, _, hcl6, h3⟩) hx (Or.inr ⟨h0, c4, hcl5, hasg⟩)
  obtain ⟨t, a1, b1⟩ := kk (T.setVm vm') hT X'
  exact ⟨t, st.trans a1, b1⟩
end Rows
section Ends
variable {p : Program} {l : Launch} {e : Env} {R : Room} {s : State} {m : MethodId} {args : Array Value} {below : List Frame} {meth : Method} {c : Code} {H : Heap} {locs : List Loc} {cells slots : Nat} {Q : State → Prop}
variable {mc ms : Nat} {free : Addr → Prop} {A0 A1 : Nat → Prop} {H0 : Heap} {a : Array Value} {ls : Array Slot} {st0 rest : List Value}
variable {Qc : Array Value → State → Outcome → State → Prop} {XC : String → State → State → Prop}
/-- what a body that may throw owes at its end -/
def vx_MQ (below : List Frame) (Qc : Array Value → State → Outcome → State → Prop) (XC : String → State → State → Prop) (a : Array Value) (s : State) (mc ms : Nat) (free : Addr → Prop) : State → Prop := fun t =>
  ∃ o, t.status = .running ∧ Ended t below o ∧ vx_Q Qc XC mc ms free a s o t
theorem vx_ret {g : JFrame} {mc ms : Nat} (k : W p l e R s m args below meth c H locs cells slots (MQ below Qc args s mc ms free) g) : W p l e R s m args below meth c H locs cells slots (vx_MQ below Qc XC args s mc ms free) g := by
  intro T hT X
  obtain ⟨t, a1, o, b1, b2, b3, b4⟩ := k T hT X
  exact ⟨t, a1, o, b1, b2, Or.inl ⟨b3, b4⟩⟩
/-- not caught here: it goes on to the caller -/
theorem vx_widen {g : JFrame} {q : Addr} {k n : Nat} (h1 : cells ≤ k) (h2 : slots ≤ n) (kk : vx_W p l e R s m args below meth c H locs k n Q g q) : vx_W p l e R s m args below meth c H locs cells slots Q g q := fun T hT X => kk T hT (stand_widen X h1 h2)
theorem vx_out {pc : Nat} {E : String} {ce : Cell} {q : Addr} {mc ms : Nat} (hout : ∀ x ∈ c.exceptionTable.toList, covers x pc = false) (hlocks : meth.locks = false) (hcell : H[q]? = some ce) (hv : ce.vm = .none) (hcl : s.vm.findClass E = some ce.cls)
    (hx : ∀ t : State, t.heap = H → s.vm.Alike t.vm → XC E s t) (hf : ∀ z ∈ locs, free z.base) (hc : cells ≤ mc) (hs : slots ≤ ms) :
    vx_W p l e R s m args below meth c H locs cells slots (vx_MQ below Qc XC args s mc ms free) (F0 m pc ls rest) q := by
  intro T hT X
  obtain ⟨st1, hrun, hend, hW, hsm⟩ := X.leaveThrown q (g := F0 m pc ls rest) rfl rfl rfl hout hlocks
  have hcell9 : (T.setFrames (.throwing q :: below)).heap[q]? = some ce := by
    show T.heap[q]? = some ce
    rw [hT]; exact hcell
  exact ⟨_, st1, .threw q, hrun, hend, Or.inr ⟨q, rfl, E, ce, locs, hx _ hT hW.alike, hcell9, hv, hcl, hW, hsm.mono hc hs, hf⟩⟩
theorem vx_frame {U : State} {k n : Nat} (h : s.sameButNew ({ U with vm := s.vm } : State) locs k n) : s.heap.size ≤ U.heap.size ∧ ∀ q : Nat, q < s.heap.size → (∀ z ∈ locs, z.base ≠ q) → U.heap[q]? = s.heap[q]? := by
  obtain ⟨-, h2, -, -, -, h6⟩ := h
  refine ⟨h2, fun q hq hz => ?_⟩
  obtain ⟨c9, e1, e2, e3, e4⟩ := h6 q _ (Array.getElem?_eq_getElem hq)
  have hs : c9.slots = (s.heap[q]).slots := Array.ext_getElem? fun i => e4 i fun hm => hz _ hm rfl
  have h9 : c9 = s.heap[q] := by
    rw [hs] at e2
    exact e2
  have e5 : U.heap[q]? = some c9 := e1
  rw [e5, h9, Array.getElem?_eq_getElem hq]
/-- the words of a throw but the four that speak of the heap -/
def vx_no (w : Cond) : Bool := decide (w ≠ .isRef (.static Bundle.tN "UNASSIGNED_STACK" Bundle.steD)) && decide (w ≠ .isRef (.static Bundle.tN "SUPPRESSED_SENTINEL" Bundle.listD)) && decide (w ≠ .laysStatic Bundle.tN "UNASSIGNED_STACK" Bundle.steD) && decide (w ≠ .laysStatic Bundle.tN "SUPPRESSED_SENTINEL" Bundle.listD)
def vx_at0 (own : String) (ic : Nat) (X : String) (names : List String) : List Cond := (Bundle.ownAtoms0 own ic X names).filter vx_no
def vx_atS (own : String) (ic : Nat) (X : String) (names : List String) : List Cond := (Bundle.ownAtoms own ic X names).filter vx_no
/-- a word that the tables alone decide, or a good one -/
def vx_ot (w : Cond) : Bool := w.onTables || goodWord w
theorem vx_ot_at {args a' : Array Value} {s U : State} {w : Cond} (hW : s.WarmedH U.vm) (hvm : s.vm = U.vm) (hg : vx_ot w = true) (h : w.before args s = true) : w.before a' U = true := by
  simp only [vx_ot, Bool.or_eq_true] at hg
  rcases hg with hg | hg
  · exact va_tabs hg hvm h
  · exact word_at hW (good_of_word hg) h
/-- a list's words: the good ones out of the method's own list, the others by premises of their own -/
theorem vx_hat {args : Array Value} {s : State} {L B : List Cond} (h1 : ∀ w ∈ L.filter goodWord, w.before args s = true) (h2 : ∀ w ∈ L.filter (fun w => !goodWord w), w ∈ B) (h3 : ∀ w ∈ B, w.before args s = true) : ∀ w ∈ L, w.before args s = true := by
  intro w hw
  by_cases g : goodWord w = true
  · exact h1 w (List.mem_filter.mpr ⟨hw, g⟩)
  · refine h3 w (h2 w (List.mem_filter.mpr ⟨hw, ?_⟩))
    show (!goodWord w) = true
    cases hgw : goodWord w
    · rfl
    · exact absurd hgw g
theorem vx_c {args : Array Value} {s : State} {w : Cond} {B : List Cond} (h : w.before args s = true) (t : ∀ w ∈ B, w.before args s = true) : ∀ w' ∈ w :: B, w'.before args s = true := fun w' h' => (List.mem_cons.mp h').elim (fun e => by rw [e]; exact h) (t w')
theorem vx_n {args : Array Value} {s : State} : ∀ w ∈ ([] : List Cond), w.before args s = true := fun _ h => nomatch h
theorem vx_own {args : Array Value} {s : State} {L : List Cond} (h1 : ∀ w ∈ L.filter vx_no, w.before args s = true)
    (hU : (Cond.isRef (.static Bundle.tN "UNASSIGNED_STACK" Bundle.steD)).before args s = true) (hN : (Cond.isRef (.static Bundle.tN "SUPPRESSED_SENTINEL" Bundle.listD)).before args s = true)
    (lU : (Cond.laysStatic Bundle.tN "UNASSIGNED_STACK" Bundle.steD).before args s = true) (lN : (Cond.laysStatic Bundle.tN "SUPPRESSED_SENTINEL" Bundle.listD).before args s = true) : ∀ w ∈ L, w.before args s = true := by
  intro w hw
  by_cases e1 : w = .isRef (.static Bundle.tN "UNASSIGNED_STACK" Bundle.steD)
  · rw [e1]; exact hU
  · by_cases e2 : w = .isRef (.static Bundle.tN "SUPPRESSED_SENTINEL" Bundle.listD)
    · rw [e2]; exact hN
    · by_cases e3 : w = .laysStatic Bundle.tN "UNASSIGNED_STACK" Bundle.steD
      · rw [e3]; exact lU
      · by_cases e4 : w = .laysStatic Bundle.tN "SUPPRESSED_SENTINEL" Bundle.listD
        · rw [e4]; exact lN
        · exact h1 w (List.mem_filter.mpr ⟨hw, by unfold vx_no; rw [decide_eq_true e1, decide_eq_true e2, decide_eq_true e3, decide_eq_true e4]; rfl⟩)
/-- where a static field lies, its class's statics cell in H -/
def vx_L (C n d : String) (A : Nat → Prop) (U : State) (H : Heap) : Prop := ∃ (c : ClassId) (k : Class) (i : Nat) (f : Field) (a : Nat) (cell : Cell), U.vm.findClass C = some c ∧ U.fieldFound? C n d = some (c, k, i, f) ∧ f.isStatic = true ∧ k.statics = some a ∧ H[a]? = some cell ∧ cell.vm.isStatics = true ∧ cell.cls = c ∧ f.slot < cell.slots.size ∧ k.staticTypes[f.slot]? = some f.type ∧ ¬ A a
theorem vx_L.moved {C n d : String} {A : Nat → Prop} {u U : State} {H : Heap} (hvm : u.vm.Alike U.vm) (h : vx_L C n d A u H) : vx_L C n d A U H := by
  obtain ⟨c, k, i, f, a, cell, h1, h2, h3, h4, h5, h6, h7, h8, h9, h10⟩ := h
  obtain ⟨k', hi', he⟩ := State.fieldFound?_setVm hvm h2
  exact ⟨c, k', i, f, a, cell, by rw [hvm.findClass]; exact h1, hi', h3, by rw [he]; exact h4, h5, h6, h7, h8, by rw [he]; exact h9, h10⟩
theorem vx_L.kept {C n d : String} {A : Nat → Prop} {U : State} {H H1 : Heap} (h : vx_L C n d A U H) (hq : ∀ a : Nat, a < H.size → ¬ A a → H1[a]? = H[a]?) : vx_L C n d A U H1 := by
  obtain ⟨c, k, i, f, a, cell, h1, h2, h3, h4, h5, h6, h7, h8, h9, h10⟩ := h
  exact ⟨c, k, i, f, a, cell, h1, h2, h3, h4, by rw [hq a (Array.getElem?_eq_some_iff.mp h5).1 h10]; exact h5, h6, h7, h8, h9, h10⟩
theorem vx_L.narrow {C n d : String} {A B : Nat → Prop} {U : State} {H : Heap} (h : vx_L C n d A U H) (hAB : ∀ q, B q → A q) : vx_L C n d B U H := by
  obtain ⟨c, k, i, f, a, cell, h1, h2, h3, h4, h5, h6, h7, h8, h9, h10⟩ := h
  exact ⟨c, k, i, f, a, cell, h1, h2, h3, h4, h5, h6, h7, h8, h9, fun z => h10 (hAB _ z)⟩
theorem vx_L.word {C n d : String} {A : Nat → Prop} {s : State} {args : Array Value} (h : vx_L C n d A s s.heap) : (Cond.laysStatic C n d).before args s = true := by
  obtain ⟨c, k, i, f, a, cell, h1, h2, h3, h4, h5, h6, h7, h8, h9, -⟩ := h
  show (Cond.laysStatic C n d).holds args s none s [] = true
  exact Cond.laysStatic_of h1 h2 h3 h4 h5 h6 h7 h8 h9
/-- .. and what it holds: null or some reference -/
def vx_Zq (C n d : String) (A : Nat → Prop) (U : State) (H : Heap) : Prop := va_Zq C n d A U H ∧ vx_L C n d A U H
theorem vx_Zq.moved {C n d : String} {A : Nat → Prop} {u U : State} {H : Heap} (hvm : u.vm.Alike U.vm) (h : vx_Zq C n d A u H) : vx_Zq C n d A U H := ⟨va_Zq.moved hvm h.1, vx_L.moved hvm h.2⟩
theorem vx_Zq.kept {C n d : String} {A : Nat → Prop} {U : State} {H H1 : Heap} (h : vx_Zq C n d A U H) (hq : ∀ a : Nat, a < H.size → ¬ A a → H1[a]? = H[a]?) : vx_Zq C n d A U H1 := ⟨va_Zq.kept h.1 hq, vx_L.kept h.2 hq⟩
theorem vx_Zq.narrow {C n d : String} {A B : Nat → Prop} {U : State} {H : Heap} (h : vx_Zq C n d A U H) (hAB : ∀ q, B q → A q) : vx_Zq C n d B U H := ⟨va_Zq.narrow h.1 hAB, vx_L.narrow h.2 hAB⟩
theorem vx_Zqof {args : Array Value} {s : State} {C n d : String} {A : Nat → Prop} (hl : (Cond.laysStatic C n d).before args s = true) (hini : (Cond.initialized C).before args s = true) (h : (Cond.isRef (.static C n d)).before args s = true) (hA : ∀ a : Nat, a < s.heap.size → ¬ A a) : vx_Zq C n d A s s.heap := by
  refine ⟨va_Zqof hl hini h hA, ?_⟩
  obtain ⟨c, k, i, f, a, cell, h1, h2, h3, h4, h5, h6, h7, h8, h9⟩ := Cond.laysStatic_spec hl
  exact ⟨c, k, i, f, a, cell, h1, h2, h3, h4, h5, h6, h7, h8, h9, hA a (Array.getElem?_eq_some_iff.mp h5).1⟩
theorem vx_isRef {C n d : String} {v : Value} {A : Nat → Prop} {s : State} {args : Array Value} (h : va_Z C n d v A s s.heap) (hv : v.isRef = true) : (Cond.isRef (.static C n d)).before args s = true := by
  obtain ⟨cf, kf, fi, f, a, cell, h1, h2, h3, h4, h5, h6, h7, -⟩ := h
  have he : (Term.static C n d).eval args s none [] s = some v := by
    simp [Term.eval, State.fieldNamed?, h1, h2, h4, h5, h6, h7]
  simp only [Cond.before, Cond.holds, Cond.value, he]
  cases v <;> simp_all [Value.isRef]
theorem vx_isRefq {C n d : String} {A : Nat → Prop} {s : State} {args : Array Value} (h : va_Zq C n d A s s.heap) : (Cond.isRef (.static C n d)).before args s = true := by
  rcases h with h | ⟨t, h⟩
  · exact vx_isRef h rfl
  · exact vx_isRef h rfl
/-- the same frame, seen from here: as if the method were called anew in this heap -/
theorem vx_rebase {T : State} (X : Stand p l e R s m args below meth c T locs cells slots) {R' : Room} (hf : R'.frames ≤ R.frames) (hl : R'.locals ≤ R.locals) (hc : cells + R'.cells ≤ R.cells) (hs : slots + R'.slots ≤ R.slots) :
    Stand p l e R' ((T.setVm s.vm).setFrames (.invoking m args :: below)) m args below meth c T [] 0 0 := by
  have htop : (T.setVm s.vm).topJava?.isSome := X.here.top
  have hF : ((T.setVm s.vm).setFrames (.invoking m args :: below)).frames = .invoking m args :: below := State.frames_setFrames _ (State.cur_lt_of_top htop)
  obtain ⟨g₀, hg0⟩ := Option.isSome_iff_exists.mp htop
  obtain ⟨r, hr⟩ := State.topJava?_eq_some.mp hg0
  have hl9 : e.platform.stackLimits (T.setVm s.vm).me = e.platform.stackLimits s.me := X.limits
  have hb9 : (T.setVm s.vm).me.stackBytes = s.me.stackBytes := X.bytes
  refine ⟨X.admits, X.cas, X.clock, hF, ?_, X.hears, X.method, X.code, X.here, X.tail, X.warmed, ?_, ?_, ?_⟩
  · have h := X.room
    have hU : ((T.setVm s.vm).setFrames (.invoking m args :: below)).localsInUse = s.localsInUse := by
      rw [State.localsInUse_invoking hF (meth := meth) (c := c) X.method X.code, State.localsInUse_invoking X.frames X.method X.code]
    simp only [State.hasRoom, Bool.and_eq_true, decide_eq_true_eq] at h ⊢
    obtain ⟨⟨⟨⟨h1, h2, h3, h4, h5, h6⟩, h7⟩, h8⟩, h9⟩ := h
    rw [X.frames, List.length_cons] at h2 h3
    have q1 := X.heapSize
    have q2 := X.used
    simp only [hF, hU, List.length_cons, State.stackLimits_setFrames, State.stackBytes_setFrames, hl9, hb9]
    refine ⟨⟨⟨⟨by omega, by omega, by omega, by omega, by omega, h6⟩, ?_⟩, ?_⟩, X.book⟩
    · show T.heap.size + R'.cells ≤ e.platform.maxCells
      omega
    · show T.slotsUsed + R'.slots ≤ e.platform.maxSlots
      omega
  · rw [State.stackLimits_setFrames]; rfl
  · rw [State.stackBytes_setFrames]; rfl
  · refine ⟨?_, Nat.le_refl _, Nat.le_refl _, ?_, ?_, fun a c9 h9 => ⟨c9, h9, rfl, rfl, fun _ _ => rfl⟩⟩
    · obtain ⟨t, ht, -⟩ := State.frames_cons hr
      show T.setVm s.vm = { ((T.setVm s.vm).setFrames (.invoking m args :: below)).setFrames (T.setVm s.vm).frames with heap := T.heap, slotsUsed := T.slotsUsed }
      rw [State.setFrames_setFrames, State.setFrames_self ht]
      rfl
    · show T.slotsUsed = T.slotsUsed + ((T.heap.toList.drop T.heap.size).map (·.slots.size)).sum
      rw [List.drop_eq_nil_of_le (Nat.le_of_eq Array.length_toList)]
      rfl
    · show ((T.heap.toList.drop T.heap.size).map (·.slots.size)).sum ≤ 0
      rw [List.drop_eq_nil_of_le (Nat.le_of_eq Array.length_toList)]
      exact Nat.le_refl _
/-- 'throw new E()': new; dup; invokespecial; athrow -/
theorem vx_throw0 {cc : ByteArray} {pc : Nat} (hexec : p.tables.exec = Jvm.exec) (hb : c.code = cc) (hl : l.stackTraces = false) {own cls : String} {names : List String} {ik ic mc ms : Nat} {A : Nat → Prop}
    (hown : s.vm.findClass own = some m.cls) (hcls : Bundle.fit cls = true) (hnames : ∀ n ∈ names, Bundle.fit n = true)
    (hk : (Cond.classLink own ik cls).before args s = true) (hini : (Cond.initialized cls).before args s = true) (hat : ∀ w ∈ vx_at0 own ic cls names, w.before args s = true)
    (hgood : ∀ w ∈ Cond.classLink own ik cls :: Cond.initialized cls :: vx_at0 own ic cls names, vx_ot w = true)
    (hU : vx_Zq Bundle.tN "UNASSIGNED_STACK" Bundle.steD A s s.heap) (hN : vx_Zq Bundle.tN "SUPPRESSED_SENTINEL" Bundle.listD A s s.heap) (hS : va_S A s.heap H locs) (hsize : ls.size = c.maxLocals)
    (d0 : decode cc pc = .ok (.new ik, 3)) (d3 : decode cc (pc + 3) = .ok (.dup, 1)) (d4 : decode cc (pc + 4) = .ok (.invokespecial ic, 3)) (d7 : decode cc (pc + 7) = .ok (.athrow, 1))
    (hout : ∀ x ∈ c.exceptionTable.toList, covers x (pc + 7) = false)
    (hRframes : names.length + 3 < R.frames) (hRlocals : (rest.map fun v => v.category).sum + (13 * (names.length + 1) + 42) ≤ R.locals) (hRcells : cells + 1 ≤ R.cells) (hRslots : slots + 6 ≤ R.slots) (hlocks : meth.locks = false)
    (hx : ∀ t : State, s.vm.Alike t.vm → H.size ≤ t.heap.size → (∀ q : Nat, q < H.size → t.heap[q]? = H[q]?) → XC cls s t)
    (hf : ∀ z ∈ locs, free z.base) (hc : cells + 1 ≤ mc) (hs : slots + 6 ≤ ms) :
    W p l e R s m args below meth c H locs cells slots (vx_MQ below Qc XC args s mc ms free) (F0 m pc ls rest) := by
  intro T hT X
  have htr : e.platform.stackTraces = false := (show e.platform.stackTraces = l.stackTraces by rw [X.admits.platform]).trans hl
  have Y := vx_rebase X (R' := { frames := R.frames, locals := R.locals, cells := 1, slots := 6 }) (Nat.le_refl _) (Nat.le_refl _) hRcells hRslots
  obtain ⟨s', hA⟩ : ∃ z, z = (T.setVm s.vm).setFrames (.invoking m args :: below) := ⟨_, rfl⟩
  rw [← hA] at Y
  have hvm : s'.vm = s.vm := by rw [hA]; rfl
  have hhp : s'.heap = H := by rw [hA]; exact hT
  have hW0 : s.WarmedH s'.vm := by rw [hvm]; exact State.WarmedH.refl s
  have hat' : ∀ w ∈ vx_at0 own ic cls names, w.before args s' = true := fun w hw => vx_ot_at hW0 hvm.symm (hgood w (List.mem_cons_of_mem _ (List.mem_cons_of_mem _ hw))) (hat w hw)
  have hk' : (Cond.classLink own ik cls).before args s' = true := vx_ot_at hW0 hvm.symm (hgood _ List.mem_cons_self) hk
  have hini' : (Cond.initialized cls).before args s' = true := vx_ot_at hW0 hvm.symm (hgood _ (List.mem_cons_of_mem _ List.mem_cons_self)) hini
  have hU' : vx_Zq Bundle.tN "UNASSIGNED_STACK" Bundle.steD A s' s'.heap := by rw [hhp]; exact vx_Zq.moved hW0.alike (hU.kept hS.2.1)
  have hN' : vx_Zq Bundle.tN "SUPPRESSED_SENTINEL" Bundle.listD A s' s'.heap := by rw [hhp]; exact vx_Zq.moved hW0.alike (hN.kept hS.2.1)
  have h : ∀ w ∈ Bundle.ownAtoms0 own ic cls names, w.before args s' = true := vx_own hat' (vx_isRefq hU'.1) (vx_isRefq hN'.1) hU'.2.word hN'.2.word
  have hown' : s'.vm.findClass own = some m.cls := by rw [hvm]; exact hown
  have hins : (Cond.instantiable cls 6).before args s' = true := h _ (by simp [Bundle.ownAtoms0])
  obtain ⟨vm₁, cX, kX, hfX, hkX, -, -, X₁, st1⟩ := Y.newCold hexec (own := own) (C := cls) (index := ik) (n := 6) hown' hk' hins hini'
    (g := F0 m pc ls rest) rfl (by rw [hb]; exact d0) (Nat.le_refl _) (Nat.le_refl _)
  generalize hT1 : (T.setVm vm₁).pushCell { cls := cX, slots := kX.instanceTypes.map defaultValue, vm := .none } = T1 at X₁ st1
  have hcat : (Value.ref T.heap.size).category = 1 := rfl
  have hcellA : T1.heap[T.heap.size]? = some (freshCell cX kX) := by rw [← hT1]; exact State.heap_pushCell_size _ _
  have d3' : decode c.code (pc + 3) = .ok (.dup, 1) := by rw [hb]; exact d3
  obtain ⟨U, hsteps, hrun, hend, hW, hsame, ce, hce, hO⟩ := X₁.ctorThrow0 hexec htr (own := own) (cls := cls) (names := names) (ic := ic) hown' hcls hnames h (fun x hx => nomatch hx) hfX hkX hcellA (by rw [hhp, hT]; exact Nat.le_refl _)
    (g := { method := m, pc := pc + 4, locals := ls, stack := .ref T.heap.size :: .ref T.heap.size :: rest, locked := none }) rfl hsize rfl rfl (rest := rest) rfl
    (by rw [hb]; exact d4) (by rw [hb]; exact d7) hout hRframes (by simp only [List.map_cons, List.sum_cons, hcat]; omega) hlocks
  obtain ⟨f1, f2⟩ := vx_frame hsame
  rw [hhp] at f1 f2
  have hWs : s.WarmedH U.vm := State.WarmedH.trans hW0 hW
  have hcl : s.vm.findClass cls = some ce.cls := by
    have h9 := hO.cls
    rw [hvm] at h9
    exact h9
  have hall : s.sameButNew ({ U with vm := s.vm } : State) locs mc ms := by
    subst hA
    obtain ⟨e1, e2⟩ := hsame
    rw [State.setFrames_setFrames] at e1
    have h2 : (T.setVm s.vm).sameButNew ({ U with vm := s.vm } : State) [] (0 + 1) (0 + 6) := ⟨e1, e2⟩
    have h3 := X.same.trans h2
    rw [List.append_nil] at h3
    exact h3.mono hc hs
  refine ⟨U, ?_, .threw T.heap.size, hrun, hend, Or.inr ⟨T.heap.size, rfl, cls, ce, locs, hx U hWs.alike f1 (fun q hq => f2 q hq (fun z hz => nomatch hz)), hce, hO.vm, hcl, hWs, hall, hf⟩⟩
  refine st1 _ ?_
  show Steps p.tables e below (T1.setTop { method := m, pc := pc + 3, locals := ls, stack := .ref T.heap.size :: rest, locked := none }) _
  jvm_step X₁.here [X₁.here.top, hexec, d3', Value.category]
  exact hsteps
/-- 'throw new E("text")': new; dup; ldc; invokespecial; athrow -/
theorem vx_throwS {cc : ByteArray} {pc : Nat} (hexec : p.tables.exec = Jvm.exec) (hb : c.code = cc) (hl : l.stackTraces = false) {own cls text : String} {names : List String} {ik is ic mc ms sa : Nat} {A : Nat → Prop}
    (hown : s.vm.findClass own = some m.cls) (hcls : Bundle.fit cls = true) (hnames : ∀ n ∈ names, Bundle.fit n = true)
    (hk : (Cond.classLink own ik cls).before args s = true) (hini : (Cond.initialized cls).before args s = true) (hstr : vk_R own is text sa s) (hat : ∀ w ∈ vx_atS own ic cls names, w.before args s = true)
    (hgood : ∀ w ∈ Cond.classLink own ik cls :: Cond.initialized cls :: vx_atS own ic cls names, vx_ot w = true)
    (hU : vx_Zq Bundle.tN "UNASSIGNED_STACK" Bundle.steD A s s.heap) (hN : vx_Zq Bundle.tN "SUPPRESSED_SENTINEL" Bundle.listD A s s.heap) (hS : va_S A s.heap H locs) (hsize : ls.size = c.maxLocals)
    (d0 : decode cc pc = .ok (.new ik, 3)) (d3 : decode cc (pc + 3) = .ok (.dup, 1)) (d4 : decode cc (pc + 4) = .ok (.ldc is, 2)) (d6 : decode cc (pc + 6) = .ok (.invokespecial ic, 3)) (d9 : decode cc (pc + 9) = .ok (.athrow, 1))
    (hout : ∀ x ∈ c.exceptionTable.toList, covers x (pc + 9) = false)
    (hRframes : names.length + 3 < R.frames) (hRlocals : (rest.map fun v => v.category).sum + (13 * (names.length + 1) + 43) ≤ R.locals) (hRcells : cells + 1 ≤ R.cells) (hRslots : slots + 6 ≤ R.slots) (hlocks : meth.locks = false)
    (hx : ∀ t : State, s.vm.Alike t.vm → H.size ≤ t.heap.size → (∀ q : Nat, q < H.size → t.heap[q]? = H[q]?) → XC cls s t)
    (hf : ∀ z ∈ locs, free z.base) (hc : cells + 1 ≤ mc) (hs : slots + 6 ≤ ms) :
    W p l e R s m args below meth c H locs cells slots (vx_MQ below Qc XC args s mc ms free) (F0 m pc ls rest) := by
  intro T hT X
  have htr : e.platform.stackTraces = false := (show e.platform.stackTraces = l.stackTraces by rw [X.admits.platform]).trans hl
  have Y := vx_rebase X (R' := { frames := R.frames, locals := R.locals, cells := 1, slots := 6 }) (Nat.le_refl _) (Nat.le_refl _) hRcells hRslots
  obtain ⟨s', hA⟩ : ∃ z, z = (T.setVm s.vm).setFrames (.invoking m args :: below) := ⟨_, rfl⟩
  rw [← hA] at Y
  have hvm : s'.vm = s.vm := by rw [hA]; rfl
  have hhp : s'.heap = H := by rw [hA]; exact hT
  have hW0 : s.WarmedH s'.vm := by rw [hvm]; exact State.WarmedH.refl s
  have hat' : ∀ w ∈ vx_atS own ic cls names, w.before args s' = true := fun w hw => vx_ot_at hW0 hvm.symm (hgood w (List.mem_cons_of_mem _ (List.mem_cons_of_mem _ hw))) (hat w hw)
  have hk' : (Cond.classLink own ik cls).before args s' = true := vx_ot_at hW0 hvm.symm (hgood _ List.mem_cons_self) hk
  have hini' : (Cond.initialized cls).before args s' = true := vx_ot_at hW0 hvm.symm (hgood _ (List.mem_cons_of_mem _ List.mem_cons_self)) hini
  have hU' : vx_Zq Bundle.tN "UNASSIGNED_STACK" Bundle.steD A s' s'.heap := by rw [hhp]; exact vx_Zq.moved hW0.alike (hU.kept hS.2.1)
  have hN' : vx_Zq Bundle.tN "SUPPRESSED_SENTINEL" Bundle.listD A s' s'.heap := by rw [hhp]; exact vx_Zq.moved hW0.alike (hN.kept hS.2.1)
  have h : ∀ w ∈ Bundle.ownAtoms own ic cls names, w.before args s' = true := vx_own hat' (vx_isRefq hU'.1) (vx_isRefq hN'.1) hU'.2.word hN'.2.word
  have hown' : s'.vm.findClass own = some m.cls := by rw [hvm]; exact hown
  have hins : (Cond.instantiable cls 6).before args s' = true := h _ (by simp [Bundle.ownAtoms])
  obtain ⟨vm₁, cX, kX, hfX, hkX, -, -, X₁, st1⟩ := Y.newCold hexec (own := own) (C := cls) (index := ik) (n := 6) hown' hk' hins hini'
    (g := F0 m pc ls rest) rfl (by rw [hb]; exact d0) (Nat.le_refl _) (Nat.le_refl _)
  generalize hT1 : (T.setVm vm₁).pushCell { cls := cX, slots := kX.instanceTypes.map defaultValue, vm := .none } = T1 at X₁ st1
  have hcat : (Value.ref T.heap.size).category = 1 := rfl
  have hcellA : T1.heap[T.heap.size]? = some (freshCell cX kX) := by rw [← hT1]; exact State.heap_pushCell_size _ _
  have d3' : decode c.code (pc + 3) = .ok (.dup, 1) := by rw [hb]; exact d3
  have d4' : decode c.code (pc + 4) = .ok (.ldc is, 2) := by rw [hb]; exact d4
  have hstr' : vk_R own is text sa s' := vk_R.warm hW0 hstr
  obtain ⟨U, hsteps, hrun, hend, hW, hsame, ce, hce, hO⟩ := X₁.ctorThrowS hexec htr (own := own) (cls := cls) (names := names) (ic := ic) hown' hcls hnames h (fun x hx => nomatch hx) hfX hkX hcellA (by rw [hhp, hT]; exact Nat.le_refl _) (msg := .ref sa) rfl
    (g := { method := m, pc := pc + 6, locals := ls, stack := .ref sa :: .ref T.heap.size :: .ref T.heap.size :: rest, locked := none }) rfl hsize rfl rfl (rest := rest) rfl
    (by rw [hb]; exact d6) (by rw [hb]; exact d9) hout hRframes (by simp only [List.map_cons, List.sum_cons, hcat]; omega) hlocks
  obtain ⟨f1, f2⟩ := vx_frame hsame
  rw [hhp] at f1 f2
  have hWs : s.WarmedH U.vm := State.WarmedH.trans hW0 hW
  have hcl : s.vm.findClass cls = some ce.cls := by
    have h9 := hO.cls
    rw [hvm] at h9
    exact h9
  have hall : s.sameButNew ({ U with vm := s.vm } : State) locs mc ms := by
    subst hA
    obtain ⟨e1, e2⟩ := hsame
    rw [State.setFrames_setFrames] at e1
    have h2 : (T.setVm s.vm).sameButNew ({ U with vm := s.vm } : State) [] (0 + 1) (0 + 6) := ⟨e1, e2⟩
    have h3 := X.same.trans h2
    rw [List.append_nil] at h3
    exact h3.mono hc hs
  refine ⟨U, ?_, .threw T.heap.size, hrun, hend, Or.inr ⟨T.heap.size, rfl, cls, ce, locs, hx U hWs.alike f1 (fun q hq => f2 q hq (fun z hz => nomatch hz)), hce, hO.vm, hcl, hWs, hall, hf⟩⟩
  refine st1 _ ?_
  show Steps p.tables e below (T1.setTop { method := m, pc := pc + 3, locals := ls, stack := .ref T.heap.size :: rest, locked := none }) _
  jvm_step X₁.here [X₁.here.top, hexec, d3', Value.category]
  exact X₁.ldcString hexec (own := own) (text := text) (index := is) (a := sa) hown' hstr'.1 hstr'.2
    (g := { method := m, pc := pc + 4, locals := ls, stack := .ref T.heap.size :: .ref T.heap.size :: rest, locked := none }) rfl d4' _ hsteps
/-- 'throw new E("text")', the text by a wide index -/
theorem vx_throwSW {cc : ByteArray} {pc : Nat} (hexec : p.tables.exec = Jvm.exec) (hb : c.code = cc) (hl : l.stackTraces = false) {own cls text : String} {names : List String} {ik is ic mc ms sa : Nat} {A : Nat → Prop}
    (hown : s.vm.findClass own = some m.cls) (hcls : Bundle.fit cls = true) (hnames : ∀ n ∈ names, Bundle.fit n = true)
    (hk : (Cond.classLink own ik cls).before args s = true) (hini : (Cond.initialized cls).before args s = true) (hstr : vk_R own is text sa s) (hat : ∀ w ∈ vx_atS own ic cls names, w.before args s = true)
    (hgood : ∀ w ∈ Cond.classLink own ik cls :: Cond.initialized cls :: vx_atS own ic cls names, vx_ot w = true)
    (hU : vx_Zq Bundle.tN "UNASSIGNED_STACK" Bundle.steD A s s.heap) (hN : vx_Zq Bundle.tN "SUPPRESSED_SENTINEL" Bundle.listD A s s.heap) (hS : va_S A s.heap H locs) (hsize : ls.size = c.maxLocals)
    (d0 : decode cc pc = .ok (.new ik, 3)) (d3 : decode cc (pc + 3) = .ok (.dup, 1)) (d4 : decode cc (pc + 4) = .ok (.ldc_w is, 3)) (d7 : decode cc (pc + 7) = .ok (.invokespecial ic, 3)) (d10 : decode cc (pc + 10) = .ok (.athrow, 1))
    (hout : ∀ x ∈ c.exceptionTable.toList, covers x (pc + 10) = false)
    (hRframes : names.length + 3 < R.frames) (hRlocals : (rest.map fun v => v.category).sum + (13 * (names.length + 1) + 43) ≤ R.locals) (hRcells : cells + 1 ≤ R.cells) (hRslots : slots + 6 ≤ R.slots) (hlocks : meth.locks = false)
    (hx : ∀ t : State, s.vm.Alike t.vm → H.size ≤ t.heap.size → (∀ q : Nat, q < H.size → t.heap[q]? = H[q]?) → XC cls s t)
    (hf : ∀ z ∈ locs, free z.base) (hc : cells + 1 ≤ mc) (hs : slots + 6 ≤ ms) :
    W p l e R s m args below meth c H locs cells slots (vx_MQ below Qc XC args s mc ms free) (F0 m pc ls rest) := by
  intro T hT X
  have htr : e.platform.stackTraces = false := (show e.platform.stackTraces = l.stackTraces by rw [X.admits.platform]).trans hl
  have Y := vx_rebase X (R' := { frames := R.frames, locals := R.locals, cells := 1, slots := 6 }) (Nat.le_refl _) (Nat.le_refl _) hRcells hRslots
  obtain ⟨s', hA⟩ : ∃ z, z = (T.setVm s.vm).setFrames (.invoking m args :: below) := ⟨_, rfl⟩
  rw [← hA] at Y
  have hvm : s'.vm = s.vm := by rw [hA]; rfl
  have hhp : s'.heap = H := by rw [hA]; exact hT
  have hW0 : s.WarmedH s'.vm := by rw [hvm]; exact State.WarmedH.refl s
  have hat' : ∀ w ∈ vx_atS own ic cls names, w.before args s' = true := fun w hw => vx_ot_at hW0 hvm.symm (hgood w (List.mem_cons_of_mem _ (List.mem_cons_of_mem _ hw))) (hat w hw)
  have hk' : (Cond.classLink own ik cls).before args s' = true := vx_ot_at hW0 hvm.symm (hgood _ List.mem_cons_self) hk
  have hini' : (Cond.initialized cls).before args s' = true := vx_ot_at hW0 hvm.symm (hgood _ (List.mem_cons_of_mem _ List.mem_cons_self)) hini
  have hU' : vx_Zq Bundle.tN "UNASSIGNED_STACK" Bundle.steD A s' s'.heap := by rw [hhp]; exact vx_Zq.moved hW0.alike (hU.kept hS.2.1)
  have hN' : vx_Zq Bundle.tN "SUPPRESSED_SENTINEL" Bundle.listD A s' s'.heap := by rw [hhp]; exact vx_Zq.moved hW0.alike (hN.kept hS.2.1)
  have h : ∀ w ∈ Bundle.ownAtoms own ic cls names, w.before args s' = true := vx_own hat' (vx_isRefq hU'.1) (vx_isRefq hN'.1) hU'.2.word hN'.2.word
  have hown' : s'.vm.findClass own = some m.cls := by rw [hvm]; exact hown
  have hins : (Cond.instantiable cls 6).before args s' = true := h _ (by simp [Bundle.ownAtoms])
  obtain ⟨vm₁, cX, kX, hfX, hkX, -, -, X₁, st1⟩ := Y.newCold hexec (own := own) (C := cls) (index := ik) (n := 6) hown' hk' hins hini'
    (g := F0 m pc ls rest) rfl (by rw [hb]; exact d0) (Nat.le_refl _) (Nat.le_refl _)
  generalize hT1 : (T.setVm vm₁).pushCell { cls := cX, slots := kX.instanceTypes.map defaultValue, vm := .none } = T1 at X₁ st1
  have hcat : (Value.ref T.heap.size).category = 1 := rfl
  have hcellA : T1.heap[T.heap.size]? = some (freshCell cX kX) := by rw [← hT1]; exact State.heap_pushCell_size _ _
  have d3' : decode c.code (pc + 3) = .ok (.dup, 1) := by rw [hb]; exact d3
  have d4' : decode c.code (pc + 4) = .ok (.ldc_w is, 3) := by rw [hb]; exact d4
  have hstr' : vk_R own is text sa s' := vk_R.warm hW0 hstr
  obtain ⟨U, hsteps, hrun, hend, hW, hsame, ce, hce, hO⟩ := X₁.ctorThrowS hexec htr (own := own) (cls := cls) (names := names) (ic := ic) hown' hcls hnames h (fun x hx => nomatch hx) hfX hkX hcellA (by rw [hhp, hT]; exact Nat.le_refl _) (msg := .ref sa) rfl
    (g := { method := m, pc := pc + 7, locals := ls, stack := .ref sa :: .ref T.heap.size :: .ref T.heap.size :: rest, locked := none }) rfl hsize rfl rfl (rest := rest) rfl
    (by rw [hb]; exact d7) (by rw [hb]; exact d10) hout hRframes (by simp only [List.map_cons, List.sum_cons, hcat]; omega) hlocks
  obtain ⟨f1, f2⟩ := vx_frame hsame
  rw [hhp] at f1 f2
  have hWs : s.WarmedH U.vm := State.WarmedH.trans hW0 hW
  have hcl : s.vm.findClass cls = some ce.cls := by
    have h9 := hO.cls
    rw [hvm] at h9
    exact h9
  have hall : s.sameButNew ({ U with vm := s.vm } : State) locs mc ms := by
    subst hA
    obtain ⟨e1, e2⟩ := hsame
    rw [State.setFrames_setFrames] at e1
    have h2 : (T.setVm s.vm).sameButNew ({ U with vm := s.vm } : State) [] (0 + 1) (0 + 6) := ⟨e1, e2⟩
    have h3 := X.same.trans h2
    rw [List.append_nil] at h3
    exact h3.mono hc hs
  refine ⟨U, ?_, .threw T.heap.size, hrun, hend, Or.inr ⟨T.heap.size, rfl, cls, ce, locs, hx U hWs.alike f1 (fun q hq => f2 q hq (fun z hz => nomatch hz)), hce, hO.vm, hcl, hWs, hall, hf⟩⟩
  refine st1 _ ?_
  show Steps p.tables e below (T1.setTop { method := m, pc := pc + 3, locals := ls, stack := .ref T.heap.size :: rest, locked := none }) _
  jvm_step X₁.here [X₁.here.top, hexec, d3', Value.category]
  exact X₁.ldcStringW hexec (own := own) (text := text) (index := is) (a := sa) hown' hstr'.1 hstr'.2
    (g := { method := m, pc := pc + 4, locals := ls, stack := .ref T.heap.size :: .ref T.heap.size :: rest, locked := none }) rfl d4' _ hsteps
end Ends
section Bodies
variable {l : Launch}
theorem vx_ofW {y : MethodName} {ws ws' : List Cond} {rm : Room} {Pc : Array Value → State → Prop} {Qc : Array Value → State → Outcome → State → Prop} {XC : String → State → State → Prop} {mc ms : Nat} {free : Addr → Prop} {cc : ByteArray} {maxL : Nat} {ret : Option FieldType}
    (hy : plainName y.cls = true) (hw : ws = Cond.code y cc maxL ret :: ws')
    (body : ∀ p e s m args below meth c s₁, BodyLoose p l y (headSpec ws rm) cc maxL ret e s m args below meth c s₁ → c.maxLocals = maxL → (∀ x ∈ c.exceptionTable.toList, False) → Pc args s →
      W p l e (headSpec ws rm).room s m args below meth c s.heap [] 0 0 (vx_MQ below Qc XC args s mc ms free) (entryFrame m args maxL)) : vx_Met l y ws rm Pc Qc XC mc ms free := by
  refine MetFree.of_bodyS (code := cc) (maxLocals := maxL) (ret := ret) hy ?_ ?_
  · intro args s m h hn
    obtain ⟨meth, c, h1, h2, h3, h4, h5, h6, -, -⟩ := Cond.code_spec hn (atoms_spec (ws := ws) h _ (by rw [hw]; exact List.mem_cons_self))
    exact ⟨meth, c, h1, h2, h3, h4, h5, h6⟩
  · intro p e s m args below meth c s₁ B hml hP _
    have hh0 : s₁.heap = s.heap := by rw [B.state]; rfl
    have ht : ∀ x ∈ c.exceptionTable.toList, False := by
      obtain ⟨meth9, c9, h1, h2, -, -, -, -, h7, -⟩ := Cond.code_spec B.named (atoms_spec (ws := ws) B.pre _ (by rw [hw]; exact List.mem_cons_self))
      cases Option.some.inj (h1.symm.trans B.method)
      cases Option.some.inj (h2.symm.trans (Stand.of_body B).code)
      intro x hx
      rw [Array.isEmpty_iff.mp h7] at hx
      cases hx
    obtain ⟨t, a1, o, b1, b2, b3⟩ := body p e s m args below meth c s₁ B hml ht hP s₁ hh0 (Stand.of_body B)
    exact ⟨t, o, a1, b1, b2, b3⟩
/-- the table of a body with handlers -/
theorem vx_table {p : Program} {x y : MethodName} {S : Spec} {cc bytes : ByteArray} {maxL maxL' : Nat} {ret ret' : Option FieldType} {e : Env} {s s₁ : State} {m : MethodId} {args : Array Value} {below : List Frame} {meth : Method} {c : Code} {hh : List (Nat × Nat × Nat × Nat)}
    (B : BodyLoose p l y S cc maxL ret e s m args below meth c s₁) (h : (Cond.codeWith y bytes maxL' ret' hh).before args s = true) : c.exceptionTable.toList = tableOf hh := by
  obtain ⟨m9, meth9, c9, hn9, h1, h2, -, -, h6, -⟩ := Cond.codeWith_spec h
  cases Option.some.inj (hn9.symm.trans B.named)
  cases Option.some.inj (h1.symm.trans B.method)
  cases Option.some.inj (h2.symm.trans (Stand.of_body B).code)
  rw [← h6, table_eq]
end Bodies
end VXA
/-! ===== END ===== -/
/-! ===== BEGIN a static call of a method with an exception table ===== -/
section VXS
variable {p : Program} {l : Launch} {e : Env} {R : Room} {s : State} {m : MethodId} {args : Array Value} {below : List Frame} {meth : Method} {c : Code} {T : State} {H : Heap} {locs : List Loc} {cells slots : Nat}
abbrev vx_CSW (R : Room) (s : State) (args : Array Value) (own : String) (index : Nat) (y : MethodName) (bytes : ByteArray) (maxL : Nat) (ret : Option FieldType) (hh : List (Nat × Nat × Nat × Nat)) (ws : List Cond) (rm : Room) (mc ms n : Nat) : Prop :=
  (rm.cells = mc ∧ rm.slots = ms ∧ rm.frames + 1 ≤ R.frames ∧ 8 + (maxL + 11) + rm.locals ≤ R.locals ∧ (∀ w ∈ ws, ∀ (a' : Array Value) (U : State), s.WarmedH U.vm → w.before a' U = true) ∧ Cond.codeWith y bytes maxL ret hh ∈ ws) ∧
  (Cond.codeWith y bytes maxL ret hh).before args s = true ∧ (Cond.initialized y.cls).before args s = true ∧ (y.cls ≠ "java/lang/invoke/MethodHandle" ∧ y.cls ≠ "java/lang/invoke/VarHandle") ∧
  (∀ sig, parseMethodDescriptor y.desc = some sig → n = sig.parameters.length) ∧ (Cond.methodLink own index y).before args s = true ∧ (Cond.static y).before args s = true
theorem vx_cwSW {own : String} {index maxL mc ms : Nat} {y : MethodName} {bytes : ByteArray} {ret : Option FieldType} {hh : List (Nat × Nat × Nat × Nat)} {Ts ws ws' : List Cond} {rm : Room} (n : Nat) (ht : ∀ w ∈ Ts, w.before args s = true) (hT : GoodIn Ts (va_wsS own index y ws)) (hw : ws = Cond.codeWith y bytes maxL ret hh :: ws') (hrc : rm.cells = mc) (hrs : rm.slots = ms)
    (hd : y.cls ≠ "java/lang/invoke/MethodHandle" ∧ y.cls ≠ "java/lang/invoke/VarHandle" ∧ (parseMethodDescriptor y.desc).map (fun d => d.parameters.length) = some n) (hR : rm.frames + 1 ≤ R.frames ∧ 8 + (maxL + 11) + rm.locals ≤ R.locals) :
    vx_CSW R s args own index y bytes maxL ret hh ws rm mc ms n := by
  have ok : ∀ w ∈ va_wsS own index y ws, w.before args s = true := fun w h => ht w (hT w h).1
  have hG : GoodIn Ts ws := fun w h => hT w (by unfold va_wsS; exact List.mem_append_right _ h)
  have hc : Cond.codeWith y bytes maxL ret hh ∈ ws := by rw [hw]; exact List.mem_cons_self
  refine ⟨⟨hrc, hrs, hR.1, hR.2, pay_in ht hG, hc⟩, ht _ (hG _ hc).1, ok _ (by simp [va_wsS]), ⟨hd.1, hd.2.1⟩, fun sig h => ?_, ok _ (by simp [va_wsS]), ok _ (by simp [va_wsS])⟩
  have h2 := hd.2.2
  rw [h] at h2
  exact (Option.some.inj h2).symm
theorem vx_callSW (X : Stand p l e R s m args below meth c T locs cells slots) (hexec : p.tables.exec = Jvm.exec) {own : String} {index : Nat} {y : MethodName} {bytes : ByteArray} {maxL : Nat} {ret : Option FieldType} {hh : List (Nat × Nat × Nat × Nat)}
    (hown : s.vm.findClass own = some m.cls) (hlink : (Cond.methodLink own index y).before args s = true) (hstat : (Cond.static y).before args s = true) (hinit : (Cond.initialized y.cls).before args s = true)
    (hcode : (Cond.codeWith y bytes maxL ret hh).before args s = true) (hy : y.cls ≠ "java/lang/invoke/MethodHandle" ∧ y.cls ≠ "java/lang/invoke/VarHandle")
    {W9 : Nat} {Pre : Pt → Array Value → Prop} {Post : Pt → Array Value → Option Value → Pt → Prop} (hK : Back l R p e below s args y 3 W9 Pre Post)
    {g : JFrame} (hg : g.method = m) (hsize : g.locals.size = c.maxLocals) {argsL rest : List Value} (hlen : ∀ sig, parseMethodDescriptor y.desc = some sig → argsL.length = sig.parameters.length)
    (hstack : g.stack = argsL.reverse ++ rest) (hW : 2 * g.monitorRoom + (rest.map fun v => v.category).sum ≤ W9) (hdg : decode c.code g.pc = .ok (.invokestatic index, 3))
    (hpre : ∀ vm₁, s.WarmedH vm₁ → Pre ⟨T.setVm vm₁, locs, cells, slots⟩ argsL.toArray) :
    ∃ (v : Option Value) (vm₁ : Vm) (B : Pt), s.WarmedH vm₁ ∧ Stand p l e R s m args below meth c B.U B.locs B.cells B.slots ∧ Post ⟨T.setVm vm₁, locs, cells, slots⟩ argsL.toArray v B ∧
      ∀ target, Steps p.tables e below (B.U.setTop { g with pc := g.pc + 3, stack := v.toList ++ rest }) target → Steps p.tables e below (T.setTop g) target := by
  obtain ⟨mk, methM, cM, hnamed, hmethM, -, -, -, -, -, -, hsigM⟩ := Cond.codeWith_spec hcode
  have hstatic : methM.isStatic = true := Cond.static_spec hnamed hmethM hstat
  obtain ⟨kP, hkP, -⟩ := className_of_methodNamed hnamed
  have hinitP : kP.init = .initialized := Cond.initialized_spec (findClass_of_methodNamed hnamed) hkP hinit
  obtain ⟨vm₁, X₁, hstep₁⟩ := X.invokestatic hexec hown hlink hnamed hmethM hstatic hkP hinitP hy (g := g) hg (argsL := argsL) (rest := rest) (hlen _ hsigM) hstack hdg
  obtain ⟨v, B, X', hpost, hsteps⟩ := hK m meth c ⟨T.setVm vm₁, locs, cells, slots⟩ { g with stack := rest } (.invokestatic index) mk argsL.toArray X₁ hg hsize hdg hW (X₁.named hnamed) (hpre vm₁ X₁.warmed)
  exact ⟨v, vm₁, B, X₁.warmed, X', hpost, fun target h => hstep₁ _ fun acts => by rw [doInvoke_state]; exact hsteps.trans h⟩
theorem vx_runSW {y : MethodName} {bytes cc : ByteArray} {maxL nL mc ms n index : Nat} {ret : Option FieldType} {hh : List (Nat × Nat × Nat × Nat)} {ws : List Cond} {rm : Room} {Pc : Array Value → State → Prop} {Qc : Array Value → State → Outcome → State → Prop} {free : Addr → Prop} {Ts : List Cond} {own : String} {As rest : List Value} {g : JFrame}
    (S : CallFix p m c cc nL s args Ts own) (hM : Met l y ws rm Pc Qc mc ms free) (cw : vx_CSW R s args own index y bytes maxL ret hh ws rm mc ms n) (hp : PreS s H Pc As)
    (hg : g.method = m) (hn : As.length = n) (hsize : g.locals.size = nL) (hstack : g.stack = As.reverse ++ rest) (hW : 2 * g.monitorRoom + (rest.map fun v => v.category).sum ≤ 8) (hdg : decode cc g.pc = .ok (.invokestatic index, 3)) (hf : cells + mc ≤ R.cells ∧ slots + ms ≤ R.slots) :
    va_Run p l e R s m args below meth c H locs cells slots mc ms g rest (Qc As.toArray) (free) := by
  obtain ⟨⟨hrc, hrs, hfr, hlo, hws, hcw⟩, hcode, hini, hy, hlen, hl, hstt⟩ := cw
  have hK : Back l R p e below s args y 3 8 (PreOf R mc ms Pc) (PostOf Qc mc ms free) := va_backW (hh := hh) (bytes := bytes) (maxL := maxL) (ret := ret) hM hp.1 hrc hrs hfr hlo hws hcw (fun a' U hW => word_at hW (Or.inl (by first | rfl | simp [Cond.onTables, Cond.keeps, Cond.steady])) hini)
  obtain ⟨hx, hb, hml, ho, -⟩ := S
  intro T hT X
  obtain ⟨v, vm₁, ⟨U', l2, c2, s2⟩, hW₁, X', ⟨g', mk, t, L, e1, e2, hq, h1, hL, h2, h3⟩, st⟩ := vx_callSW X hx (hh := hh) (bytes := bytes) (maxL := maxL) (ret := ret) ho hl hstt hini hcode hy hK hg (hsize.trans hml.symm) (argsL := As) (rest := rest) (fun sig h => hn.trans (hlen sig h)) hstack hW (by rw [hb]; exact hdg)
    (fun vm₁ hW₁ => ⟨hf.1, hf.2, hp.2 (T.setVm vm₁) hT hW₁⟩)
  dsimp only [Pt.U, Pt.locs, Pt.cells, Pt.slots] at X' e1 e2 h1 h2 h3 st
  subst h1; subst h2; subst h3
  exact ⟨v, (T.setVm vm₁).calling g' mk As.toArray, t, U', L, hT, X', hL, e1, e2, hq, st⟩
/-- not caught here, past rows that name other classes: it goes on to the caller -/
theorem vx_outP {p : Program} {l : Launch} {e : Env} {R : Room} {s : State} {m : MethodId} {args : Array Value} {below : List Frame} {meth : Method} {c : Code} {H : Heap} {locs : List Loc} {cells slots : Nat} {free : Addr → Prop} {ls : Array Slot} {rest : List Value} {Qc : Array Value → State → Outcome → State → Prop} {XC : String → State → State → Prop}
    {pc : Nat} {own E : String} {ce : Cell} {q : Addr} {mc ms : Nat} (hown : s.vm.findClass own = some m.cls) (hlocks : meth.locks = false)
    (hpass : ∀ z ∈ c.exceptionTable.toList, covers z pc = false ∨ (z.catchType ≠ 0 ∧ ∃ nm : String, (Cond.classLink own z.catchType nm).before args s = true ∧ va_Nc E nm s)) (hcell : H[q]? = some ce) (hv : ce.vm = .none) (hcl : s.vm.findClass E = some ce.cls)
    (hx : ∀ t : State, t.heap = H → s.vm.Alike t.vm → XC E s t) (hf : ∀ z ∈ locs, free z.base) (hc : cells ≤ mc) (hs : slots ≤ ms) :
    vx_W p l e R s m args below meth c H locs cells slots (vx_MQ below Qc XC args s mc ms free) (F0 m pc ls rest) q := by
  intro T hT X
  have hpl : e.platform.magicAccessors = ({} : Platform).magicAccessors := by rw [X.admits.platform]
  obtain ⟨vm', hW', X', st⟩ := X.outThrough hlocks q (g := F0 m pc ls rest) rfl rfl rfl (cell := ce) (by rw [hT]; exact hcell) (by rw [hv]; rfl)
    (by obtain ⟨k9, h9, -⟩ := Vm.findClass_spec hcl; exact ⟨k9, h9⟩) (fun z hz => by
      rcases hpass z hz with h | ⟨hz0, nm, hl1, hn1⟩
      · exact Or.inl h
      · obtain ⟨c6, hc6, hcl6⟩ := Cond.classLink_spec hown hl1 e.platform hpl
        obtain ⟨a8, b8, h1, h2, h3⟩ := hn1
        cases Option.some.inj (h1.symm.trans hcl)
        cases Option.some.inj (h2.symm.trans hc6)
        exact Or.inr ⟨hz0, _, hcl6, h3⟩)
  obtain ⟨g₀, hfr⟩ := X'.frames_eq
  have hcell9 : ((T.setVm vm').setFrames (.throwing q :: below)).heap[q]? = some ce := by
    show T.heap[q]? = some ce
    rw [hT]; exact hcell
  have hend : Ended ((T.setVm vm').setFrames (.throwing q :: below)) below (.threw q) := State.frames_setFrames _ (State.cur_lt_of_frames hfr)
  refine ⟨(T.setVm vm').setFrames (.throwing q :: below), ?_, .threw q, X'.here.running, hend, Or.inr ⟨q, rfl, E, ce, locs, hx _ hT (X'.ends _).1.alike, hcell9, hv, hcl, (X'.ends _).1, (X'.ends _).2.mono hc hs, hf⟩⟩
  rw [X.pushThrowing_eq]
  exact st
/-- a thing of a world lies in the heap -/
theorem vx_lt {D : va_G} {cl : List vw_C} {ws : va_W} {H1 : Heap} (h : va_P D cl ws H1) {k : Nat} {q : Nat × va_E} (hk : ws[k]? = some q) : q.1 < H1.size := (h k q hk).lt
end VXS
/-! ===== END ===== -/
/-! ===== BEGIN methods with a table of their own: called by a name, returning or throwing ===== -/
section VXH
/-! vx_backW, vx_callVX, vx_callSX, vx_callVW, vx_runVW, vx_runVX, vx_runSX, vx_ofWH follow the same proofs as their sisters above (Free/Laws.lean, Shelf42/LK1.lean); vx_outP calls Shelf42/NT130.lean (outThrough). -/
section
variable {l : Launch} {R : Room} {p : Program} {e : Env} {below : List Frame} {s : State} {sargs : Array Value} {y : MethodName} {len W9 : Nat}
theorem vx_backW {ws : List Cond} {rm : Room} {Pc : Array Value → State → Prop} {Qc : Array Value → State → Outcome → State → Prop} {XC : String → State → State → Prop} {mc ms : Nat} {free : Addr → Prop} {bytes : ByteArray} {maxL : Nat} {ret : Option FieldType} {hh : List (Nat × Nat × Nat × Nat)}
    (hM : vx_Met l y ws rm Pc Qc XC mc ms free) (hblind : FrameBlind Pc) (hrc : rm.cells = mc) (hrs : rm.slots = ms)
    (hframes : rm.frames + 1 ≤ R.frames) (hlocals : W9 + (maxL + 11) + rm.locals ≤ R.locals)
    (hws : ∀ w ∈ ws, ∀ a' U, s.WarmedH U.vm → w.before a' U = true) (hcode : Cond.codeWith y bytes maxL ret hh ∈ ws) (hinit : ∀ a' U, s.WarmedH U.vm → (Cond.initialized y.cls).before a' U = true) :
    vx_Back l R p e below s sargs y len W9 (PreOf R mc ms Pc) (PostOf Qc mc ms free) (vx_Post XC mc ms free) := by
  intro m meth c A g ig mk a X hg hsize hdg hW hn hp
  have h1 : (headSpec ws rm).pre.before a A.U = true := atoms_intro fun w hw => hws w hw _ _ X.warmed
  have h2 : (Cond.codeWith y bytes maxL ret hh).before a A.U = true := hws _ hcode _ _ X.warmed
  have h3 : (Cond.initialized y.cls).before a A.U = true := hinit _ _ X.warmed
  have h4 : A.cells + (headSpec ws rm).room.cells ≤ R.cells := by rw [show (headSpec ws rm).room.cells = mc from hrc]; exact hp.1
  have h5 : A.slots + (headSpec ws rm).room.slots ≤ R.slots := by rw [show (headSpec ws rm).room.slots = ms from hrs]; exact hp.2.1
  have hPc : Pc a (A.U.calling g mk a) := hblind _ _ _ _ hp.2.2
  obtain ⟨U, Ls, c0, s0⟩ := A
  dsimp only [Pt.U, Pt.locs, Pt.cells, Pt.slots] at h1 h2 h3 h4 h5 X hn hPc ⊢
  obtain ⟨m9, methY, cY, hn9, hmY, hcY, -, hlY, -⟩ := Cond.codeWith_spec h2
  cases Option.some.inj (hn9.symm.trans hn)
  obtain ⟨kY, hkY, -⟩ := className_of_methodNamed hn
  have hinitY : kY.init = .initialized := Cond.initialized_spec (findClass_of_methodNamed hn) hkY h3
  have h : At U g.method c below := by rw [hg]; exact X.here
  have hlocals9 : W9 + (maxL + 11) + (headSpec ws rm).room.locals ≤ R.locals := hlocals
  have happ : (headSpec ws rm).appliesLoose y e.platform (U.calling g mk a) = true :=
    Spec.appliesLoose_calling (g := g) h hdg hn hkY hinitY
      (X.room_calling (g := g) (R' := (headSpec ws rm).room) hsize hmY hcY hframes (by rw [hlY]; omega) h4 h5) h1
  obtain ⟨mid, hmid⟩ := h.above
  have hfr : (U.setTop g).frames = (.java g :: mid) ++ below := by rw [State.frames_setTop' g h.top, hmid]; rfl
  obtain ⟨o, s₂, hsteps, -, hend, hq⟩ := Steps.callFree hM p X.admits X.cas X.clock (acts := []) hfr happ hPc trivial
  have hq' : vx_Q Qc XC mc ms free a (U.calling g mk a) o s₂ := hq
  rw [State.frames_setTop' g h.top] at hend
  obtain ⟨g₀, hg0⟩ := Option.isSome_iff_exists.mp h.top
  obtain ⟨r, hr⟩ := State.topJava?_eq_some.mp hg0
  have hr' : (({ U with heap := s₂.heap, slotsUsed := s₂.slotsUsed } : State).setVm s₂.vm).frames = .java g₀ :: r := hr
  rcases hq' with ⟨hqc, L, hfe, hL⟩ | ⟨q, rfl, E, ce, L, hx, hce, hcv, hcl, hW₂, hsm, hL⟩
  · obtain ⟨⟨v, rfl⟩, hW₂, e2, q2, q3, q4, q5, q6⟩ := id hfe
    have e3 : s₂ = ({ (U.calling g mk a).setFrames s₂.frames with heap := s₂.heap, slotsUsed := s₂.slotsUsed } : State).setVm s₂.vm := by
      have : s₂ = ({ s₂ with vm := (U.calling g mk a).vm } : State).setVm s₂.vm := rfl
      rw [e2] at this
      exact this
    obtain ⟨c₂, i₂, len₂, hc₂, hd₂, hf₂⟩ := hend
    have hW' : U.WarmedH s₂.vm := hW₂
    have hcc : c₂ = c := by
      have h1 : s₂.code? g.method = U.code? g.method := by
        rw [State.code?_eq, State.code?_eq, hW'.alike.method?]
      exact Option.some.inj (hc₂.symm.trans (h1.trans h.code))
    subst hcc
    have hlen : len₂ = len := by rw [hdg] at hd₂; cases hd₂; rfl
    subst hlen
    have hs₂ : s₂ = (({ U with heap := s₂.heap, slotsUsed := s₂.slotsUsed } : State).setVm s₂.vm).setTop { g with pc := g.pc + len₂, stack := v.toList ++ g.stack } := by
      refine e3.trans ?_
      rw [hf₂, State.calling_eq h.top, State.setFrames_setFrames, State.setTop_of_frames _ hr', hr]
      rfl
    have hsame : U.sameButNew ({ U with heap := s₂.heap, slotsUsed := s₂.slotsUsed } : State) L mc ms := by
      refine ⟨?_, q2, q3, q4, q5, q6⟩
      obtain ⟨t, ht, -⟩ := State.frames_cons hr
      show ({ U with heap := s₂.heap, slotsUsed := s₂.slotsUsed } : State) = { U.setFrames U.frames with heap := s₂.heap, slotsUsed := s₂.slotsUsed }
      rw [State.setFrames_self ht]
    subst hg
    refine Or.inl ⟨v, ⟨(({ U with heap := s₂.heap, slotsUsed := s₂.slotsUsed } : State).setVm s₂.vm), Ls ++ L, c0 + mc, s0 + ms⟩,
      ⟨X.admits, X.cas, X.clock, X.frames, X.room, X.hears, X.method, X.code, (X.here.setHeapUsed s₂.heap s₂.slotsUsed).setVm hW'.alike, X.tail, State.WarmedH.trans X.warmed hW', X.limits, X.bytes, X.same.trans (hsame.setVm s.vm)⟩,
      ⟨g, mk, s₂, L, rfl, rfl, hqc, rfl, hL, rfl, rfl⟩, ?_⟩
    show Steps p.tables e below _ ((({ U with heap := s₂.heap, slotsUsed := s₂.slotsUsed } : State).setVm s₂.vm).setTop { g with pc := g.pc + len₂, stack := v.toList ++ g.stack })
    rw [← hs₂]
    exact hsteps
  · obtain ⟨e2, q2, q3, q4, q5, q6⟩ := id hsm
    have e3 : s₂ = ({ (U.calling g mk a).setFrames s₂.frames with heap := s₂.heap, slotsUsed := s₂.slotsUsed } : State).setVm s₂.vm := by
      have : s₂ = ({ s₂ with vm := (U.calling g mk a).vm } : State).setVm s₂.vm := rfl
      rw [e2] at this
      exact this
    have hf₂ : s₂.frames = .throwing q :: .java g :: U.frames.tail := hend
    have hW' : U.WarmedH s₂.vm := hW₂
    have hs₂ : s₂ = ((({ U with heap := s₂.heap, slotsUsed := s₂.slotsUsed } : State).setVm s₂.vm).setTop g).pushFrame (.throwing q) := by
      refine e3.trans ?_
      rw [hf₂, State.calling_eq h.top, State.setFrames_setFrames, State.pushFrame, State.frames_setTop _ hr', State.setTop_of_frames _ hr', State.setFrames_setFrames, hr]
      rfl
    have hsame : U.sameButNew ({ U with heap := s₂.heap, slotsUsed := s₂.slotsUsed } : State) L mc ms := by
      refine ⟨?_, q2, q3, q4, q5, q6⟩
      obtain ⟨t, ht, -⟩ := State.frames_cons hr
      show ({ U with heap := s₂.heap, slotsUsed := s₂.slotsUsed } : State) = { U.setFrames U.frames with heap := s₂.heap, slotsUsed := s₂.slotsUsed }
      rw [State.setFrames_self ht]
    subst hg
    refine Or.inr ⟨q, ⟨(({ U with heap := s₂.heap, slotsUsed := s₂.slotsUsed } : State).setVm s₂.vm), Ls ++ L, c0 + mc, s0 + ms⟩,
      ⟨X.admits, X.cas, X.clock, X.frames, X.room, X.hears, X.method, X.code, (X.here.setHeapUsed s₂.heap s₂.slotsUsed).setVm hW'.alike, X.tail, State.WarmedH.trans X.warmed hW', X.limits, X.bytes, X.same.trans (hsame.setVm s.vm)⟩,
      ⟨g, mk, s₂, L, E, ce, rfl, rfl, hx, hce, hcv, hcl, rfl, hL, rfl, rfl⟩, ?_⟩
    show Steps p.tables e below _ (((({ U with heap := s₂.heap, slotsUsed := s₂.slotsUsed } : State).setVm s₂.vm).setTop g).pushFrame (.throwing q))
    rw [← hs₂]
    exact hsteps
end
variable {p : Program} {l : Launch} {e : Env} {R : Room} {s : State} {m : MethodId} {args : Array Value} {below : List Frame} {meth : Method} {c : Code} {T : State} {H : Heap} {locs : List Loc} {cells slots : Nat}
theorem vx_callVX (X : Stand p l e R s m args below meth c T locs cells slots) (hexec : p.tables.exec = Jvm.exec) {own C : String} {index : Nat} {y : MethodName} {bytes : ByteArray} {maxL : Nat} {ret : Option FieldType} {hh : List (Nat × Nat × Nat × Nat)}
    (hown : s.vm.findClass own = some m.cls) (hlink : (Cond.methodLink own index y).before args s = true) (hinst : (Cond.instanceMethod y).before args s = true) (hsel : (Cond.selects C y y).before args s = true)
    (hcode : (Cond.codeWith y bytes maxL ret hh).before args s = true) (hy : y.cls ≠ "java/lang/invoke/MethodHandle" ∧ y.cls ≠ "java/lang/invoke/VarHandle")
    {W9 : Nat} {Pre : Pt → Array Value → Prop} {Post : Pt → Array Value → Option Value → Pt → Prop} {PostX : Pt → Array Value → Addr → Pt → Prop} (hK : vx_Back l R p e below s args y 3 W9 Pre Post PostX)
    {b : Addr} {cellB : Cell} (hcell : T.heap[b]? = some cellB) (hobj : cellB.vm.isStatics = false) (hcls : s.vm.findClass C = some cellB.cls)
    {g : JFrame} (hg : g.method = m) (hsize : g.locals.size = c.maxLocals) {argsL rest : List Value} (hlen : ∀ sig, parseMethodDescriptor y.desc = some sig → argsL.length = sig.parameters.length)
    (hstack : g.stack = argsL.reverse ++ .ref b :: rest) (hW : 2 * g.monitorRoom + (rest.map fun v => v.category).sum ≤ W9) (hdg : decode c.code g.pc = .ok (.invokevirtual index, 3))
    (hpre : ∀ vm₁, s.WarmedH vm₁ → Pre ⟨T.setVm vm₁, locs, cells, slots⟩ (Value.ref b :: argsL).toArray) :
    (∃ (v : Option Value) (vm₁ : Vm) (B : Pt), s.WarmedH vm₁ ∧ Stand p l e R s m args below meth c B.U B.locs B.cells B.slots ∧ Post ⟨T.setVm vm₁, locs, cells, slots⟩ (Value.ref b :: argsL).toArray v B ∧
      ∀ target, Steps p.tables e below (B.U.setTop { g with pc := g.pc + 3, stack := v.toList ++ rest }) target → Steps p.tables e below (T.setTop g) target) ∨
    (∃ (q : Addr) (vm₁ : Vm) (B : Pt), s.WarmedH vm₁ ∧ Stand p l e R s m args below meth c B.U B.locs B.cells B.slots ∧ PostX ⟨T.setVm vm₁, locs, cells, slots⟩ (Value.ref b :: argsL).toArray q B ∧
      Steps p.tables e below (T.setTop g) ((B.U.setTop { g with stack := rest }).pushFrame (.throwing q))) := by
  obtain ⟨mk, methM, hnamed, hmethM, hstM, habM⟩ := Cond.instanceMethod_spec hinst
  obtain ⟨m8, methM', cM, hn8, hmethM', -, -, -, -, -, -, hsigM⟩ := Cond.codeWith_spec hcode
  cases Option.some.inj (hn8.symm.trans hnamed)
  cases hmethM.symm.trans hmethM'
  obtain ⟨c2, r2, m2, q1, q2, q3, q4, kP, hkP, hkPi⟩ := Cond.selects_spec hsel
  cases hcls.symm.trans q1
  cases (State.methodFound?_of_named hnamed hy).symm.trans q2
  cases hnamed.symm.trans q3
  have hselP : selectMethod e.platform s.vm cellB.cls mk = .method mk := by rw [Launch.admits_selectMethod X.admits]; exact q4
  obtain ⟨vm₁, X₁, hstep₁⟩ := X.invokevirtual hexec hown hlink hnamed hmethM hstM hkP hkPi hy (a := b) (cell := cellB) hcell
    (fun z h => by rw [h] at hobj; cases hobj) hselP hmethM habM hkP hkPi (g := g) hg (argsL := argsL) (rest := rest) (hlen _ hsigM) hstack hdg
  rcases hK m meth c ⟨T.setVm vm₁, locs, cells, slots⟩ { g with stack := rest } (.invokevirtual index) mk (Value.ref b :: argsL).toArray X₁ hg hsize hdg hW (X₁.named hnamed) (hpre vm₁ X₁.warmed) with ⟨v, B, X', hpost, hsteps⟩ | ⟨q, B, X', hpost, hsteps⟩
  · exact Or.inl ⟨v, vm₁, B, X₁.warmed, X', hpost, fun target h => hstep₁ _ fun acts => by rw [doInvoke_state]; exact hsteps.trans h⟩
  · exact Or.inr ⟨q, vm₁, B, X₁.warmed, X', hpost, hstep₁ _ fun acts => by rw [doInvoke_state]; exact hsteps⟩
theorem vx_callSX (X : Stand p l e R s m args below meth c T locs cells slots) (hexec : p.tables.exec = Jvm.exec) {own : String} {index : Nat} {y : MethodName} {bytes : ByteArray} {maxL : Nat} {ret : Option FieldType} {hh : List (Nat × Nat × Nat × Nat)}
    (hown : s.vm.findClass own = some m.cls) (hlink : (Cond.methodLink own index y).before args s = true) (hstat : (Cond.static y).before args s = true) (hinit : (Cond.initialized y.cls).before args s = true)
    (hcode : (Cond.codeWith y bytes maxL ret hh).before args s = true) (hy : y.cls ≠ "java/lang/invoke/MethodHandle" ∧ y.cls ≠ "java/lang/invoke/VarHandle")
    {W9 : Nat} {Pre : Pt → Array Value → Prop} {Post : Pt → Array Value → Option Value → Pt → Prop} {PostX : Pt → Array Value → Addr → Pt → Prop} (hK : vx_Back l R p e below s args y 3 W9 Pre Post PostX)
    {g : JFrame} (hg : g.method = m) (hsize : g.locals.size = c.maxLocals) {argsL rest : List Value} (hlen : ∀ sig, parseMethodDescriptor y.desc = some sig → argsL.length = sig.parameters.length)
    (hstack : g.stack = argsL.reverse ++ rest) (hW : 2 * g.monitorRoom + (rest.map fun v => v.category).sum ≤ W9) (hdg : decode c.code g.pc = .ok (.invokestatic index, 3))
    (hpre : ∀ vm₁, s.WarmedH vm₁ → Pre ⟨T.setVm vm₁, locs, cells, slots⟩ argsL.toArray) :
    (∃ (v : Option Value) (vm₁ : Vm) (B : Pt), s.WarmedH vm₁ ∧ Stand p l e R s m args below meth c B.U B.locs B.cells B.slots ∧ Post ⟨T.setVm vm₁, locs, cells, slots⟩ argsL.toArray v B ∧
      ∀ target, Steps p.tables e below (B.U.setTop { g with pc := g.pc + 3, stack := v.toList ++ rest }) target → Steps p.tables e below (T.setTop g) target) ∨
    (∃ (q : Addr) (vm₁ : Vm) (B : Pt), s.WarmedH vm₁ ∧ Stand p l e R s m args below meth c B.U B.locs B.cells B.slots ∧ PostX ⟨T.setVm vm₁, locs, cells, slots⟩ argsL.toArray q B ∧
      Steps p.tables e below (T.setTop g) ((B.U.setTop { g with stack := rest }).pushFrame (.throwing q))) := by
  obtain ⟨mk, methM, cM, hnamed, hmethM, -, -, -, -, -, -, hsigM⟩ := Cond.codeWith_spec hcode
  have hstatic : methM.isStatic = true := Cond.static_spec hnamed hmethM hstat
  obtain ⟨kP, hkP, -⟩ := className_of_methodNamed hnamed
  have hinitP : kP.init = .initialized := Cond.initialized_spec (findClass_of_methodNamed hnamed) hkP hinit
  obtain ⟨vm₁, X₁, hstep₁⟩ := X.invokestatic hexec hown hlink hnamed hmethM hstatic hkP hinitP hy (g := g) hg (argsL := argsL) (rest := rest) (hlen _ hsigM) hstack hdg
  rcases hK m meth c ⟨T.setVm vm₁, locs, cells, slots⟩ { g with stack := rest } (.invokestatic index) mk argsL.toArray X₁ hg hsize hdg hW (X₁.named hnamed) (hpre vm₁ X₁.warmed) with ⟨v, B, X', hpost, hsteps⟩ | ⟨q, B, X', hpost, hsteps⟩
  · exact Or.inl ⟨v, vm₁, B, X₁.warmed, X', hpost, fun target h => hstep₁ _ fun acts => by rw [doInvoke_state]; exact hsteps.trans h⟩
  · exact Or.inr ⟨q, vm₁, B, X₁.warmed, X', hpost, hstep₁ _ fun acts => by rw [doInvoke_state]; exact hsteps⟩
theorem vx_callVW (X : Stand p l e R s m args below meth c T locs cells slots) (hexec : p.tables.exec = Jvm.exec) {own C : String} {index : Nat} {y : MethodName} {bytes : ByteArray} {maxL : Nat} {ret : Option FieldType} {hh : List (Nat × Nat × Nat × Nat)}
    (hown : s.vm.findClass own = some m.cls) (hlink : (Cond.methodLink own index y).before args s = true) (hinst : (Cond.instanceMethod y).before args s = true) (hsel : (Cond.selects C y y).before args s = true)
    (hcode : (Cond.codeWith y bytes maxL ret hh).before args s = true) (hy : y.cls ≠ "java/lang/invoke/MethodHandle" ∧ y.cls ≠ "java/lang/invoke/VarHandle")
    {W9 : Nat} {Pre : Pt → Array Value → Prop} {Post : Pt → Array Value → Option Value → Pt → Prop} (hK : Back l R p e below s args y 3 W9 Pre Post)
    {b : Addr} {cellB : Cell} (hcell : T.heap[b]? = some cellB) (hobj : cellB.vm.isStatics = false) (hcls : s.vm.findClass C = some cellB.cls)
    {g : JFrame} (hg : g.method = m) (hsize : g.locals.size = c.maxLocals) {argsL rest : List Value} (hlen : ∀ sig, parseMethodDescriptor y.desc = some sig → argsL.length = sig.parameters.length)
    (hstack : g.stack = argsL.reverse ++ .ref b :: rest) (hW : 2 * g.monitorRoom + (rest.map fun v => v.category).sum ≤ W9) (hdg : decode c.code g.pc = .ok (.invokevirtual index, 3))
    (hpre : ∀ vm₁, s.WarmedH vm₁ → Pre ⟨T.setVm vm₁, locs, cells, slots⟩ (Value.ref b :: argsL).toArray) :
    ∃ (v : Option Value) (vm₁ : Vm) (B : Pt), s.WarmedH vm₁ ∧ Stand p l e R s m args below meth c B.U B.locs B.cells B.slots ∧ Post ⟨T.setVm vm₁, locs, cells, slots⟩ (Value.ref b :: argsL).toArray v B ∧
      ∀ target, Steps p.tables e below (B.U.setTop { g with pc := g.pc + 3, stack := v.toList ++ rest }) target → Steps p.tables e below (T.setTop g) target := by
  obtain ⟨mk, methM, hnamed, hmethM, hstM, habM⟩ := Cond.instanceMethod_spec hinst
  obtain ⟨m8, methM', cM, hn8, hmethM', -, -, -, -, -, -, hsigM⟩ := Cond.codeWith_spec hcode
  cases Option.some.inj (hn8.symm.trans hnamed)
  cases hmethM.symm.trans hmethM'
  obtain ⟨c2, r2, m2, q1, q2, q3, q4, kP, hkP, hkPi⟩ := Cond.selects_spec hsel
  cases hcls.symm.trans q1
  cases (State.methodFound?_of_named hnamed hy).symm.trans q2
  cases hnamed.symm.trans q3
  have hselP : selectMethod e.platform s.vm cellB.cls mk = .method mk := by rw [Launch.admits_selectMethod X.admits]; exact q4
  obtain ⟨vm₁, X₁, hstep₁⟩ := X.invokevirtual hexec hown hlink hnamed hmethM hstM hkP hkPi hy (a := b) (cell := cellB) hcell
    (fun z h => by rw [h] at hobj; cases hobj) hselP hmethM habM hkP hkPi (g := g) hg (argsL := argsL) (rest := rest) (hlen _ hsigM) hstack hdg
  obtain ⟨v, B, X', hpost, hsteps⟩ := hK m meth c ⟨T.setVm vm₁, locs, cells, slots⟩ { g with stack := rest } (.invokevirtual index) mk (Value.ref b :: argsL).toArray X₁ hg hsize hdg hW (X₁.named hnamed) (hpre vm₁ X₁.warmed)
  exact ⟨v, vm₁, B, X₁.warmed, X', hpost, fun target h => hstep₁ _ fun acts => by rw [doInvoke_state]; exact hsteps.trans h⟩
abbrev vx_CVW (R : Room) (s : State) (args : Array Value) (own C : String) (index : Nat) (y : MethodName) (bytes : ByteArray) (maxL : Nat) (ret : Option FieldType) (hh : List (Nat × Nat × Nat × Nat)) (ws : List Cond) (rm : Room) (mc ms n : Nat) : Prop :=
  (rm.cells = mc ∧ rm.slots = ms ∧ rm.frames + 1 ≤ R.frames ∧ 8 + (maxL + 11) + rm.locals ≤ R.locals ∧ (∀ w ∈ ws, ∀ (a' : Array Value) (U : State), s.WarmedH U.vm → w.before a' U = true) ∧ Cond.codeWith y bytes maxL ret hh ∈ ws) ∧
  (Cond.codeWith y bytes maxL ret hh).before args s = true ∧ (Cond.initialized y.cls).before args s = true ∧ (y.cls ≠ "java/lang/invoke/MethodHandle" ∧ y.cls ≠ "java/lang/invoke/VarHandle") ∧
  (∀ sig, parseMethodDescriptor y.desc = some sig → n = sig.parameters.length) ∧ (Cond.methodLink own index y).before args s = true ∧ (Cond.instanceMethod y).before args s = true ∧ (Cond.selects C y y).before args s = true
theorem vx_cwVW {own C : String} {index maxL mc ms : Nat} {y : MethodName} {bytes : ByteArray} {ret : Option FieldType} {hh : List (Nat × Nat × Nat × Nat)} {Ts ws ws' : List Cond} {rm : Room} (n : Nat) (ht : ∀ w ∈ Ts, w.before args s = true) (hT : GoodIn Ts (wsV own index C y ws)) (hw : ws = Cond.codeWith y bytes maxL ret hh :: ws') (hrc : rm.cells = mc) (hrs : rm.slots = ms)
    (hd : y.cls = C ∧ y.cls ≠ "java/lang/invoke/MethodHandle" ∧ y.cls ≠ "java/lang/invoke/VarHandle" ∧ (parseMethodDescriptor y.desc).map (fun d => d.parameters.length) = some n) (hR : rm.frames + 1 ≤ R.frames ∧ 8 + (maxL + 11) + rm.locals ≤ R.locals) :
    vx_CVW R s args own C index y bytes maxL ret hh ws rm mc ms n := by
  obtain ⟨hC, hd⟩ := hd
  subst hC
  have ok : ∀ w ∈ wsV own index y.cls y ws, w.before args s = true := fun w h => ht w (hT w h).1
  have hG : GoodIn Ts ws := fun w h => hT w (by unfold wsV; exact List.mem_append_right _ h)
  have hc : Cond.codeWith y bytes maxL ret hh ∈ ws := by rw [hw]; exact List.mem_cons_self
  refine ⟨⟨hrc, hrs, hR.1, hR.2, pay_in ht hG, hc⟩, ht _ (hG _ hc).1, ok _ (by simp [wsV]), ⟨hd.1, hd.2.1⟩, fun sig h => ?_, ok _ (by simp [wsV]), ok _ (by simp [wsV]), ok _ (by simp [wsV])⟩
  have h2 := hd.2.2
  rw [h] at h2
  exact (Option.some.inj h2).symm
theorem vx_runVW {y : MethodName} {bytes cc : ByteArray} {maxL nL mc ms n index : Nat} {ret : Option FieldType} {hh : List (Nat × Nat × Nat × Nat)} {ws : List Cond} {rm : Room} {Pc : Array Value → State → Prop} {Qc : Array Value → State → Outcome → State → Prop} {free : Addr → Prop} {Ts : List Cond} {own C : String} {b : Addr} {As rest : List Value} {g : JFrame}
    (S : CallFix p m c cc nL s args Ts own) (hM : Met l y ws rm Pc Qc mc ms free) (cw : vx_CVW R s args own C index y bytes maxL ret hh ws rm mc ms n) (hp : PreV s H C b Pc As)
    (hg : g.method = m) (hn : As.length = n) (hsize : g.locals.size = nL) (hstack : g.stack = As.reverse ++ .ref b :: rest) (hW : 2 * g.monitorRoom + (rest.map fun v => v.category).sum ≤ 8) (hdg : decode cc g.pc = .ok (.invokevirtual index, 3)) (hf : cells + mc ≤ R.cells ∧ slots + ms ≤ R.slots) :
    va_Run p l e R s m args below meth c H locs cells slots mc ms g rest (Qc (Value.ref b :: As).toArray) free := by
  obtain ⟨⟨hrc, hrs, hfr, hlo, hws, hcw⟩, hcode, hini, hy, hlen, hl, hin, hse⟩ := cw
  have hK : Back l R p e below s args y 3 8 (PreOf R mc ms Pc) (PostOf Qc mc ms free) := va_backW (hh := hh) (bytes := bytes) (maxL := maxL) (ret := ret) hM hp.1 hrc hrs hfr hlo hws hcw (fun a' U hW => word_at hW (Or.inl (by first | rfl | simp [Cond.onTables, Cond.keeps, Cond.steady])) hini)
  obtain ⟨hx, hb, hml, ho, -⟩ := S
  obtain ⟨-, ⟨cellB, hcB, hoB, hclB⟩, hPc⟩ := hp
  intro T hT X
  obtain ⟨v, vm₁, ⟨U', l2, c2, s2⟩, hW₁, X', ⟨g', mk, t, L, e1, e2, hq, h1, hL, h2, h3⟩, st⟩ := vx_callVW X hx (C := C) (hh := hh) (bytes := bytes) (maxL := maxL) (ret := ret) ho hl hin hse hcode hy hK (by rw [hT]; exact hcB) hoB hclB hg (hsize.trans hml.symm) (argsL := As) (rest := rest) (fun sig h => hn.trans (hlen sig h)) hstack hW (by rw [hb]; exact hdg)
    (fun vm₁ hW₁ => ⟨hf.1, hf.2, hPc (T.setVm vm₁) hT hW₁⟩)
  dsimp only [Pt.U, Pt.locs, Pt.cells, Pt.slots] at X' e1 e2 h1 h2 h3 st
  subst h1; subst h2; subst h3
  exact ⟨v, (T.setVm vm₁).calling g' mk (Value.ref b :: As).toArray, t, U', L, hT, X', hL, e1, e2, hq, st⟩
section
variable {y : MethodName} {bytes cc : ByteArray} {maxL nL mc ms n index : Nat} {ret : Option FieldType} {ws : List Cond} {rm : Room} {Pc : Array Value → State → Prop} {Qc : Array Value → State → Outcome → State → Prop} {XC : String → State → State → Prop} {free : Addr → Prop} {Ts : List Cond} {own C : String} {b : Addr} {As rest : List Value} {g : JFrame}
theorem vx_runVX {hh : List (Nat × Nat × Nat × Nat)} (S : CallFix p m c cc nL s args Ts own) (hM : vx_Met l y ws rm Pc Qc XC mc ms free) (cw : vx_CVW R s args own C index y bytes maxL ret hh ws rm mc ms n) (hp : PreV s H C b Pc As)
    (hg : g.method = m) (hn : As.length = n) (hsize : g.locals.size = nL) (hstack : g.stack = As.reverse ++ .ref b :: rest) (hW : 2 * g.monitorRoom + (rest.map fun v => v.category).sum ≤ 8) (hdg : decode cc g.pc = .ok (.invokevirtual index, 3)) (hf : cells + mc ≤ R.cells ∧ slots + ms ≤ R.slots) :
    vx_Run p l e R s m args below meth c H locs cells slots mc ms g rest (Qc (Value.ref b :: As).toArray) XC free := by
  obtain ⟨⟨hrc, hrs, hfr, hlo, hws, hcw⟩, hcode, hini, hy, hlen, hl, hin, hse⟩ := cw
  have hK : vx_Back l R p e below s args y 3 8 (PreOf R mc ms Pc) (PostOf Qc mc ms free) (vx_Post XC mc ms free) := vx_backW (hh := hh) (bytes := bytes) (maxL := maxL) (ret := ret) hM hp.1 hrc hrs hfr hlo hws hcw (fun a' U hW => word_at hW (Or.inl (by first | rfl | simp [Cond.onTables, Cond.keeps, Cond.steady])) hini)
  obtain ⟨hx, hb, hml, ho, -⟩ := S
  obtain ⟨-, ⟨cellB, hcB, hoB, hclB⟩, hPc⟩ := hp
  intro T hT X
  rcases vx_callVX X hx (C := C) (hh := hh) (bytes := bytes) (maxL := maxL) (ret := ret) ho hl hin hse hcode hy hK (by rw [hT]; exact hcB) hoB hclB hg (hsize.trans hml.symm) (argsL := As) (rest := rest) (fun sig h => hn.trans (hlen sig h)) hstack hW (by rw [hb]; exact hdg)
    (fun vm₁ hW₁ => ⟨hf.1, hf.2, hPc (T.setVm vm₁) hT hW₁⟩) with ⟨v, vm₁, ⟨U', l2, c2, s2⟩, hW₁, X', ⟨g', mk, t, L, e1, e2, hq, h1, hL, h2, h3⟩, st⟩ | ⟨q, vm₁, ⟨U', l2, c2, s2⟩, hW₁, X', ⟨g', mk, t, L, E, ce, e1, e2, hq, hce, hcv, hcl, h1, hL, h2, h3⟩, st⟩
  · dsimp only [Pt.U, Pt.locs, Pt.cells, Pt.slots] at X' e1 e2 h1 h2 h3 st
    subst h1; subst h2; subst h3
    exact Or.inl ⟨v, (T.setVm vm₁).calling g' mk (Value.ref b :: As).toArray, t, U', L, hT, X', hL, e1, e2, hq, st⟩
  · dsimp only [Pt.U, Pt.locs, Pt.cells, Pt.slots] at X' e1 e2 h1 h2 h3 st hcl
    subst h1; subst h2; subst h3
    exact Or.inr ⟨q, (T.setVm vm₁).calling g' mk (Value.ref b :: As).toArray, t, U', L, E, ce, hT, X', hL, e1, e2, hq, hce, hcv, vx_cls hW₁ hcl, st⟩
theorem vx_runSX {hh : List (Nat × Nat × Nat × Nat)} (S : CallFix p m c cc nL s args Ts own) (hM : vx_Met l y ws rm Pc Qc XC mc ms free) (cw : vx_CSW R s args own index y bytes maxL ret hh ws rm mc ms n) (hp : PreS s H Pc As)
    (hg : g.method = m) (hn : As.length = n) (hsize : g.locals.size = nL) (hstack : g.stack = As.reverse ++ rest) (hW : 2 * g.monitorRoom + (rest.map fun v => v.category).sum ≤ 8) (hdg : decode cc g.pc = .ok (.invokestatic index, 3)) (hf : cells + mc ≤ R.cells ∧ slots + ms ≤ R.slots) :
    vx_Run p l e R s m args below meth c H locs cells slots mc ms g rest (Qc As.toArray) XC free := by
  obtain ⟨⟨hrc, hrs, hfr, hlo, hws, hcw⟩, hcode, hini, hy, hlen, hl, hstt⟩ := cw
  have hK : vx_Back l R p e below s args y 3 8 (PreOf R mc ms Pc) (PostOf Qc mc ms free) (vx_Post XC mc ms free) := vx_backW (hh := hh) (bytes := bytes) (maxL := maxL) (ret := ret) hM hp.1 hrc hrs hfr hlo hws hcw (fun a' U hW => word_at hW (Or.inl (by first | rfl | simp [Cond.onTables, Cond.keeps, Cond.steady])) hini)
  obtain ⟨hx, hb, hml, ho, -⟩ := S
  intro T hT X
  rcases vx_callSX X hx (hh := hh) (bytes := bytes) (maxL := maxL) (ret := ret) ho hl hstt hini hcode hy hK hg (hsize.trans hml.symm) (argsL := As) (rest := rest) (fun sig h => hn.trans (hlen sig h)) hstack hW (by rw [hb]; exact hdg)
    (fun vm₁ hW₁ => ⟨hf.1, hf.2, hp.2 (T.setVm vm₁) hT hW₁⟩) with ⟨v, vm₁, ⟨U', l2, c2, s2⟩, hW₁, X', ⟨g', mk, t, L, e1, e2, hq, h1, hL, h2, h3⟩, st⟩ | ⟨q, vm₁, ⟨U', l2, c2, s2⟩, hW₁, X', ⟨g', mk, t, L, E, ce, e1, e2, hq, hce, hcv, hcl, h1, hL, h2, h3⟩, st⟩
  · dsimp only [Pt.U, Pt.locs, Pt.cells, Pt.slots] at X' e1 e2 h1 h2 h3 st
    subst h1; subst h2; subst h3
    exact Or.inl ⟨v, (T.setVm vm₁).calling g' mk As.toArray, t, U', L, hT, X', hL, e1, e2, hq, st⟩
  · dsimp only [Pt.U, Pt.locs, Pt.cells, Pt.slots] at X' e1 e2 h1 h2 h3 st hcl
    subst h1; subst h2; subst h3
    exact Or.inr ⟨q, (T.setVm vm₁).calling g' mk As.toArray, t, U', L, E, ce, hT, X', hL, e1, e2, hq, hce, hcv, vx_cls hW₁ hcl, st⟩
end
end VXH
theorem vx_ofWH {l : Launch} {y : MethodName} {ws ws' : List Cond} {rm : Room} {Pc : Array Value → State → Prop} {Qc : Array Value → State → Outcome → State → Prop} {XC : String → State → State → Prop} {mc ms : Nat} {free : Addr → Prop} {cc : ByteArray} {maxL : Nat} {ret : Option FieldType} {hh : List (Nat × Nat × Nat × Nat)}
    (hy : plainName y.cls = true) (hw : ws = Cond.codeWith y cc maxL ret hh :: ws')
    (body : ∀ p e s m args below meth c s₁, BodyLoose p l y (headSpec ws rm) cc maxL ret e s m args below meth c s₁ → c.maxLocals = maxL → Pc args s →
      W p l e (headSpec ws rm).room s m args below meth c s.heap [] 0 0 (vx_MQ below Qc XC args s mc ms free) (entryFrame m args maxL)) : vx_Met l y ws rm Pc Qc XC mc ms free := by
  refine MetFree.of_bodyS (code := cc) (maxLocals := maxL) (ret := ret) hy ?_ ?_
  · intro args s m h hn
    obtain ⟨m9, meth, c, hn9, h1, h2, h3, h4, -, h5, h6, -⟩ := Cond.codeWith_spec (atoms_spec (ws := ws) h _ (by rw [hw]; exact List.mem_cons_self))
    cases hn.symm.trans hn9
    exact ⟨meth, c, h1, h2, h3, h4, h5, h6⟩
  · intro p e s m args below meth c s₁ B hml hP _
    have hh0 : s₁.heap = s.heap := by rw [B.state]; rfl
    obtain ⟨t, a1, o, b1, b2, b3⟩ := body p e s m args below meth c s₁ B hml hP s₁ hh0 (Stand.of_body B)
    exact ⟨t, o, a1, b1, b2, b3⟩
/-! ===== END ===== -/

/-! ===== BEGIN printed: names, fields, word lists, decode rows ===== -/
def RX0 : String := "Turnpike$Flow"
def TX0 : u_T := fun k => match k with
  | 0 => ("Turnpike$Flow", "from", "I", false)
  | 1 => ("Turnpike$Flow", "to", "I", false)
  | 2 => ("Turnpike$Flow", "kind", "I", false)
  | 3 => ("Turnpike$Flow", "start", "I", false)
  | 4 => ("Turnpike$Flow", "period", "I", false)
  | 5 => ("Turnpike$Flow", "most", "I", false)
  | 6 => ("Turnpike$Flow", "came", "I", false)
  | 7 => ("Turnpike$Flow", "arrived", "I", false)
  | 8 => ("Turnpike$Flow", "givenUp", "I", false)
  | 9 => ("Turnpike$Flow", "sumOfTrips", "I", false)
  | 10 => ("Turnpike$Flow", "sumOfDelays", "I", false)
  | _ => ("Turnpike$Flow", "longestTrip", "I", false)
def tyX0 : Nat → FieldType := fun k => match k with
  | 0 => .int
  | 1 => .int
  | 2 => .int
  | 3 => .int
  | 4 => .int
  | 5 => .int
  | 6 => .int
  | 7 => .int
  | 8 => .int
  | 9 => .int
  | 10 => .int
  | _ => .int
abbrev wsX00 : List Cond := u_ws RX0 TX0 12
theorem nmX0 : ∀ a, a < 12 → ∀ b, b < 12 → a ≠ b → (TX0 a).2.1 ≠ (TX0 b).2.1 := by decide +kernel
theorem tyX0_ok : ∀ k, k < 12 → parseFieldDescriptor (TX0 k).2.2.1 = some (tyX0 k) := by decide +kernel
abbrev cX0_init : ByteArray := prog_2_method_1_code
def yX0_init : MethodName := ⟨RX0, "<init>", "()V"⟩
abbrev cX0_tell : ByteArray := prog_2_method_2_code
def yX0_tell : MethodName := ⟨RX0, "tell", "(IIIIII)V"⟩
abbrev cX0_bringsIn : ByteArray := prog_2_method_3_code
def yX0_bringsIn : MethodName := ⟨RX0, "bringsIn", "(I)Z"⟩
abbrev cX0_countTrip : ByteArray := prog_2_method_4_code
def yX0_countTrip : MethodName := ⟨RX0, "countTrip", "(II)V"⟩
def RX1 : String := "Turnpike$Link"
def TX1 : u_T := fun k => match k with
  | 0 => ("Turnpike$Link", "from", "I", false)
  | 1 => ("Turnpike$Link", "to", "I", false)
  | 2 => ("Turnpike$Link", "time", "I", false)
  | 3 => ("Turnpike$Link", "room", "I", false)
  | 4 => ("Turnpike$Link", "firstRate", "I", false)
  | 5 => ("Turnpike$Link", "rate", "I", false)
  | 6 => ("Turnpike$Link", "slowTicks", "I", false)
  | 7 => ("Turnpike$Link", "shut", "Z", false)
  | 8 => ("Turnpike$Link", "cost", "I", false)
  | 9 => ("Turnpike$Link", "row", "LTurnpike$Row;", true)
  | 10 => ("Turnpike$Link", "ends", "LTurnpike$Row;", true)
  | 11 => ("Turnpike$Link", "came", "I", false)
  | 12 => ("Turnpike$Link", "left", "I", false)
  | 13 => ("Turnpike$Link", "greatestQueue", "I", false)
  | 14 => ("Turnpike$Link", "sumOfQueues", "I", false)
  | _ => ("Turnpike$Link", "wentOnto", "[I", true)
def tyX1 : Nat → FieldType := fun k => match k with
  | 0 => .int
  | 1 => .int
  | 2 => .int
  | 3 => .int
  | 4 => .int
  | 5 => .int
  | 6 => .int
  | 7 => .boolean
  | 8 => .int
  | 9 => .object "Turnpike$Row"
  | 10 => .object "Turnpike$Row"
  | 11 => .int
  | 12 => .int
  | 13 => .int
  | 14 => .int
  | _ => .array .int
abbrev wsX10 : List Cond := u_ws RX1 TX1 16
theorem nmX1 : ∀ a, a < 16 → ∀ b, b < 16 → a ≠ b → (TX1 a).2.1 ≠ (TX1 b).2.1 := by decide +kernel
theorem tyX1_ok : ∀ k, k < 16 → parseFieldDescriptor (TX1 k).2.2.1 = some (tyX1 k) := by decide +kernel
abbrev cX1_init : ByteArray := prog_3_method_1_code
def yX1_init : MethodName := ⟨RX1, "<init>", "()V"⟩
abbrev cX1_playSlowTick : ByteArray := prog_3_method_2_code
def yX1_playSlowTick : MethodName := ⟨RX1, "playSlowTick", "()V"⟩
abbrev cX1_hasQueueIn : ByteArray := prog_3_method_3_code
def yX1_hasQueueIn : MethodName := ⟨RX1, "hasQueueIn", "(I)Z"⟩
abbrev cX1_queueIn : ByteArray := prog_3_method_4_code
def yX1_queueIn : MethodName := ⟨RX1, "queueIn", "(I)I"⟩
abbrev cX1_costIn : ByteArray := prog_3_method_5_code
def yX1_costIn : MethodName := ⟨RX1, "costIn", "(I)I"⟩
abbrev cX1_isOpen : ByteArray := prog_3_method_6_code
def yX1_isOpen : MethodName := ⟨RX1, "isOpen", "()Z"⟩
abbrev cX1_takeIn : ByteArray := prog_3_method_7_code
def yX1_takeIn : MethodName := ⟨RX1, "takeIn", "(II)V"⟩
abbrev cX1_letFirstGo : ByteArray := prog_3_method_8_code
def yX1_letFirstGo : MethodName := ⟨RX1, "letFirstGo", "()V"⟩
abbrev cX1_countTurn : ByteArray := prog_3_method_9_code
def yX1_countTurn : MethodName := ⟨RX1, "countTurn", "(I)V"⟩
abbrev cX1_countQueueIn : ByteArray := prog_3_method_10_code
def yX1_countQueueIn : MethodName := ⟨RX1, "countQueueIn", "(I)V"⟩
abbrev cX1_copyFrom : ByteArray := prog_3_method_11_code
def yX1_copyFrom : MethodName := ⟨RX1, "copyFrom", "(LTurnpike$Link;)V"⟩
def RX2 : String := "Turnpike$Roads"
def TX2 : u_T := fun k => match k with
  | 0 => ("Turnpike$Roads", "link", "[LTurnpike$Link;", true)
  | 1 => ("Turnpike$Roads", "links", "I", false)
  | 2 => ("Turnpike$Roads", "costs", "[[I", true)
  | _ => ("Turnpike$Roads", "reckoned", "I", false)
def tyX2 : Nat → FieldType := fun k => match k with
  | 0 => .array (.object "Turnpike$Link")
  | 1 => .int
  | 2 => .array (.array .int)
  | _ => .int
abbrev wsX20 : List Cond := u_ws RX2 TX2 4
theorem nmX2 : ∀ a, a < 4 → ∀ b, b < 4 → a ≠ b → (TX2 a).2.1 ≠ (TX2 b).2.1 := by decide +kernel
theorem tyX2_ok : ∀ k, k < 4 → parseFieldDescriptor (TX2 k).2.2.1 = some (tyX2 k) := by decide +kernel
abbrev cX2_init : ByteArray := prog_4_method_1_code
def yX2_init : MethodName := ⟨RX2, "<init>", "()V"⟩
abbrev cX2_find : ByteArray := prog_4_method_2_code
def yX2_find : MethodName := ⟨RX2, "find", "(I)LTurnpike$Link;"⟩
abbrev cX2_lay : ByteArray := prog_4_method_3_code
def yX2_lay : MethodName := ⟨RX2, "lay", "(IIIII)I"⟩
abbrev cX2_allLeadTo : ByteArray := prog_4_method_4_code
def yX2_allLeadTo : MethodName := ⟨RX2, "allLeadTo", "(II)Z"⟩
abbrev cX2_anyHasQueueIn : ByteArray := prog_4_method_5_code
def yX2_anyHasQueueIn : MethodName := ⟨RX2, "anyHasQueueIn", "(II)Z"⟩
abbrev cX2_playSlowTick : ByteArray := prog_4_method_6_code
def yX2_playSlowTick : MethodName := ⟨RX2, "playSlowTick", "()V"⟩
abbrev cX2_reckonCostsIn : ByteArray := prog_4_method_7_code
def yX2_reckonCostsIn : MethodName := ⟨RX2, "reckonCostsIn", "(I)V"⟩
abbrev cX2_countQueuesIn : ByteArray := prog_4_method_8_code
def yX2_countQueuesIn : MethodName := ⟨RX2, "countQueuesIn", "(I)V"⟩
abbrev cX2_forgetWays : ByteArray := prog_4_method_9_code
def yX2_forgetWays : MethodName := ⟨RX2, "forgetWays", "()V"⟩
abbrev cX2_costsTo : ByteArray := prog_4_method_10_code
def yX2_costsTo : MethodName := ⟨RX2, "costsTo", "(I)[I"⟩
abbrev cX2_costWithout : ByteArray := prog_4_method_11_code
def yX2_costWithout : MethodName := ⟨RX2, "costWithout", "(LTurnpike$Link;II)I"⟩
abbrev cX2_firstOfWay : ByteArray := prog_4_method_12_code
def yX2_firstOfWay : MethodName := ⟨RX2, "firstOfWay", "(II)I"⟩
abbrev cX2_planWay : ByteArray := prog_4_method_13_code
def yX2_planWay : MethodName := ⟨RX2, "planWay", "(LTurnpike$Vehicle;I)Z"⟩
abbrev cX2_copyFrom : ByteArray := prog_4_method_14_code
def yX2_copyFrom : MethodName := ⟨RX2, "copyFrom", "(LTurnpike$Roads;)V"⟩
def RX3 : String := "Turnpike$Row"
def TX3 : u_T := fun k => match k with
  | 0 => ("Turnpike$Row", "number", "[I", true)
  | _ => ("Turnpike$Row", "size", "I", false)
def tyX3 : Nat → FieldType := fun k => match k with
  | 0 => .array .int
  | _ => .int
abbrev wsX30 : List Cond := u_ws RX3 TX3 2
theorem nmX3 : ∀ a, a < 2 → ∀ b, b < 2 → a ≠ b → (TX3 a).2.1 ≠ (TX3 b).2.1 := by decide +kernel
theorem tyX3_ok : ∀ k, k < 2 → parseFieldDescriptor (TX3 k).2.2.1 = some (tyX3 k) := by decide +kernel
abbrev cX3_init : ByteArray := prog_5_method_1_code
def yX3_init : MethodName := ⟨RX3, "<init>", "(I)V"⟩
abbrev cX3_get : ByteArray := prog_5_method_2_code
def yX3_get : MethodName := ⟨RX3, "get", "(I)I"⟩
abbrev cX3_append : ByteArray := prog_5_method_3_code
def yX3_append : MethodName := ⟨RX3, "append", "(I)V"⟩
abbrev cX3_dropFirst : ByteArray := prog_5_method_4_code
def yX3_dropFirst : MethodName := ⟨RX3, "dropFirst", "()V"⟩
abbrev cX3_copyFrom : ByteArray := prog_5_method_5_code
def yX3_copyFrom : MethodName := ⟨RX3, "copyFrom", "(LTurnpike$Row;)V"⟩
def RX4 : String := "Turnpike$Signal"
def TX4 : u_T := fun k => match k with
  | 0 => ("Turnpike$Signal", "links", "[I", true)
  | 1 => ("Turnpike$Signal", "least", "[I", true)
  | 2 => ("Turnpike$Signal", "greatest", "[I", true)
  | 3 => ("Turnpike$Signal", "phases", "I", false)
  | 4 => ("Turnpike$Signal", "phase", "I", false)
  | _ => ("Turnpike$Signal", "ticks", "I", false)
def tyX4 : Nat → FieldType := fun k => match k with
  | 0 => .array .int
  | 1 => .array .int
  | 2 => .array .int
  | 3 => .int
  | 4 => .int
  | _ => .int
abbrev wsX40 : List Cond := u_ws RX4 TX4 6
theorem nmX4 : ∀ a, a < 6 → ∀ b, b < 6 → a ≠ b → (TX4 a).2.1 ≠ (TX4 b).2.1 := by decide +kernel
theorem tyX4_ok : ∀ k, k < 6 → parseFieldDescriptor (TX4 k).2.2.1 = some (tyX4 k) := by decide +kernel
abbrev cX4_init : ByteArray := prog_6_method_1_code
def yX4_init : MethodName := ⟨RX4, "<init>", "()V"⟩
abbrev cX4_append : ByteArray := prog_6_method_2_code
def yX4_append : MethodName := ⟨RX4, "append", "(III)I"⟩
abbrev cX4_clear : ByteArray := prog_6_method_3_code
def yX4_clear : MethodName := ⟨RX4, "clear", "()V"⟩
abbrev cX4_isOn : ByteArray := prog_6_method_4_code
def yX4_isOn : MethodName := ⟨RX4, "isOn", "()Z"⟩
abbrev cX4_linksOn : ByteArray := prog_6_method_5_code
def yX4_linksOn : MethodName := ⟨RX4, "linksOn", "()I"⟩
abbrev cX4_isGreen : ByteArray := prog_6_method_6_code
def yX4_isGreen : MethodName := ⟨RX4, "isGreen", "(I)Z"⟩
abbrev cX4_playTick : ByteArray := prog_6_method_7_code
def yX4_playTick : MethodName := ⟨RX4, "playTick", "(Z)V"⟩
abbrev cX4_copyFrom : ByteArray := prog_6_method_8_code
def yX4_copyFrom : MethodName := ⟨RX4, "copyFrom", "(LTurnpike$Signal;)V"⟩
def RX5 : String := "Turnpike$Traffic"
def TX5 : u_T := fun k => match k with
  | 0 => ("Turnpike$Traffic", "roads", "LTurnpike$Roads;", true)
  | 1 => ("Turnpike$Traffic", "signal", "[LTurnpike$Signal;", true)
  | 2 => ("Turnpike$Traffic", "row", "[LTurnpike$Row;", true)
  | 3 => ("Turnpike$Traffic", "flow", "[LTurnpike$Flow;", true)
  | 4 => ("Turnpike$Traffic", "vehicle", "[LTurnpike$Vehicle;", true)
  | 5 => ("Turnpike$Traffic", "trails", "LTurnpike$Trails;", true)
  | 6 => ("Turnpike$Traffic", "clock", "I", false)
  | 7 => ("Turnpike$Traffic", "refresh", "I", false)
  | 8 => ("Turnpike$Traffic", "nodes", "I", false)
  | 9 => ("Turnpike$Traffic", "flows", "I", false)
  | 10 => ("Turnpike$Traffic", "vehicles", "I", false)
  | _ => ("Turnpike$Traffic", "underWay", "I", false)
def tyX5 : Nat → FieldType := fun k => match k with
  | 0 => .object "Turnpike$Roads"
  | 1 => .array (.object "Turnpike$Signal")
  | 2 => .array (.object "Turnpike$Row")
  | 3 => .array (.object "Turnpike$Flow")
  | 4 => .array (.object "Turnpike$Vehicle")
  | 5 => .object "Turnpike$Trails"
  | 6 => .int
  | 7 => .int
  | 8 => .int
  | 9 => .int
  | 10 => .int
  | _ => .int
abbrev wsX50 : List Cond := u_ws RX5 TX5 12
theorem nmX5 : ∀ a, a < 12 → ∀ b, b < 12 → a ≠ b → (TX5 a).2.1 ≠ (TX5 b).2.1 := by decide +kernel
theorem tyX5_ok : ∀ k, k < 12 → parseFieldDescriptor (TX5 k).2.2.1 = some (tyX5 k) := by decide +kernel
abbrev cX5_init : ByteArray := prog_7_method_1_code
def yX5_init : MethodName := ⟨RX5, "<init>", "(Z)V"⟩
abbrev cX5_find : ByteArray := prog_7_method_2_code
def yX5_find : MethodName := ⟨RX5, "find", "(I)LTurnpike$Vehicle;"⟩
abbrev cX5_tick : ByteArray := prog_7_method_3_code
def yX5_tick : MethodName := ⟨RX5, "tick", "()V"⟩
abbrev cX5_bringVehicles : ByteArray := prog_7_method_4_code
def yX5_bringVehicles : MethodName := ⟨RX5, "bringVehicles", "()V"⟩
abbrev cX5_bring : ByteArray := prog_7_method_5_code
def yX5_bring : MethodName := ⟨RX5, "bring", "(I)V"⟩
abbrev cX5_playSignals : ByteArray := prog_7_method_6_code
def yX5_playSignals : MethodName := ⟨RX5, "playSignals", "()V"⟩
abbrev cX5_driveOnLinks : ByteArray := prog_7_method_7_code
def yX5_driveOnLinks : MethodName := ⟨RX5, "driveOnLinks", "()V"⟩
abbrev cX5_firstGoesOn : ByteArray := prog_7_method_8_code
def yX5_firstGoesOn : MethodName := ⟨RX5, "firstGoesOn", "(LTurnpike$Link;)Z"⟩
abbrev cX5_driveFromNodes : ByteArray := prog_7_method_9_code
def yX5_driveFromNodes : MethodName := ⟨RX5, "driveFromNodes", "()V"⟩
abbrev cX5_nextOf : ByteArray := prog_7_method_10_code
def yX5_nextOf : MethodName := ⟨RX5, "nextOf", "(LTurnpike$Vehicle;I)I"⟩
abbrev cX5_comesOnto : ByteArray := prog_7_method_11_code
def yX5_comesOnto : MethodName := ⟨RX5, "comesOnto", "(ILTurnpike$Vehicle;I)Z"⟩
abbrev cX5_arrive : ByteArray := prog_7_method_12_code
def yX5_arrive : MethodName := ⟨RX5, "arrive", "(LTurnpike$Vehicle;)V"⟩
abbrev cX5_copyFrom : ByteArray := prog_7_method_13_code
def yX5_copyFrom : MethodName := ⟨RX5, "copyFrom", "(LTurnpike$Traffic;)V"⟩
def RX6 : String := "Turnpike$Trails"
def TX6 : u_T := fun k => match k with
  | _ => ("Turnpike$Trails", "words", "[[J", true)
def tyX6 : Nat → FieldType := fun k => match k with
  | _ => .array (.array .long)
abbrev wsX60 : List Cond := u_ws RX6 TX6 1
theorem nmX6 : ∀ a, a < 1 → ∀ b, b < 1 → a ≠ b → (TX6 a).2.1 ≠ (TX6 b).2.1 := by decide +kernel
theorem tyX6_ok : ∀ k, k < 1 → parseFieldDescriptor (TX6 k).2.2.1 = some (tyX6 k) := by decide +kernel
abbrev cX6_init : ByteArray := prog_8_method_1_code
def yX6_init : MethodName := ⟨RX6, "<init>", "()V"⟩
abbrev cX6_put : ByteArray := prog_8_method_2_code
def yX6_put : MethodName := ⟨RX6, "put", "(III)V"⟩
abbrev cX6_get : ByteArray := prog_8_method_3_code
def yX6_get : MethodName := ⟨RX6, "get", "(II)I"⟩
def RX7 : String := "Turnpike$Vehicle"
def TX7 : u_T := fun k => match k with
  | 0 => ("Turnpike$Vehicle", "flow", "I", false)
  | 1 => ("Turnpike$Vehicle", "to", "I", false)
  | 2 => ("Turnpike$Vehicle", "kind", "I", false)
  | 3 => ("Turnpike$Vehicle", "state", "I", false)
  | 4 => ("Turnpike$Vehicle", "start", "I", false)
  | 5 => ("Turnpike$Vehicle", "link", "I", false)
  | 6 => ("Turnpike$Vehicle", "end", "I", false)
  | 7 => ("Turnpike$Vehicle", "gone", "I", false)
  | 8 => ("Turnpike$Vehicle", "driven", "I", false)
  | 9 => ("Turnpike$Vehicle", "trip", "I", false)
  | 10 => ("Turnpike$Vehicle", "delay", "I", false)
  | 11 => ("Turnpike$Vehicle", "wayLinks", "I", false)
  | _ => ("Turnpike$Vehicle", "way", "[I", true)
def tyX7 : Nat → FieldType := fun k => match k with
  | 0 => .int
  | 1 => .int
  | 2 => .int
  | 3 => .int
  | 4 => .int
  | 5 => .int
  | 6 => .int
  | 7 => .int
  | 8 => .int
  | 9 => .int
  | 10 => .int
  | 11 => .int
  | _ => .array .int
abbrev wsX70 : List Cond := u_ws RX7 TX7 13
theorem nmX7 : ∀ a, a < 13 → ∀ b, b < 13 → a ≠ b → (TX7 a).2.1 ≠ (TX7 b).2.1 := by decide +kernel
theorem tyX7_ok : ∀ k, k < 13 → parseFieldDescriptor (TX7 k).2.2.1 = some (tyX7 k) := by decide +kernel
abbrev cX7_init : ByteArray := prog_9_method_1_code
def yX7_init : MethodName := ⟨RX7, "<init>", "()V"⟩
abbrev cX7_come : ByteArray := prog_9_method_2_code
def yX7_come : MethodName := ⟨RX7, "come", "(IIII)V"⟩
abbrev cX7_planOver : ByteArray := prog_9_method_3_code
def yX7_planOver : MethodName := ⟨RX7, "planOver", "(I)V"⟩
abbrev cX7_nextOfWay : ByteArray := prog_9_method_4_code
def yX7_nextOfWay : MethodName := ⟨RX7, "nextOfWay", "()I"⟩
abbrev cX7_goOnto : ByteArray := prog_9_method_5_code
def yX7_goOnto : MethodName := ⟨RX7, "goOnto", "(III)V"⟩
abbrev cX7_arrive : ByteArray := prog_9_method_6_code
def yX7_arrive : MethodName := ⟨RX7, "arrive", "(I)V"⟩
abbrev cX7_copyFrom : ByteArray := prog_9_method_7_code
def yX7_copyFrom : MethodName := ⟨RX7, "copyFrom", "(LTurnpike$Vehicle;)V"⟩
def RX8 : String := "Turnpike"
def TX8 : u_T := fun k => match k with
  | 0 => ("Turnpike", "now", "LTurnpike$Traffic;", true)
  | _ => ("Turnpike", "trial", "LTurnpike$Traffic;", true)
def tyX8 : Nat → FieldType := fun k => match k with
  | 0 => .object "Turnpike$Traffic"
  | _ => .object "Turnpike$Traffic"
abbrev wsX80 : List Cond := u_ws RX8 TX8 2
theorem nmX8 : ∀ a, a < 2 → ∀ b, b < 2 → a ≠ b → (TX8 a).2.1 ≠ (TX8 b).2.1 := by decide +kernel
theorem tyX8_ok : ∀ k, k < 2 → parseFieldDescriptor (TX8 k).2.2.1 = some (tyX8 k) := by decide +kernel
abbrev cX8_init : ByteArray := prog_1_method_1_code
def yX8_init : MethodName := ⟨RX8, "<init>", "()V"⟩
abbrev cX8_addNode : ByteArray := prog_1_method_2_code
def yX8_addNode : MethodName := ⟨RX8, "addNode", "()I"⟩
abbrev cX8_addLink : ByteArray := prog_1_method_3_code
def yX8_addLink : MethodName := ⟨RX8, "addLink", "(IIIII)I"⟩
abbrev cX8_addPhase : ByteArray := prog_1_method_4_code
def yX8_addPhase : MethodName := ⟨RX8, "addPhase", "(IIII)I"⟩
abbrev cX8_dropSignal : ByteArray := prog_1_method_5_code
def yX8_dropSignal : MethodName := ⟨RX8, "dropSignal", "(I)I"⟩
abbrev cX8_setRefresh : ByteArray := prog_1_method_6_code
def yX8_setRefresh : MethodName := ⟨RX8, "setRefresh", "(I)I"⟩
abbrev cX8_shut : ByteArray := prog_1_method_7_code
def yX8_shut : MethodName := ⟨RX8, "shut", "(IZ)Z"⟩
abbrev cX8_slow : ByteArray := prog_1_method_8_code
def yX8_slow : MethodName := ⟨RX8, "slow", "(III)I"⟩
abbrev cX8_addFlow : ByteArray := prog_1_method_9_code
def yX8_addFlow : MethodName := ⟨RX8, "addFlow", "(IIIIII)I"⟩
abbrev cX8_step : ByteArray := prog_1_method_10_code
def yX8_step : MethodName := ⟨RX8, "step", "(I)I"⟩
abbrev cX8_clock : ByteArray := prog_1_method_11_code
def yX8_clock : MethodName := ⟨RX8, "clock", "()I"⟩
abbrev cX8_nodes : ByteArray := prog_1_method_12_code
def yX8_nodes : MethodName := ⟨RX8, "nodes", "()I"⟩
abbrev cX8_links : ByteArray := prog_1_method_13_code
def yX8_links : MethodName := ⟨RX8, "links", "()I"⟩
abbrev cX8_flows : ByteArray := prog_1_method_14_code
def yX8_flows : MethodName := ⟨RX8, "flows", "()I"⟩
abbrev cX8_isShut : ByteArray := prog_1_method_15_code
def yX8_isShut : MethodName := ⟨RX8, "isShut", "(I)Z"⟩
abbrev cX8_rateOf : ByteArray := prog_1_method_16_code
def yX8_rateOf : MethodName := ⟨RX8, "rateOf", "(I)I"⟩
abbrev cX8_costOf : ByteArray := prog_1_method_17_code
def yX8_costOf : MethodName := ⟨RX8, "costOf", "(I)I"⟩
abbrev cX8_phaseOf : ByteArray := prog_1_method_18_code
def yX8_phaseOf : MethodName := ⟨RX8, "phaseOf", "(I)I"⟩
abbrev cX8_phaseTicks : ByteArray := prog_1_method_19_code
def yX8_phaseTicks : MethodName := ⟨RX8, "phaseTicks", "(I)I"⟩
abbrev cX8_distance : ByteArray := prog_1_method_20_code
def yX8_distance : MethodName := ⟨RX8, "distance", "(II)I"⟩
abbrev cX8_nextLink : ByteArray := prog_1_method_21_code
def yX8_nextLink : MethodName := ⟨RX8, "nextLink", "(II)I"⟩
abbrev cX8_vehicles : ByteArray := prog_1_method_22_code
def yX8_vehicles : MethodName := ⟨RX8, "vehicles", "()I"⟩
abbrev cX8_stateOf : ByteArray := prog_1_method_23_code
def yX8_stateOf : MethodName := ⟨RX8, "stateOf", "(I)I"⟩
abbrev cX8_linkOf : ByteArray := prog_1_method_24_code
def yX8_linkOf : MethodName := ⟨RX8, "linkOf", "(I)I"⟩
abbrev cX8_endOf : ByteArray := prog_1_method_25_code
def yX8_endOf : MethodName := ⟨RX8, "endOf", "(I)I"⟩
abbrev cX8_linksOf : ByteArray := prog_1_method_26_code
def yX8_linksOf : MethodName := ⟨RX8, "linksOf", "(I)I"⟩
abbrev cX8_linkAt : ByteArray := prog_1_method_27_code
def yX8_linkAt : MethodName := ⟨RX8, "linkAt", "(II)I"⟩
abbrev cX8_tripOf : ByteArray := prog_1_method_28_code
def yX8_tripOf : MethodName := ⟨RX8, "tripOf", "(I)I"⟩
abbrev cX8_delayOf : ByteArray := prog_1_method_29_code
def yX8_delayOf : MethodName := ⟨RX8, "delayOf", "(I)I"⟩
abbrev cX8_waiting : ByteArray := prog_1_method_30_code
def yX8_waiting : MethodName := ⟨RX8, "waiting", "(I)I"⟩
abbrev cX8_onLink : ByteArray := prog_1_method_31_code
def yX8_onLink : MethodName := ⟨RX8, "onLink", "(I)I"⟩
abbrev cX8_vehicleAt : ByteArray := prog_1_method_32_code
def yX8_vehicleAt : MethodName := ⟨RX8, "vehicleAt", "(II)I"⟩
abbrev cX8_queue : ByteArray := prog_1_method_33_code
def yX8_queue : MethodName := ⟨RX8, "queue", "(I)I"⟩
abbrev cX8_count : ByteArray := prog_1_method_34_code
def yX8_count : MethodName := ⟨RX8, "count", "(II)I"⟩
abbrev cX8_turned : ByteArray := prog_1_method_35_code
def yX8_turned : MethodName := ⟨RX8, "turned", "(II)I"⟩
abbrev cX8_ofFlow : ByteArray := prog_1_method_36_code
def yX8_ofFlow : MethodName := ⟨RX8, "ofFlow", "(II)I"⟩
abbrev cX8_meanTrip : ByteArray := prog_1_method_37_code
def yX8_meanTrip : MethodName := ⟨RX8, "meanTrip", "()D"⟩
abbrev cX8_arrivesIn : ByteArray := prog_1_method_38_code
def yX8_arrivesIn : MethodName := ⟨RX8, "arrivesIn", "(II)I"⟩
abbrev cX8_emptyIn : ByteArray := prog_1_method_39_code
def yX8_emptyIn : MethodName := ⟨RX8, "emptyIn", "(I)I"⟩
abbrev cX8_distanceWithout : ByteArray := prog_1_method_40_code
def yX8_distanceWithout : MethodName := ⟨RX8, "distanceWithout", "(III)I"⟩
abbrev cX8_digest : ByteArray := prog_1_method_41_code
def yX8_digest : MethodName := ⟨RX8, "digest", "()J"⟩
abbrev cX8_digestNodes : ByteArray := prog_1_method_42_code
def yX8_digestNodes : MethodName := ⟨RX8, "digestNodes", "(J)J"⟩
abbrev cX8_digestLinks : ByteArray := prog_1_method_43_code
def yX8_digestLinks : MethodName := ⟨RX8, "digestLinks", "(J)J"⟩
abbrev cX8_digestFlows : ByteArray := prog_1_method_44_code
def yX8_digestFlows : MethodName := ⟨RX8, "digestFlows", "(J)J"⟩
abbrev cX8_digestVehicles : ByteArray := prog_1_method_45_code
def yX8_digestVehicles : MethodName := ⟨RX8, "digestVehicles", "(J)J"⟩
abbrev cX8_isWithin : ByteArray := prog_1_method_46_code
def yX8_isWithin : MethodName := ⟨RX8, "isWithin", "(III)Z"⟩
abbrev cX8_checkArgument : ByteArray := prog_1_method_47_code
def yX8_checkArgument : MethodName := ⟨RX8, "checkArgument", "(Z)V"⟩
abbrev cX8_checkTicks : ByteArray := prog_1_method_48_code
def yX8_checkTicks : MethodName := ⟨RX8, "checkTicks", "(I)V"⟩
abbrev cX8_checkNode : ByteArray := prog_1_method_49_code
def yX8_checkNode : MethodName := ⟨RX8, "checkNode", "(I)V"⟩
abbrev cX8_linkNumbered : ByteArray := prog_1_method_50_code
def yX8_linkNumbered : MethodName := ⟨RX8, "linkNumbered", "(I)LTurnpike$Link;"⟩
abbrev cX8_vehicleNumbered : ByteArray := prog_1_method_51_code
def yX8_vehicleNumbered : MethodName := ⟨RX8, "vehicleNumbered", "(I)LTurnpike$Vehicle;"⟩
def RX9 : String := "TurnpikeModel$World"
def TX9 : u_T := fun k => match k with
  | 0 => ("TurnpikeModel$World", "clock", "I", false)
  | 1 => ("TurnpikeModel$World", "refresh", "I", false)
  | 2 => ("TurnpikeModel$World", "nodes", "I", false)
  | 3 => ("TurnpikeModel$World", "phases", "[I", false)
  | 4 => ("TurnpikeModel$World", "phase", "[I", false)
  | 5 => ("TurnpikeModel$World", "phaseTicks", "[I", false)
  | 6 => ("TurnpikeModel$World", "set", "[I", false)
  | 7 => ("TurnpikeModel$World", "least", "[I", false)
  | 8 => ("TurnpikeModel$World", "greatest", "[I", false)
  | 9 => ("TurnpikeModel$World", "links", "I", false)
  | 10 => ("TurnpikeModel$World", "from", "[I", false)
  | 11 => ("TurnpikeModel$World", "to", "[I", false)
  | 12 => ("TurnpikeModel$World", "time", "[I", false)
  | 13 => ("TurnpikeModel$World", "room", "[I", false)
  | 14 => ("TurnpikeModel$World", "first", "[I", false)
  | 15 => ("TurnpikeModel$World", "rate", "[I", false)
  | 16 => ("TurnpikeModel$World", "cost", "[I", false)
  | 17 => ("TurnpikeModel$World", "isShut", "[Z", false)
  | 18 => ("TurnpikeModel$World", "slowed", "[I", false)
  | 19 => ("TurnpikeModel$World", "row", "[I", false)
  | 20 => ("TurnpikeModel$World", "size", "[I", false)
  | 21 => ("TurnpikeModel$World", "came", "[I", false)
  | 22 => ("TurnpikeModel$World", "left", "[I", false)
  | 23 => ("TurnpikeModel$World", "mostQueue", "[I", false)
  | 24 => ("TurnpikeModel$World", "sumQueue", "[I", false)
  | 25 => ("TurnpikeModel$World", "turned", "[I", false)
  | 26 => ("TurnpikeModel$World", "flows", "I", false)
  | 27 => ("TurnpikeModel$World", "flowFrom", "[I", false)
  | 28 => ("TurnpikeModel$World", "flowTo", "[I", false)
  | 29 => ("TurnpikeModel$World", "kind", "[I", false)
  | 30 => ("TurnpikeModel$World", "start", "[I", false)
  | 31 => ("TurnpikeModel$World", "period", "[I", false)
  | 32 => ("TurnpikeModel$World", "count", "[I", false)
  | 33 => ("TurnpikeModel$World", "vehicles", "I", false)
  | 34 => ("TurnpikeModel$World", "flow", "[I", false)
  | 35 => ("TurnpikeModel$World", "began", "[I", false)
  | 36 => ("TurnpikeModel$World", "state", "[I", false)
  | 37 => ("TurnpikeModel$World", "link", "[I", false)
  | 38 => ("TurnpikeModel$World", "end", "[I", false)
  | 39 => ("TurnpikeModel$World", "gone", "[I", false)
  | 40 => ("TurnpikeModel$World", "trip", "[I", false)
  | 41 => ("TurnpikeModel$World", "delay", "[I", false)
  | _ => ("TurnpikeModel$World", "way", "[[I", true)
def tyX9 : Nat → FieldType := fun k => match k with
  | 0 => .int
  | 1 => .int
  | 2 => .int
  | 3 => .array .int
  | 4 => .array .int
  | 5 => .array .int
  | 6 => .array .int
  | 7 => .array .int
  | 8 => .array .int
  | 9 => .int
  | 10 => .array .int
  | 11 => .array .int
  | 12 => .array .int
  | 13 => .array .int
  | 14 => .array .int
  | 15 => .array .int
  | 16 => .array .int
  | 17 => .array .boolean
  | 18 => .array .int
  | 19 => .array .int
  | 20 => .array .int
  | 21 => .array .int
  | 22 => .array .int
  | 23 => .array .int
  | 24 => .array .int
  | 25 => .array .int
  | 26 => .int
  | 27 => .array .int
  | 28 => .array .int
  | 29 => .array .int
  | 30 => .array .int
  | 31 => .array .int
  | 32 => .array .int
  | 33 => .int
  | 34 => .array .int
  | 35 => .array .int
  | 36 => .array .int
  | 37 => .array .int
  | 38 => .array .int
  | 39 => .array .int
  | 40 => .array .int
  | 41 => .array .int
  | _ => .array (.array .int)
abbrev wsX90 : List Cond := u_ws RX9 TX9 43
theorem nmX9 : ∀ a, a < 43 → ∀ b, b < 43 → a ≠ b → (TX9 a).2.1 ≠ (TX9 b).2.1 := by decide +kernel
theorem tyX9_ok : ∀ k, k < 43 → parseFieldDescriptor (TX9 k).2.2.1 = some (tyX9 k) := by decide +kernel
abbrev cX9_init : ByteArray := prog_12_method_1_code
def yX9_init : MethodName := ⟨RX9, "<init>", "()V"⟩
abbrev cX9_copy : ByteArray := prog_12_method_2_code
def yX9_copy : MethodName := ⟨RX9, "copy", "()LTurnpikeModel$World;"⟩
abbrev cX9_at : ByteArray := prog_12_method_3_code
def yX9_at : MethodName := ⟨RX9, "at", "(II)I"⟩
abbrev cX9_add : ByteArray := prog_12_method_4_code
def yX9_add : MethodName := ⟨RX9, "add", "(II)V"⟩
abbrev cX9_takeFirst : ByteArray := prog_12_method_5_code
def yX9_takeFirst : MethodName := ⟨RX9, "takeFirst", "(I)V"⟩
abbrev cX9_queue : ByteArray := prog_12_method_6_code
def yX9_queue : MethodName := ⟨RX9, "queue", "(I)I"⟩
abbrev cX9_distances : ByteArray := prog_12_method_7_code
def yX9_distances : MethodName := ⟨RX9, "distances", "(II)[I"⟩
abbrev cX9_nextLink : ByteArray := prog_12_method_8_code
def yX9_nextLink : MethodName := ⟨RX9, "nextLink", "(II)I"⟩
abbrev cX9_next : ByteArray := prog_12_method_9_code
def yX9_next : MethodName := ⟨RX9, "next", "(II)I"⟩
abbrev cX9_tick : ByteArray := prog_12_method_10_code
def yX9_tick : MethodName := ⟨RX9, "tick", "()V"⟩
abbrev cX9_come : ByteArray := prog_12_method_11_code
def yX9_come : MethodName := ⟨RX9, "come", "(I)V"⟩
abbrev cX9_put : ByteArray := prog_12_method_12_code
def yX9_put : MethodName := ⟨RX9, "put", "(III)V"⟩
abbrev cX9_signal : ByteArray := prog_12_method_13_code
def yX9_signal : MethodName := ⟨RX9, "signal", "(I)V"⟩
abbrev cX9_isGreen : ByteArray := prog_12_method_14_code
def yX9_isGreen : MethodName := ⟨RX9, "isGreen", "(I)Z"⟩
abbrev cX9_drive : ByteArray := prog_12_method_15_code
def yX9_drive : MethodName := ⟨RX9, "drive", "(I)V"⟩
abbrev cX9_arrive : ByteArray := prog_12_method_16_code
def yX9_arrive : MethodName := ⟨RX9, "arrive", "(I)V"⟩
abbrev cX9_goOn : ByteArray := prog_12_method_17_code
def yX9_goOn : MethodName := ⟨RX9, "goOn", "(III)Z"⟩
abbrev cX9_moving : ByteArray := prog_12_method_18_code
def yX9_moving : MethodName := ⟨RX9, "moving", "()I"⟩
abbrev cX9_ofFlow : ByteArray := prog_12_method_19_code
def yX9_ofFlow : MethodName := ⟨RX9, "ofFlow", "(II)I"⟩
def RX10 : String := "TurnpikeModel"
def TX10 : u_T := fun k => match k with
  | 0 => ("TurnpikeModel", "w", "LTurnpikeModel$World;", true)
  | _ => ("TurnpikeModel", "thrown", "I", false)
def tyX10 : Nat → FieldType := fun k => match k with
  | 0 => .object "TurnpikeModel$World"
  | _ => .int
abbrev wsX100 : List Cond := u_ws RX10 TX10 2
theorem nmX10 : ∀ a, a < 2 → ∀ b, b < 2 → a ≠ b → (TX10 a).2.1 ≠ (TX10 b).2.1 := by decide +kernel
theorem tyX10_ok : ∀ k, k < 2 → parseFieldDescriptor (TX10 k).2.2.1 = some (tyX10 k) := by decide +kernel
abbrev cX10_copyOf : ByteArray := prog_11_method_1_code
def yX10_copyOf : MethodName := ⟨RX10, "copyOf", "([I)[I"⟩
abbrev cX10_none : ByteArray := prog_11_method_2_code
def yX10_none : MethodName := ⟨RX10, "none", "(I)[I"⟩
abbrev cX10_isIn : ByteArray := prog_11_method_3_code
def yX10_isIn : MethodName := ⟨RX10, "isIn", "(III)Z"⟩
abbrev cX10_init : ByteArray := prog_11_method_4_code
def yX10_init : MethodName := ⟨RX10, "<init>", "()V"⟩
abbrev cX10_thrown : ByteArray := prog_11_method_5_code
def yX10_thrown : MethodName := ⟨RX10, "thrown", "()I"⟩
abbrev cX10_no : ByteArray := prog_11_method_6_code
def yX10_no : MethodName := ⟨RX10, "no", "(I)I"⟩
abbrev cX10_isNot : ByteArray := prog_11_method_7_code
def yX10_isNot : MethodName := ⟨RX10, "isNot", "(I)Z"⟩
abbrev cX10_ok : ByteArray := prog_11_method_8_code
def yX10_ok : MethodName := ⟨RX10, "ok", "(I)I"⟩
abbrev cX10_isNode : ByteArray := prog_11_method_9_code
def yX10_isNode : MethodName := ⟨RX10, "isNode", "(I)Z"⟩
abbrev cX10_isLink : ByteArray := prog_11_method_10_code
def yX10_isLink : MethodName := ⟨RX10, "isLink", "(I)Z"⟩
abbrev cX10_isVehicle : ByteArray := prog_11_method_11_code
def yX10_isVehicle : MethodName := ⟨RX10, "isVehicle", "(I)Z"⟩
abbrev cX10_addNode : ByteArray := prog_11_method_12_code
def yX10_addNode : MethodName := ⟨RX10, "addNode", "()I"⟩
abbrev cX10_addLink : ByteArray := prog_11_method_13_code
def yX10_addLink : MethodName := ⟨RX10, "addLink", "(IIIII)I"⟩
abbrev cX10_addPhase : ByteArray := prog_11_method_14_code
def yX10_addPhase : MethodName := ⟨RX10, "addPhase", "(IIII)I"⟩
abbrev cX10_dropSignal : ByteArray := prog_11_method_15_code
def yX10_dropSignal : MethodName := ⟨RX10, "dropSignal", "(I)I"⟩
abbrev cX10_setRefresh : ByteArray := prog_11_method_16_code
def yX10_setRefresh : MethodName := ⟨RX10, "setRefresh", "(I)I"⟩
abbrev cX10_shut : ByteArray := prog_11_method_17_code
def yX10_shut : MethodName := ⟨RX10, "shut", "(IZ)Z"⟩
abbrev cX10_slow : ByteArray := prog_11_method_18_code
def yX10_slow : MethodName := ⟨RX10, "slow", "(III)I"⟩
abbrev cX10_addFlow : ByteArray := prog_11_method_19_code
def yX10_addFlow : MethodName := ⟨RX10, "addFlow", "(IIIIII)I"⟩
abbrev cX10_step : ByteArray := prog_11_method_20_code
def yX10_step : MethodName := ⟨RX10, "step", "(I)I"⟩
abbrev cX10_clock : ByteArray := prog_11_method_21_code
def yX10_clock : MethodName := ⟨RX10, "clock", "()I"⟩
abbrev cX10_nodes : ByteArray := prog_11_method_22_code
def yX10_nodes : MethodName := ⟨RX10, "nodes", "()I"⟩
abbrev cX10_links : ByteArray := prog_11_method_23_code
def yX10_links : MethodName := ⟨RX10, "links", "()I"⟩
abbrev cX10_flows : ByteArray := prog_11_method_24_code
def yX10_flows : MethodName := ⟨RX10, "flows", "()I"⟩
abbrev cX10_isShut : ByteArray := prog_11_method_25_code
def yX10_isShut : MethodName := ⟨RX10, "isShut", "(I)Z"⟩
abbrev cX10_rateOf : ByteArray := prog_11_method_26_code
def yX10_rateOf : MethodName := ⟨RX10, "rateOf", "(I)I"⟩
abbrev cX10_costOf : ByteArray := prog_11_method_27_code
def yX10_costOf : MethodName := ⟨RX10, "costOf", "(I)I"⟩
abbrev cX10_phaseOf : ByteArray := prog_11_method_28_code
def yX10_phaseOf : MethodName := ⟨RX10, "phaseOf", "(I)I"⟩
abbrev cX10_phaseTicks : ByteArray := prog_11_method_29_code
def yX10_phaseTicks : MethodName := ⟨RX10, "phaseTicks", "(I)I"⟩
abbrev cX10_distanceNow : ByteArray := prog_11_method_30_code
def yX10_distanceNow : MethodName := ⟨RX10, "distanceNow", "(III)I"⟩
abbrev cX10_distance : ByteArray := prog_11_method_31_code
def yX10_distance : MethodName := ⟨RX10, "distance", "(II)I"⟩
abbrev cX10_nextLink : ByteArray := prog_11_method_32_code
def yX10_nextLink : MethodName := ⟨RX10, "nextLink", "(II)I"⟩
abbrev cX10_vehicles : ByteArray := prog_11_method_33_code
def yX10_vehicles : MethodName := ⟨RX10, "vehicles", "()I"⟩
abbrev cX10_ofVehicle : ByteArray := prog_11_method_34_code
def yX10_ofVehicle : MethodName := ⟨RX10, "ofVehicle", "(I[I)I"⟩
abbrev cX10_stateOf : ByteArray := prog_11_method_35_code
def yX10_stateOf : MethodName := ⟨RX10, "stateOf", "(I)I"⟩
abbrev cX10_linkOf : ByteArray := prog_11_method_36_code
def yX10_linkOf : MethodName := ⟨RX10, "linkOf", "(I)I"⟩
abbrev cX10_endOf : ByteArray := prog_11_method_37_code
def yX10_endOf : MethodName := ⟨RX10, "endOf", "(I)I"⟩
abbrev cX10_linksOf : ByteArray := prog_11_method_38_code
def yX10_linksOf : MethodName := ⟨RX10, "linksOf", "(I)I"⟩
abbrev cX10_linkAt : ByteArray := prog_11_method_39_code
def yX10_linkAt : MethodName := ⟨RX10, "linkAt", "(II)I"⟩
abbrev cX10_tripOf : ByteArray := prog_11_method_40_code
def yX10_tripOf : MethodName := ⟨RX10, "tripOf", "(I)I"⟩
abbrev cX10_delayOf : ByteArray := prog_11_method_41_code
def yX10_delayOf : MethodName := ⟨RX10, "delayOf", "(I)I"⟩
abbrev cX10_waiting : ByteArray := prog_11_method_42_code
def yX10_waiting : MethodName := ⟨RX10, "waiting", "(I)I"⟩
abbrev cX10_onLink : ByteArray := prog_11_method_43_code
def yX10_onLink : MethodName := ⟨RX10, "onLink", "(I)I"⟩
abbrev cX10_vehicleAt : ByteArray := prog_11_method_44_code
def yX10_vehicleAt : MethodName := ⟨RX10, "vehicleAt", "(II)I"⟩
abbrev cX10_queue : ByteArray := prog_11_method_45_code
def yX10_queue : MethodName := ⟨RX10, "queue", "(I)I"⟩
abbrev cX10_countNow : ByteArray := prog_11_method_46_code
def yX10_countNow : MethodName := ⟨RX10, "countNow", "(II)I"⟩
abbrev cX10_count : ByteArray := prog_11_method_47_code
def yX10_count : MethodName := ⟨RX10, "count", "(II)I"⟩
abbrev cX10_turned : ByteArray := prog_11_method_48_code
def yX10_turned : MethodName := ⟨RX10, "turned", "(II)I"⟩
abbrev cX10_ofFlow : ByteArray := prog_11_method_49_code
def yX10_ofFlow : MethodName := ⟨RX10, "ofFlow", "(II)I"⟩
abbrev cX10_meanTrip : ByteArray := prog_11_method_50_code
def yX10_meanTrip : MethodName := ⟨RX10, "meanTrip", "()D"⟩
abbrev cX10_arrivesIn : ByteArray := prog_11_method_51_code
def yX10_arrivesIn : MethodName := ⟨RX10, "arrivesIn", "(II)I"⟩
abbrev cX10_emptyIn : ByteArray := prog_11_method_52_code
def yX10_emptyIn : MethodName := ⟨RX10, "emptyIn", "(I)I"⟩
abbrev cX10_distanceWithout : ByteArray := prog_11_method_53_code
def yX10_distanceWithout : MethodName := ⟨RX10, "distanceWithout", "(III)I"⟩
abbrev cX10_digest : ByteArray := prog_11_method_54_code
def yX10_digest : MethodName := ⟨RX10, "digest", "()J"⟩
def RJx145de : String := "java/io/Serializable"
def TJx145de : u_T := fun k => match k with
  | _ => ("", "", "", false)
def tyJx145de : Nat → FieldType := fun k => match k with
  | _ => .int
abbrev wsJx145de0 : List Cond := u_ws RJx145de TJx145de 0
theorem nmJx145de : ∀ a, a < 0 → ∀ b, b < 0 → a ≠ b → (TJx145de a).2.1 ≠ (TJx145de b).2.1 := by decide +kernel
theorem tyJx145de_ok : ∀ k, k < 0 → parseFieldDescriptor (TJx145de k).2.2.1 = some (tyJx145de k) := by decide +kernel
def RJx8e188 : String := "java/lang/Cloneable"
def TJx8e188 : u_T := fun k => match k with
  | _ => ("", "", "", false)
def tyJx8e188 : Nat → FieldType := fun k => match k with
  | _ => .int
abbrev wsJx8e1880 : List Cond := u_ws RJx8e188 TJx8e188 0
theorem nmJx8e188 : ∀ a, a < 0 → ∀ b, b < 0 → a ≠ b → (TJx8e188 a).2.1 ≠ (TJx8e188 b).2.1 := by decide +kernel
theorem tyJx8e188_ok : ∀ k, k < 0 → parseFieldDescriptor (TJx8e188 k).2.2.1 = some (tyJx8e188 k) := by decide +kernel
def RJ9 : String := "java/lang/Math"
def TJ9 : u_T := fun k => match k with
  | _ => ("", "", "", false)
def tyJ9 : Nat → FieldType := fun k => match k with
  | _ => .int
abbrev wsJ90 : List Cond := u_ws RJ9 TJ9 0
theorem nmJ9 : ∀ a, a < 0 → ∀ b, b < 0 → a ≠ b → (TJ9 a).2.1 ≠ (TJ9 b).2.1 := by decide +kernel
theorem tyJ9_ok : ∀ k, k < 0 → parseFieldDescriptor (TJ9 k).2.2.1 = some (tyJ9 k) := by decide +kernel
abbrev cJ9_floorMod_7cf53 : ByteArray := prog_18_method_50_code
def yJ9_floorMod_7cf53 : MethodName := ⟨RJ9, "floorMod", "(II)I"⟩
abbrev cJ9_max_7cf53 : ByteArray := prog_18_method_65_code
def yJ9_max_7cf53 : MethodName := ⟨RJ9, "max", "(II)I"⟩
abbrev cJ9_min_7cf53 : ByteArray := prog_18_method_69_code
def yJ9_min_7cf53 : MethodName := ⟨RJ9, "min", "(II)I"⟩
def RJ0 : String := "java/lang/String"
def TJ0 : u_T := fun k => match k with
  | _ => ("", "", "", false)
def tyJ0 : Nat → FieldType := fun k => match k with
  | _ => .int
abbrev wsJ00 : List Cond := u_ws RJ0 TJ0 0
theorem nmJ0 : ∀ a, a < 0 → ∀ b, b < 0 → a ≠ b → (TJ0 a).2.1 ≠ (TJ0 b).2.1 := by decide +kernel
theorem tyJ0_ok : ∀ k, k < 0 → parseFieldDescriptor (TJ0 k).2.2.1 = some (tyJ0 k) := by decide +kernel
def RJ10 : String := "java/lang/System"
def TJ10 : u_T := fun k => match k with
  | _ => ("", "", "", false)
def tyJ10 : Nat → FieldType := fun k => match k with
  | _ => .int
abbrev wsJ100 : List Cond := u_ws RJ10 TJ10 0
theorem nmJ10 : ∀ a, a < 0 → ∀ b, b < 0 → a ≠ b → (TJ10 a).2.1 ≠ (TJ10 b).2.1 := by decide +kernel
theorem tyJ10_ok : ∀ k, k < 0 → parseFieldDescriptor (TJ10 k).2.2.1 = some (tyJ10 k) := by decide +kernel
def RJ7 : String := "java/util/Arrays"
def TJ7 : u_T := fun k => match k with
  | _ => ("", "", "", false)
def tyJ7 : Nat → FieldType := fun k => match k with
  | _ => .int
abbrev wsJ70 : List Cond := u_ws RJ7 TJ7 0
theorem nmJ7 : ∀ a, a < 0 → ∀ b, b < 0 → a ≠ b → (TJ7 a).2.1 ≠ (TJ7 b).2.1 := by decide +kernel
theorem tyJ7_ok : ∀ k, k < 0 → parseFieldDescriptor (TJ7 k).2.2.1 = some (tyJ7 k) := by decide +kernel
abbrev cJ7_fill_53178 : ByteArray := prog_23_method_103_code
def yJ7_fill_53178 : MethodName := ⟨RJ7, "fill", "([II)V"⟩
abbrev cJ7_copyOf_c38d5 : ByteArray := prog_23_method_124_code
def yJ7_copyOf_c38d5 : MethodName := ⟨RJ7, "copyOf", "([JI)[J"⟩
def RL : String := "TurnpikeLaw"
abbrev cL_addNode : ByteArray := method_3_code
def yL_addNode : MethodName := ⟨RL, "addNode", "(LTurnpike;[J)I"⟩
abbrev cL_addLink : ByteArray := method_4_code
def yL_addLink : MethodName := ⟨RL, "addLink", "(LTurnpike;IIIII[J)I"⟩
abbrev cL_addPhase : ByteArray := method_5_code
def yL_addPhase : MethodName := ⟨RL, "addPhase", "(LTurnpike;IIII[J)I"⟩
abbrev cL_dropSignal : ByteArray := method_6_code
def yL_dropSignal : MethodName := ⟨RL, "dropSignal", "(LTurnpike;I[J)I"⟩
abbrev cL_setRefresh : ByteArray := method_7_code
def yL_setRefresh : MethodName := ⟨RL, "setRefresh", "(LTurnpike;I[J)I"⟩
abbrev cL_shut : ByteArray := method_8_code
def yL_shut : MethodName := ⟨RL, "shut", "(LTurnpike;IZ[J)I"⟩
abbrev cL_slow : ByteArray := method_9_code
def yL_slow : MethodName := ⟨RL, "slow", "(LTurnpike;III[J)I"⟩
abbrev cL_addFlow : ByteArray := method_10_code
def yL_addFlow : MethodName := ⟨RL, "addFlow", "(LTurnpike;IIIIII[J)I"⟩
abbrev cL_step : ByteArray := method_11_code
def yL_step : MethodName := ⟨RL, "step", "(LTurnpike;I[J)I"⟩
abbrev cL_isShut : ByteArray := method_12_code
def yL_isShut : MethodName := ⟨RL, "isShut", "(LTurnpike;I[J)I"⟩
abbrev cL_rateOf : ByteArray := method_13_code
def yL_rateOf : MethodName := ⟨RL, "rateOf", "(LTurnpike;I[J)I"⟩
abbrev cL_costOf : ByteArray := method_14_code
def yL_costOf : MethodName := ⟨RL, "costOf", "(LTurnpike;I[J)I"⟩
abbrev cL_phaseOf : ByteArray := method_15_code
def yL_phaseOf : MethodName := ⟨RL, "phaseOf", "(LTurnpike;I[J)I"⟩
abbrev cL_phaseTicks : ByteArray := method_16_code
def yL_phaseTicks : MethodName := ⟨RL, "phaseTicks", "(LTurnpike;I[J)I"⟩
abbrev cL_distance : ByteArray := method_17_code
def yL_distance : MethodName := ⟨RL, "distance", "(LTurnpike;II[J)I"⟩
abbrev cL_nextLink : ByteArray := method_18_code
def yL_nextLink : MethodName := ⟨RL, "nextLink", "(LTurnpike;II[J)I"⟩
abbrev cL_stateOf : ByteArray := method_19_code
def yL_stateOf : MethodName := ⟨RL, "stateOf", "(LTurnpike;I[J)I"⟩
abbrev cL_linkOf : ByteArray := method_20_code
def yL_linkOf : MethodName := ⟨RL, "linkOf", "(LTurnpike;I[J)I"⟩
abbrev cL_endOf : ByteArray := method_21_code
def yL_endOf : MethodName := ⟨RL, "endOf", "(LTurnpike;I[J)I"⟩
abbrev cL_linksOf : ByteArray := method_22_code
def yL_linksOf : MethodName := ⟨RL, "linksOf", "(LTurnpike;I[J)I"⟩
abbrev cL_linkAt : ByteArray := method_23_code
def yL_linkAt : MethodName := ⟨RL, "linkAt", "(LTurnpike;II[J)I"⟩
abbrev cL_tripOf : ByteArray := method_24_code
def yL_tripOf : MethodName := ⟨RL, "tripOf", "(LTurnpike;I[J)I"⟩
abbrev cL_delayOf : ByteArray := method_25_code
def yL_delayOf : MethodName := ⟨RL, "delayOf", "(LTurnpike;I[J)I"⟩
abbrev cL_waiting : ByteArray := method_26_code
def yL_waiting : MethodName := ⟨RL, "waiting", "(LTurnpike;I[J)I"⟩
abbrev cL_onLink : ByteArray := method_27_code
def yL_onLink : MethodName := ⟨RL, "onLink", "(LTurnpike;I[J)I"⟩
abbrev cL_vehicleAt : ByteArray := method_28_code
def yL_vehicleAt : MethodName := ⟨RL, "vehicleAt", "(LTurnpike;II[J)I"⟩
abbrev cL_queue : ByteArray := method_29_code
def yL_queue : MethodName := ⟨RL, "queue", "(LTurnpike;I[J)I"⟩
abbrev cL_count : ByteArray := method_30_code
def yL_count : MethodName := ⟨RL, "count", "(LTurnpike;II[J)I"⟩
abbrev cL_turned : ByteArray := method_31_code
def yL_turned : MethodName := ⟨RL, "turned", "(LTurnpike;II[J)I"⟩
abbrev cL_ofFlow : ByteArray := method_32_code
def yL_ofFlow : MethodName := ⟨RL, "ofFlow", "(LTurnpike;II[J)I"⟩
abbrev cL_arrivesIn : ByteArray := method_33_code
def yL_arrivesIn : MethodName := ⟨RL, "arrivesIn", "(LTurnpike;II[J)I"⟩
abbrev cL_emptyIn : ByteArray := method_34_code
def yL_emptyIn : MethodName := ⟨RL, "emptyIn", "(LTurnpike;I[J)I"⟩
abbrev cL_distanceWithout : ByteArray := method_35_code
def yL_distanceWithout : MethodName := ⟨RL, "distanceWithout", "(LTurnpike;III[J)I"⟩
abbrev cL_law : ByteArray := code
def yL_law : MethodName := ⟨RL, "law", "([I)Z"⟩
abbrev vwCl : List vw_C := [(RX0, TX0, 12), (RX1, TX1, 16), (RX2, TX2, 4), (RX3, TX3, 2), (RX4, TX4, 6), (RX5, TX5, 12), (RX6, TX6, 1), (RX7, TX7, 13), (RX8, TX8, 2), (RX9, TX9, 43), (RX10, TX10, 2)]
end
section
/-! the words that a call keeps, in one list; the words of nest mates, arrays of references, String constants: an environment that a call keeps -/
def tp_all : List Cond := lw_tbl.filter goodWord
theorem tp_mem {w : Cond} (i : Nat) (h : lw_tbl[i]? = some w) (hg : goodWord w = true) : w ∈ tp_all := List.mem_filter.mpr ⟨List.mem_of_getElem? h, hg⟩
theorem tp_ins {ws : List Cond} (h : ∀ w ∈ ws, w ∈ tp_all) : GoodIn tp_all ws := fun w hw => ⟨h w hw, good_of_word (List.mem_filter.mp (h w hw)).2⟩
abbrev tp_w (y : MethodName) (b : ByteArray) (n : Nat) (ret : Option FieldType) : List Cond := Cond.code y b n ret :: tp_all
abbrev tp_wW (y : MethodName) (b : ByteArray) (n : Nat) (ret : Option FieldType) (hh : List (Nat × Nat × Nat × Nat)) : List Cond := Cond.codeWith y b n ret hh :: tp_all
theorem tp_in {c : Cond} (h : c ∈ tp_all) : GoodIn tp_all (c :: tp_all) := tp_ins fun w hw => (List.mem_cons.mp hw).elim (fun e => by rw [e]; exact h) id
theorem tp_m3 {a b c : Cond} (h1 : a ∈ tp_all) (h2 : b ∈ tp_all) (h3 : c ∈ tp_all) : ∀ w ∈ [a, b, c], w ∈ tp_all := by
  intro w hw
  simp only [List.mem_cons, List.not_mem_nil, or_false] at hw
  rcases hw with rfl | rfl | rfl <;> assumption
theorem tp_m4 {a b c d : Cond} (h1 : a ∈ tp_all) (h2 : b ∈ tp_all) (h3 : c ∈ tp_all) (h4 : d ∈ tp_all) : ∀ w ∈ [a, b, c, d], w ∈ tp_all := by
  intro w hw
  simp only [List.mem_cons, List.not_mem_nil, or_false] at hw
  rcases hw with rfl | rfl | rfl | rfl <;> assumption
theorem tp_lay {ws : List Cond} (ps : List Nat) (hp : ws = ps.filterMap (fun i => lw_tbl[i]?)) (h : ws.all goodWord = true) : ∀ w ∈ ws, w ∈ tp_all := by
  intro w hw
  refine List.mem_filter.mpr ⟨?_, List.all_eq_true.mp h w hw⟩
  rw [hp] at hw
  obtain ⟨i, -, hi⟩ := List.mem_filterMap.mp hw
  exact List.mem_of_getElem? hi
section TPC
variable {R : Room} {s : State} {args : Array Value} {own C : String} {index maxL mc ms : Nat} {y : MethodName} {bytes : ByteArray} {ret : Option FieldType} {rm : Room}
theorem tp_cwV (n : Nat) (ht : ∀ w ∈ tp_all, w.before args s = true) (q1 : Cond.methodLink own index y ∈ tp_all) (q2 : Cond.instanceMethod y ∈ tp_all) (q3 : Cond.selects C y y ∈ tp_all) (q4 : Cond.initialized C ∈ tp_all) (q5 : Cond.code y bytes maxL ret ∈ tp_all) (hrc : rm.cells = mc) (hrs : rm.slots = ms)
    (hd : y.cls = C ∧ y.cls ≠ "java/lang/invoke/MethodHandle" ∧ y.cls ≠ "java/lang/invoke/VarHandle" ∧ (parseMethodDescriptor y.desc).map (fun d => d.parameters.length) = some n) (hR : rm.frames + 1 ≤ R.frames ∧ 8 + (maxL + 11) + rm.locals ≤ R.locals) : CallW R s args own C index y bytes maxL ret (tp_w y bytes maxL ret) rm mc ms n :=
  cwV n ht (goodIn_app (tp_ins (tp_m4 q1 q2 q3 q4)) (tp_in q5)) rfl hrc hrs hd hR
theorem tp_cwS (n : Nat) (ht : ∀ w ∈ tp_all, w.before args s = true) (q1 : Cond.methodLink own index y ∈ tp_all) (q2 : Cond.static y ∈ tp_all) (q4 : Cond.initialized y.cls ∈ tp_all) (q5 : Cond.code y bytes maxL ret ∈ tp_all) (hrc : rm.cells = mc) (hrs : rm.slots = ms)
    (hd : y.cls ≠ "java/lang/invoke/MethodHandle" ∧ y.cls ≠ "java/lang/invoke/VarHandle" ∧ (parseMethodDescriptor y.desc).map (fun d => d.parameters.length) = some n) (hR : rm.frames + 1 ≤ R.frames ∧ 8 + (maxL + 11) + rm.locals ≤ R.locals) : CallB R s args own index y bytes maxL ret (tp_w y bytes maxL ret) rm mc ms n ∧ (Cond.static y).before args s = true :=
  va_cwS n ht (goodIn_app (tp_ins (tp_m3 q1 q2 q4)) (tp_in q5)) rfl hrc hrs hd hR
theorem tp_cwSW {hh : List (Nat × Nat × Nat × Nat)} (n : Nat) (ht : ∀ w ∈ tp_all, w.before args s = true) (q1 : Cond.methodLink own index y ∈ tp_all) (q2 : Cond.static y ∈ tp_all) (q4 : Cond.initialized y.cls ∈ tp_all) (q5 : Cond.codeWith y bytes maxL ret hh ∈ tp_all) (hrc : rm.cells = mc) (hrs : rm.slots = ms)
    (hd : y.cls ≠ "java/lang/invoke/MethodHandle" ∧ y.cls ≠ "java/lang/invoke/VarHandle" ∧ (parseMethodDescriptor y.desc).map (fun d => d.parameters.length) = some n) (hR : rm.frames + 1 ≤ R.frames ∧ 8 + (maxL + 11) + rm.locals ≤ R.locals) : vx_CSW R s args own index y bytes maxL ret hh (tp_wW y bytes maxL ret hh) rm mc ms n :=
  vx_cwSW n ht (goodIn_app (tp_ins (tp_m3 q1 q2 q4)) (tp_in q5)) rfl hrc hrs hd hR
theorem tp_cwI (n : Nat) (ht : ∀ w ∈ tp_all, w.before args s = true) (q1 : Cond.methodLink own index y ∈ tp_all) (q2 : Cond.instanceMethod y ∈ tp_all) (q4 : Cond.initialized y.cls ∈ tp_all) (q5 : Cond.code y bytes maxL none ∈ tp_all) (hrc : rm.cells = mc) (hrs : rm.slots = ms) (hy1 : y.name = "<init>")
    (hd : y.cls ≠ "java/lang/invoke/MethodHandle" ∧ y.cls ≠ "java/lang/invoke/VarHandle" ∧ (parseMethodDescriptor y.desc).map (fun d => d.parameters.length) = some n) (hR : rm.frames + 1 ≤ R.frames ∧ 8 + (maxL + 11) + rm.locals ≤ R.locals) : CallB R s args own index y bytes maxL none (tp_w y bytes maxL none) rm mc ms n ∧ y.name = "<init>" ∧ (Cond.instanceMethod y).before args s = true :=
  cwI n ht (tp_in q5) rfl hrc hrs (ht _ q4) (ht _ q1) (ht _ q2) hy1 hd hR
theorem tp_cnB {host : String} (n : Nat) (ht : ∀ w ∈ tp_all, w.before args s = true) (hl : va_Nw (.methodLinkNest own index y host) s) (q4 : Cond.initialized y.cls ∈ tp_all) (q5 : Cond.code y bytes maxL ret ∈ tp_all) (hrc : rm.cells = mc) (hrs : rm.slots = ms)
    (hd : y.cls ≠ "java/lang/invoke/MethodHandle" ∧ y.cls ≠ "java/lang/invoke/VarHandle" ∧ (parseMethodDescriptor y.desc).map (fun d => d.parameters.length) = some n) (hR : rm.frames + 1 ≤ R.frames ∧ 8 + (maxL + 11) + rm.locals ≤ R.locals) : va_CN R s args own index y host bytes maxL ret (tp_w y bytes maxL ret) rm mc ms n :=
  va_cnB n ht (tp_in q5) rfl hrc hrs hl (ht _ q4) hd hR
end TPC
def tp_fln : List (String × Nat × String × String × String × String) := [("Turnpike$Link", 37, "Turnpike$Row", "size", "I", "Turnpike"), ("Turnpike", 188, "Turnpike$Row", "size", "I", "Turnpike"), ("Turnpike$Roads", 27, "Turnpike$Link", "from", "I", "Turnpike"), ("Turnpike$Roads", 30, "Turnpike$Link", "to", "I", "Turnpike"), ("Turnpike$Traffic", 159, "Turnpike$Link", "to", "I", "Turnpike"), ("Turnpike$Roads", 33, "Turnpike$Link", "time", "I", "Turnpike"), ("Turnpike$Traffic", 222, "Turnpike$Link", "time", "I", "Turnpike"), ("Turnpike$Roads", 36, "Turnpike$Link", "room", "I", "Turnpike"), ("Turnpike$Roads", 39, "Turnpike$Link", "firstRate", "I", "Turnpike"), ("Turnpike$Roads", 42, "Turnpike$Link", "rate", "I", "Turnpike"), ("Turnpike$Traffic", 165, "Turnpike$Link", "rate", "I", "Turnpike"), ("Turnpike", 96, "Turnpike$Link", "rate", "I", "Turnpike"), ("Turnpike", 99, "Turnpike$Link", "slowTicks", "I", "Turnpike"), ("Turnpike", 87, "Turnpike$Link", "shut", "Z", "Turnpike"), ("Turnpike$Roads", 75, "Turnpike$Link", "shut", "Z", "Turnpike"), ("Turnpike$Roads", 45, "Turnpike$Link", "cost", "I", "Turnpike"), ("Turnpike", 126, "Turnpike$Link", "cost", "I", "Turnpike"), ("Turnpike$Traffic", 172, "Turnpike$Link", "row", "LTurnpike$Row;", "Turnpike"), ("Turnpike", 193, "Turnpike$Link", "row", "LTurnpike$Row;", "Turnpike"), ("Turnpike", 204, "Turnpike$Link", "came", "I", "Turnpike"), ("Turnpike", 207, "Turnpike$Link", "left", "I", "Turnpike"), ("Turnpike", 210, "Turnpike$Link", "greatestQueue", "I", "Turnpike"), ("Turnpike", 213, "Turnpike$Link", "sumOfQueues", "I", "Turnpike"), ("Turnpike", 221, "Turnpike$Link", "wentOnto", "[I", "Turnpike"), ("Turnpike$Traffic", 155, "Turnpike$Roads", "link", "[LTurnpike$Link;", "Turnpike"), ("Turnpike", 47, "Turnpike$Roads", "links", "I", "Turnpike"), ("Turnpike$Traffic", 146, "Turnpike$Roads", "links", "I", "Turnpike"), ("Turnpike", 66, "Turnpike$Signal", "phases", "I", "Turnpike"), ("Turnpike$Traffic", 131, "Turnpike$Signal", "phases", "I", "Turnpike"), ("Turnpike", 129, "Turnpike$Signal", "phase", "I", "Turnpike"), ("Turnpike", 132, "Turnpike$Signal", "ticks", "I", "Turnpike"), ("Turnpike$Traffic", 109, "Turnpike$Flow", "from", "I", "Turnpike"), ("Turnpike$Traffic", 96, "Turnpike$Flow", "to", "I", "Turnpike"), ("Turnpike$Traffic", 99, "Turnpike$Flow", "kind", "I", "Turnpike"), ("Turnpike$Traffic", 265, "Turnpike$Flow", "start", "I", "Turnpike"), ("Turnpike$Traffic", 268, "Turnpike$Flow", "period", "I", "Turnpike"), ("Turnpike$Traffic", 271, "Turnpike$Flow", "most", "I", "Turnpike"), ("Turnpike$Traffic", 106, "Turnpike$Flow", "came", "I", "Turnpike"), ("Turnpike", 227, "Turnpike$Flow", "came", "I", "Turnpike"), ("Turnpike", 228, "Turnpike$Flow", "arrived", "I", "Turnpike"), ("Turnpike$Traffic", 119, "Turnpike$Flow", "givenUp", "I", "Turnpike"), ("Turnpike", 231, "Turnpike$Flow", "givenUp", "I", "Turnpike"), ("Turnpike", 234, "Turnpike$Flow", "sumOfTrips", "I", "Turnpike"), ("Turnpike", 237, "Turnpike$Flow", "sumOfDelays", "I", "Turnpike"), ("Turnpike", 240, "Turnpike$Flow", "longestTrip", "I", "Turnpike"), ("Turnpike$Traffic", 244, "Turnpike$Vehicle", "flow", "I", "Turnpike"), ("Turnpike$Traffic", 186, "Turnpike$Vehicle", "to", "I", "Turnpike"), ("Turnpike$Roads", 83, "Turnpike$Vehicle", "to", "I", "Turnpike"), ("Turnpike$Traffic", 208, "Turnpike$Vehicle", "kind", "I", "Turnpike"), ("Turnpike$Traffic", 116, "Turnpike$Vehicle", "state", "I", "Turnpike"), ("Turnpike", 150, "Turnpike$Vehicle", "state", "I", "Turnpike"), ("Turnpike", 155, "Turnpike$Vehicle", "link", "I", "Turnpike"), ("Turnpike$Traffic", 229, "Turnpike$Vehicle", "end", "I", "Turnpike"), ("Turnpike", 158, "Turnpike$Vehicle", "end", "I", "Turnpike"), ("Turnpike$Traffic", 236, "Turnpike$Vehicle", "gone", "I", "Turnpike"), ("Turnpike", 161, "Turnpike$Vehicle", "gone", "I", "Turnpike"), ("Turnpike$Traffic", 246, "Turnpike$Vehicle", "trip", "I", "Turnpike"), ("Turnpike", 178, "Turnpike$Vehicle", "trip", "I", "Turnpike"), ("Turnpike$Traffic", 249, "Turnpike$Vehicle", "delay", "I", "Turnpike"), ("Turnpike", 181, "Turnpike$Vehicle", "delay", "I", "Turnpike"), ("Turnpike", 43, "Turnpike$Traffic", "roads", "LTurnpike$Roads;", "Turnpike"), ("Turnpike", 62, "Turnpike$Traffic", "signal", "[LTurnpike$Signal;", "Turnpike"), ("Turnpike", 184, "Turnpike$Traffic", "row", "[LTurnpike$Row;", "Turnpike"), ("Turnpike", 110, "Turnpike$Traffic", "flow", "[LTurnpike$Flow;", "Turnpike"), ("Turnpike", 247, "Turnpike$Traffic", "vehicle", "[LTurnpike$Vehicle;", "Turnpike"), ("Turnpike", 164, "Turnpike$Traffic", "trails", "LTurnpike$Trails;", "Turnpike"), ("Turnpike", 102, "Turnpike$Traffic", "clock", "I", "Turnpike"), ("Turnpike", 80, "Turnpike$Traffic", "refresh", "I", "Turnpike"), ("Turnpike", 21, "Turnpike$Traffic", "nodes", "I", "Turnpike"), ("Turnpike", 105, "Turnpike$Traffic", "flows", "I", "Turnpike"), ("Turnpike", 143, "Turnpike$Traffic", "vehicles", "I", "Turnpike"), ("Turnpike", 251, "Turnpike$Traffic", "underWay", "I", "Turnpike")]
def tp_mln : List (String × Nat × MethodName × String) := [("Turnpike$Roads", 22, yX1_init, "Turnpike"), ("Turnpike$Traffic", 48, yX6_init, "Turnpike"), ("Turnpike$Traffic", 53, yX4_init, "Turnpike"), ("Turnpike$Traffic", 57, yX0_init, "Turnpike"), ("Turnpike$Traffic", 58, yX7_init, "Turnpike"), ("Turnpike$Trails", 16, yX8_isWithin, "Turnpike"), ("TurnpikeModel", 17, yX9_init, "TurnpikeModel"), ("TurnpikeModel$World", 19, yX10_none, "TurnpikeModel"), ("TurnpikeModel$World", 150, yX10_copyOf, "TurnpikeModel")]
def tp_aos : List String := ["Turnpike$Link", "Turnpike$Signal", "Turnpike$Row", "Turnpike$Flow", "Turnpike$Vehicle"]
def tp_aoa : List FieldType := [.int, .long]
def tp_str : List (String × Nat × String) := [("Turnpike", 349, "there is no such node"), ("Turnpike", 354, "there is no such link"), ("Turnpike", 196, "there is no such place"), ("Turnpike", 218, "there is no such count"), ("Turnpike", 225, "there is no such flow"), ("Turnpike", 358, "there is no such vehicle"), ("Turnpike", 27, "there are as many nodes as there can be"), ("Turnpike", 347, "an argument is not within its bounds"), ("Turnpike", 52, "there are as many links as there can be"), ("Turnpike", 71, "there are as many phases as there can be"), ("Turnpike", 108, "there are as many flows as there can be"), ("Turnpike", 170, "it went over no such link")]
def tp_cst : List (String × String) := [("java/lang/IndexOutOfBoundsException", "java/lang/IndexOutOfBoundsException"), ("java/lang/IllegalArgumentException", "java/lang/IllegalArgumentException"), ("java/lang/IllegalStateException", "java/lang/IllegalStateException"), ("[J", "java/lang/Cloneable")]
def tp_ncs : List (String × String) := [("java/lang/IndexOutOfBoundsException", "java/lang/IllegalArgumentException"), ("java/lang/IndexOutOfBoundsException", "java/lang/IllegalStateException"), ("java/lang/IllegalArgumentException", "java/lang/IndexOutOfBoundsException"), ("java/lang/IllegalArgumentException", "java/lang/IllegalStateException"), ("java/lang/IllegalStateException", "java/lang/IndexOutOfBoundsException"), ("java/lang/IllegalStateException", "java/lang/IllegalArgumentException")]
def tp_dcl : List MethodName := [⟨"java/lang/RuntimeException", "<init>", "(Ljava/lang/String;)V"⟩, ⟨"java/lang/Exception", "<init>", "(Ljava/lang/String;)V"⟩, ⟨"java/lang/Throwable", "<init>", "(Ljava/lang/String;)V"⟩]
theorem tp_warmD {x : MethodName} {s U : State} (hW : s.WarmedH U.vm) (hZ : va_Nw (.declares x) s) : va_Nw (.declares x) U := va_tabs rfl (rfl : (s.setVm U.vm).vm = U.vm) (by rw [Cond.declares_setVm hW.alike]; exact hZ)
/-- what a method may need of the tables beside its words: kept by every call -/
def tp_E (U : State) : Prop := (∀ q ∈ tp_fln, va_Nw (.fieldLinkNest q.1 q.2.1 q.2.2.1 q.2.2.2.1 q.2.2.2.2.1 q.2.2.2.2.2) U) ∧ (∀ q ∈ tp_mln, va_Nw (.methodLinkNest q.1 q.2.1 q.2.2.1 q.2.2.2) U) ∧ (∀ C ∈ tp_aos, va_AO C U) ∧ (∀ t ∈ tp_aoa, va_AOA t U) ∧ (∀ q ∈ tp_str, ∃ sa : Nat, vk_R q.1 q.2.1 q.2.2 sa U) ∧ (∀ q ∈ tp_cst, va_Nw (.castable q.1 q.2) U) ∧ (∀ q ∈ tp_ncs, va_Nc q.1 q.2 U) ∧ (∀ x ∈ tp_dcl, va_Nw (.declares x) U)
theorem tp_E.warm {s U : State} (hW : s.WarmedH U.vm) (h : tp_E s) : tp_E U := ⟨fun q m => va_Nw.warmF hW (h.1 q m), fun q m => va_Nw.warmM hW (h.2.1 q m), fun C m => va_AO.moved hW.alike (h.2.2.1 C m), fun t m => va_AOA.moved hW.alike (h.2.2.2.1 t m), fun q m => by obtain ⟨sa, hs⟩ := h.2.2.2.2.1 q m; exact ⟨sa, vk_R.warm hW hs⟩, fun q m => va_Nw.warmC hW (h.2.2.2.2.2.1 q m), fun q m => va_Nc.moved hW.alike (h.2.2.2.2.2.2.1 q m), fun x m => tp_warmD hW (h.2.2.2.2.2.2.2 x m)⟩
theorem tp_alike {u U : State} (hv : u.vm = U.vm) : u.vm.Alike U.vm := by rw [hv]; exact Vm.Alike.refl _
theorem tp_E.same {u U : State} (hv : u.vm = U.vm) (h : tp_E u) : tp_E U := ⟨fun q m => va_Nw.same rfl hv (h.1 q m), fun q m => va_Nw.same rfl hv (h.2.1 q m), fun C m => va_AO.moved (tp_alike hv) (h.2.2.1 C m), fun t m => va_AOA.moved (tp_alike hv) (h.2.2.2.1 t m), fun q m => by obtain ⟨sa, hs⟩ := h.2.2.2.2.1 q m; exact ⟨sa, vk_R.same hv.symm hs⟩, fun q m => va_Nw.same rfl hv (h.2.2.2.2.2.1 q m), fun q m => va_Nc.moved (tp_alike hv) (h.2.2.2.2.2.2.1 q m), fun x m => va_Nw.same rfl hv (h.2.2.2.2.2.2.2 x m)⟩
/-- the two statics of Throwable, kept apart from what a method changes -/
def tp_Z (A : Nat → Prop) (U : State) (H : Heap) : Prop := vx_Zq Bundle.tN "UNASSIGNED_STACK" Bundle.steD A U H ∧ vx_Zq Bundle.tN "SUPPRESSED_SENTINEL" Bundle.listD A U H
theorem tp_Z.moved {A : Nat → Prop} {u U : State} {H : Heap} (hvm : u.vm.Alike U.vm) (h : tp_Z A u H) : tp_Z A U H := ⟨h.1.moved hvm, h.2.moved hvm⟩
theorem tp_Z.kept {A : Nat → Prop} {U : State} {H H1 : Heap} (h : tp_Z A U H) (hq : ∀ a : Nat, a < H.size → ¬ A a → H1[a]? = H[a]?) : tp_Z A U H1 := ⟨h.1.kept hq, h.2.kept hq⟩
theorem tp_Z.narrow {A B : Nat → Prop} {U : State} {H : Heap} (h : tp_Z A U H) (hAB : ∀ q, B q → A q) : tp_Z B U H := ⟨h.1.narrow hAB, h.2.narrow hAB⟩
/-- the classes of arrays, one for each type -/
abbrev tp_ty (cy : Nat → ClassId) : List (ClassId × FieldType) := [(cy 0, .int), (cy 1, .long), (cy 2, .boolean), (cy 3, .object RX1), (cy 4, .object RX4), (cy 5, .object RX3), (cy 6, .object RX0), (cy 7, .object RX7), (cy 8, .array .int), (cy 9, .array .long)]
theorem tp_RA {U : State} {c1 c2 : ClassId} {t : FieldType} (h1 : va_RA U c1 t) (h2 : va_RA U c2 t) : c1 = c2 := by
  cases t with
  | object C =>
    obtain ⟨k1, p1, -, -, -, e1⟩ := h1
    obtain ⟨k2, p2, -, -, -, e2⟩ := h2
    exact Option.some.inj (e1.symm.trans e2)
  | _ => exact Option.some.inj ((show U.vm.findClass _ = some c1 from h1).symm.trans h2)
/-- an array class that comes again is the one that was there -/
theorem tp_one {D : va_G} {cl : List vw_C} {tys : List (ClassId × FieldType)} {U : State} (hK : va_K D cl tys U) (i j : Nat) {c1 c2 : ClassId} {t : FieldType} (h1 : tys[i]? = some (c1, t)) (h2 : tys[j]? = some (c2, t)) : c1 = c2 := tp_RA (hK.2 i _ h1).2 (hK.2 j _ h2).2
section TPP
variable {dC : Nat → ClassId} {dI : Nat → Nat → Nat} {cy : Nat → ClassId}
def tp_Pre (dC : Nat → ClassId) (dI : Nat → Nat → Nat) (cy : Nat → ClassId) (ws : va_W) (sz : Nat) (U : State) : Prop := U.heap.size = sz ∧ va_P (dC, dI) vwCl ws U.heap ∧ va_K (dC, dI) vwCl (tp_ty cy) U ∧ va_D (fun _ => True) ws ∧ tp_E U ∧ tp_Z (va_A ws sz) U U.heap
theorem tp_blind {av : List Value} {ws : va_W} {sz : Nat} : FrameBlind (va_Pc av (tp_Pre dC dI cy ws sz)) := fun a U g mk h => by
  obtain ⟨h0, h1, h2, h3, h4, h5, h6⟩ := h
  exact ⟨h0, h1, h2, va_K.moved (u := U) (U := U.calling g mk a) (Vm.Alike.refl U.vm) h3, h4, tp_E.same (u := U) (U := U.calling g mk a) rfl h5, tp_Z.moved (u := U) (U := U.calling g mk a) (Vm.Alike.refl U.vm) h6⟩
theorem tp_pay {A : Nat → Prop} {ws wc : va_W} {s : State} {H : Heap} {locs : List Loc} (hK : va_K (dC, dI) vwCl (tp_ty cy) s) (hP : va_P (dC, dI) vwCl ws H) (hD : va_D A ws) (hE : tp_E s) (hZ : tp_Z A s s.heap) (hS : va_S A s.heap H locs) (is : List Nat) (hn : va_nd is = true) (hC : is.map (fun i => ws[i]?) = wc.map some) (hF : ∀ q, va_A wc H.size q → A q) (U : State) (hU : U.heap = H) (hW : s.WarmedH U.vm) : tp_Pre dC dI cy wc H.size U := by
  subst hU
  have hC2 : is.filterMap (fun i => ws[i]?) = wc := by
    have h := congrArg (List.filterMap id) hC
    rw [List.filterMap_map, List.filterMap_map] at h
    simpa using h
  exact ⟨rfl, hP.sub is hC2, va_K.moved hW.alike hK, (hD.sub is hn hC).weaken (fun _ _ _ _ => trivial), tp_E.warm hW hE, ((hZ.kept hS.2.1).narrow hF).moved hW.alike⟩
/-- what a world is behind a method -/
abbrev tp_Post (dC : Nat → ClassId) (dI : Nat → Nat → Nat) (A : Nat → Prop) (ws : va_W) (t : State) : Prop := va_P (dC, dI) vwCl ws t.heap ∧ va_D A ws
end TPP
section TPL
variable {p : Program} {l : Launch} {e : Env} {R : Room} {s : State} {m : MethodId} {args : Array Value} {below : List Frame} {meth : Method} {c : Code} {Q : State → Prop} {pc : Nat} {st : List Value}
/-- a loop that counts up to N, cp cells and sp slots a turn -/
theorem tp_for {σ : Type} (N c0 cp s0 sp : Nat) (I : Nat → σ → Heap → List Loc → Array Slot → Prop)
    (hx : ∀ (x : σ) (H : Heap) (locs : List Loc) (ls : Array Slot), I N x H locs ls → W p l e R s m args below meth c H locs (c0 + cp * N) (s0 + sp * N) Q (F0 m pc ls st))
    (hs : ∀ (i : Nat) (x : σ) (H : Heap) (locs : List Loc) (ls : Array Slot), i < N → I i x H locs ls → (∀ (x : σ) (H : Heap) (locs : List Loc) (ls : Array Slot), I (i + 1) x H locs ls → W p l e R s m args below meth c H locs (c0 + cp * (i + 1)) (s0 + sp * (i + 1)) Q (F0 m pc ls st)) → W p l e R s m args below meth c H locs (c0 + cp * i) (s0 + sp * i) Q (F0 m pc ls st)) :
    ∀ (n i : Nat), i + n = N → ∀ (x : σ) (H : Heap) (locs : List Loc) (ls : Array Slot), I i x H locs ls → W p l e R s m args below meth c H locs (c0 + cp * i) (s0 + sp * i) Q (F0 m pc ls st) := by
  intro n
  induction n with
  | zero =>
    intro i hi x H locs ls h
    have e : i = N := by omega
    subst e
    exact hx x H locs ls h
  | succ n ih =>
    intro i hi x H locs ls h
    exact hs i x H locs ls (by omega) h (fun x H locs ls h => ih (i + 1) (by omega) x H locs ls h)
end TPL
theorem tl_X0 : ∀ w ∈ u_ws RX0 TX0 12, w ∈ tp_all := tp_lay [272, 274, 276, 278, 280, 282, 284, 286, 288, 290, 292, 294] (by decide +kernel) (by decide +kernel)
theorem tl_X1 : ∀ w ∈ u_ws RX1 TX1 16, w ∈ tp_all := tp_lay [144, 146, 148, 150, 152, 154, 156, 158, 160, 162, 164, 166, 168, 170, 172, 174] (by decide +kernel) (by decide +kernel)
theorem tl_X2 : ∀ w ∈ u_ws RX2 TX2 4, w ∈ tp_all := tp_lay [184, 186, 188, 190] (by decide +kernel) (by decide +kernel)
theorem tl_X3 : ∀ w ∈ u_ws RX3 TX3 2, w ∈ tp_all := tp_lay [100, 102] (by decide +kernel) (by decide +kernel)
theorem tl_X4 : ∀ w ∈ u_ws RX4 TX4 6, w ∈ tp_all := tp_lay [229, 231, 233, 235, 237, 239] (by decide +kernel) (by decide +kernel)
theorem tl_X5 : ∀ w ∈ u_ws RX5 TX5 12, w ∈ tp_all := tp_lay [381, 383, 385, 387, 389, 391, 393, 395, 397, 399, 401, 403] (by decide +kernel) (by decide +kernel)
theorem tl_X6 : ∀ w ∈ u_ws RX6 TX6 1, w ∈ tp_all := tp_lay [210] (by decide +kernel) (by decide +kernel)
theorem tl_X7 : ∀ w ∈ u_ws RX7 TX7 13, w ∈ tp_all := tp_lay [330, 332, 334, 336, 338, 340, 342, 344, 346, 348, 350, 352, 354] (by decide +kernel) (by decide +kernel)
theorem tl_X8 : ∀ w ∈ u_ws RX8 TX8 2, w ∈ tp_all := tp_lay [408, 410] (by decide +kernel) (by decide +kernel)
theorem tl_X9 : ∀ w ∈ u_ws RX9 TX9 43, w ∈ tp_all := tp_lay [1222, 1224, 1226, 1228, 1230, 1232, 1234, 1236, 1238, 1240, 1242, 1244, 1246, 1248, 1250, 1252, 1254, 1256, 1258, 1260, 1262, 1264, 1266, 1268, 1270, 1272, 1274, 1276, 1278, 1280, 1282, 1284, 1286, 1288, 1290, 1292, 1294, 1296, 1298, 1300, 1302, 1304, 1306] (by decide +kernel) (by decide +kernel)
theorem tl_X10 : ∀ w ∈ u_ws RX10 TX10 2, w ∈ tp_all := tp_lay [1312, 1314] (by decide +kernel) (by decide +kernel)
end
section
/-! rows that the walk uses: default values, arrays of arrays, what is thrown -/
def tp_dv (N : Nat) (ty : Nat → FieldType) (fs : List Value) : Bool := (List.range N).all fun j => decide (defaultValue (ty j) = vp_V fs j)
theorem tp_dv_ok {N : Nat} {ty : Nat → FieldType} {fs : List Value} (h : tp_dv N ty fs = true) (j : Nat) (hj : j < N) : defaultValue (ty j) = vp_V fs j := of_decide_eq_true (List.all_eq_true.mp h j (List.mem_range.mpr hj))
theorem tp_s1I : (FieldType.array FieldType.int).toString = "[I" := by decide +kernel
theorem tp_s1J : (FieldType.array FieldType.long).toString = "[J" := by decide +kernel
theorem tp_s2I : "[" ++ (FieldType.array FieldType.int).toString = "[[I" := by decide +kernel
theorem tp_s2J : "[" ++ (FieldType.array FieldType.long).toString = "[[J" := by decide +kernel
theorem tp_first {D : va_G} {cl : List vw_C} {X Y : va_W} {H : Heap} (hP : va_P D cl (X ++ Y) H) : va_P D cl X H := fun k q hk => hP k q (by rw [List.getElem?_append_left (List.getElem?_eq_some_iff.mp hk).1]; exact hk)
theorem tp_firstD {A : Nat → Prop} {X Y : va_W} (hD : va_D A (X ++ Y)) : va_D A X := ⟨fun i j p q hi hj e => hD.1 i j p q (by rw [List.getElem?_append_left (List.getElem?_eq_some_iff.mp hi).1]; exact hi) (by rw [List.getElem?_append_left (List.getElem?_eq_some_iff.mp hj).1]; exact hj) e, fun k q hk => hD.2 k q (by rw [List.getElem?_append_left (List.getElem?_eq_some_iff.mp hk).1]; exact hk)⟩
section TPR
variable {dC : Nat → ClassId} {dI : Nat → Nat → Nat} {cy : Nat → ClassId} {s : State}
theorem tp_fcI (h : va_K (dC, dI) vwCl (tp_ty cy) s) : s.vm.findClass (FieldType.array FieldType.int).toString = some (cy 0) := (h.2 0 _ rfl).2
theorem tp_fcJ (h : va_K (dC, dI) vwCl (tp_ty cy) s) : s.vm.findClass (FieldType.array FieldType.long).toString = some (cy 1) := (h.2 1 _ rfl).2
theorem tp_thrown {A : Nat → Prop} {ws : va_W} {H : Heap} {locs : List Loc} {t : State} (hP : va_P (dC, dI) vwCl ws H) (hD : va_D A ws) (hS : va_S A s.heap H locs) (h1 : H.size ≤ t.heap.size) (h2 : ∀ q : Nat, q < H.size → t.heap[q]? = H[q]?) : tp_Post dC dI A ws t ∧ va_F A s t :=
  ⟨⟨hP.kept (fun k q hk => h2 q.1 ((hP k q hk).lt)), hD⟩, Nat.le_trans hS.1 h1, fun q hq ha => (h2 q (Nat.lt_of_lt_of_le hq hS.1)).trans (hS.2.1 q hq ha)⟩
end TPR
theorem tp_pass1 {P : ClassFile.ExceptionTableEntry → Prop} {a : ClassFile.ExceptionTableEntry} (h : P a) : ∀ z ∈ [a], P z := fun z hz => by
  rw [List.mem_singleton.mp hz]
  exact h
theorem tp_pass2 {P : ClassFile.ExceptionTableEntry → Prop} {a b : ClassFile.ExceptionTableEntry} (h : P a) (h' : P b) : ∀ z ∈ [a, b], P z := fun z hz => by
  rcases List.mem_cons.mp hz with e | hz
  · rw [e]; exact h
  · rw [List.mem_singleton.mp hz]; exact h'
section TPN
variable {p : Program} {l : Launch} {e : Env} {R : Room} {s : State} {m : MethodId} {args : Array Value} {below : List Frame} {meth : Method} {c : Code} {H : Heap} {locs : List Loc} {cells slots : Nat} {Q : State → Prop}
variable {cc : ByteArray} {pc : Nat} {ls : Array Slot} {rest : List Value} {D : va_G} {cl : List vw_C} {A : Nat → Prop} {tys : List (ClassId × FieldType)} {ws : va_W} {H0 : Heap}
/-- new T[n][]: a row of null rows -/
theorem tp_newqA {ty : FieldType} (hexec : p.tables.exec = Jvm.exec) (hb : c.code = cc) {own : String} {index : Nat} (hown : s.vm.findClass own = some m.cls) (hclink : (Cond.classLink own index (FieldType.array ty).toString).before args s = true) (hover : va_AOA ty s) (hK : va_K D cl tys s) (hP : va_P D cl ws H) (hD : va_D A ws) (hS : va_S A H0 H locs) (hA : ∀ q, H0.size ≤ q → A q)
    {n : Int32} {N' : Nat} (hn : ¬ n < 0) (hN : n.toNatClampNeg = N') (hbytes : N' * 4 ≤ 536870912) (hcells : cells + 1 ≤ R.cells) (hslots : slots + N' ≤ R.slots) (hdg : decode cc pc = .ok (.anewarray index, 3))
    (kk : ∀ (q : Nat) (cA : ClassId) (H1 : Heap), va_K D cl (tys ++ [(cA, .array ty)]) s → va_P D cl (ws ++ [(q, .inl (cA, N', .inr (.inr (.inr (.inr (fun _ => none))))))]) H1 → va_D A (ws ++ [(q, .inl (cA, N', .inr (.inr (.inr (.inr (fun _ => none))))))]) → va_S A H0 H1 locs →
      W p l e R s m args below meth c H1 locs (cells + 1) (slots + N') Q (F0 m (pc + 3) ls (.ref q :: rest))) : W p l e R s m args below meth c H locs cells slots Q (F0 m pc ls (.int n :: rest)) := by
  subst hN
  intro T hT X
  obtain ⟨vm₁, cA, kA, comp, hW1, f1, f2, f3, f4, X', st⟩ := X.anewarrayArrK hexec hown hclink (va_AOA.use hover) (g := F0 m pc ls (.int n :: rest)) rfl (by rw [hb]; exact hdg) rfl hn hbytes hcells hslots
  have hTh : (T.setVm vm₁).heap = H := hT
  generalize hH1 : H.push ({ cls := cA, slots := Array.replicate n.toNatClampNeg .null, vm := .none } : Cell) = H1
  have hT1 : ((T.setVm vm₁).pushCell ({ cls := cA, slots := Array.replicate n.toNatClampNeg .null, vm := .none } : Cell)).heap = H1 := by rw [← hH1, ← hTh]; rfl
  have z1 : H1.size = H.size + 1 := by rw [← hH1, Array.size_push]
  have e1 : H1[H.size]? = some (arrV cA n.toNatClampNeg (fun _ => .null)) := by rw [← hH1, Array.getElem?_push_size, ← arrV_new]
  have o1 : ∀ q : Nat, q < H.size → H1[q]? = H[q]? := fun q hq => by rw [← hH1, Array.getElem?_push, if_neg (Nat.ne_of_lt hq)]
  have hAr : ArrOfT s cA (.array ty) := fun N z => ⟨(fun k h => by cases h), kA, f2, comp, f3⟩
  have hk : ∀ (k : Nat) (x : Nat × va_E), ws[k]? = some x → H1[x.1]? = H[x.1]? := fun k x hx => o1 x.1 ((hP k x hx).lt)
  obtain ⟨t, a1, b1⟩ := kk H.size cA H1 ⟨hK.1, fun k x hx => by
    by_cases hl : k < tys.length
    · rw [List.getElem?_append_left hl] at hx
      exact hK.2 k x hx
    · rw [List.getElem?_append_right (by omega)] at hx
      have hz : k - tys.length < 1 := (List.getElem?_eq_some_iff.mp hx).1
      rw [show k - tys.length = 0 by omega] at hx
      cases hx
      exact ⟨hAr, f1⟩⟩ ((hP.kept hk).app (fun k x hx => by
    have hz : k < 1 := (List.getElem?_eq_some_iff.mp hx).1
    rw [show k = 0 by omega] at hx
    cases hx
    show H1[H.size]? = some (vp_cell _ _)
    rw [vp_cell_q]
    exact e1)) (hD.push hP rfl (hA _ hS.1)) ⟨Nat.le_trans hS.1 (by omega), fun x h1 h2 => (o1 x (Nat.lt_of_lt_of_le h1 hS.1)).trans (hS.2.1 x h1 h2), hS.2.2⟩ _ hT1 X'
  rw [← hT] at a1
  exact ⟨t, st t a1, b1⟩
end TPN
def tp_up : List String := ["java/lang/RuntimeException", "java/lang/Exception"]
theorem ta_ISE : ∀ w ∈ (vx_atS RX8 29 "java/lang/IllegalStateException" tp_up).filter goodWord, w ∈ lw_tbl := by decide +kernel
theorem tb_ISE : ∀ w ∈ (vx_atS RX8 29 "java/lang/IllegalStateException" tp_up).filter (fun w => !goodWord w), w ∈ [Cond.castable "java/lang/IllegalStateException" "java/lang/IllegalStateException", Cond.declares ⟨"java/lang/RuntimeException", "<init>", "(Ljava/lang/String;)V"⟩, Cond.declares ⟨"java/lang/Exception", "<init>", "(Ljava/lang/String;)V"⟩, Cond.declares ⟨"java/lang/Throwable", "<init>", "(Ljava/lang/String;)V"⟩] := by decide +kernel
theorem tt_ISE {args : Array Value} {s : State} (hts : ∀ w ∈ tp_all, w.before args s = true) (hE : tp_E s) : ∀ w ∈ vx_atS RX8 29 "java/lang/IllegalStateException" tp_up, w.before args s = true := vx_hat (fun w h => hts w (List.mem_filter.mpr ⟨ta_ISE w h, (List.mem_filter.mp h).2⟩)) tb_ISE (vx_c (va_Nw.use rfl (hE.2.2.2.2.2.1 _ (List.mem_of_getElem? (i := 2) rfl))) (vx_c (va_Nw.use rfl (hE.2.2.2.2.2.2.2 _ (List.mem_of_getElem? (i := 0) rfl))) (vx_c (va_Nw.use rfl (hE.2.2.2.2.2.2.2 _ (List.mem_of_getElem? (i := 1) rfl))) (vx_c (va_Nw.use rfl (hE.2.2.2.2.2.2.2 _ (List.mem_of_getElem? (i := 2) rfl))) vx_n))))
theorem tg_ISE : ∀ w ∈ Cond.classLink RX8 25 "java/lang/IllegalStateException" :: Cond.initialized "java/lang/IllegalStateException" :: vx_atS RX8 29 "java/lang/IllegalStateException" tp_up, vx_ot w = true := by decide +kernel
theorem ta_IOB : ∀ w ∈ (vx_atS RX8 172 "java/lang/IndexOutOfBoundsException" tp_up).filter goodWord, w ∈ lw_tbl := by decide +kernel
theorem tb_IOB : ∀ w ∈ (vx_atS RX8 172 "java/lang/IndexOutOfBoundsException" tp_up).filter (fun w => !goodWord w), w ∈ [Cond.castable "java/lang/IndexOutOfBoundsException" "java/lang/IndexOutOfBoundsException", Cond.declares ⟨"java/lang/RuntimeException", "<init>", "(Ljava/lang/String;)V"⟩, Cond.declares ⟨"java/lang/Exception", "<init>", "(Ljava/lang/String;)V"⟩, Cond.declares ⟨"java/lang/Throwable", "<init>", "(Ljava/lang/String;)V"⟩] := by decide +kernel
theorem tt_IOB {args : Array Value} {s : State} (hts : ∀ w ∈ tp_all, w.before args s = true) (hE : tp_E s) : ∀ w ∈ vx_atS RX8 172 "java/lang/IndexOutOfBoundsException" tp_up, w.before args s = true := vx_hat (fun w h => hts w (List.mem_filter.mpr ⟨ta_IOB w h, (List.mem_filter.mp h).2⟩)) tb_IOB (vx_c (va_Nw.use rfl (hE.2.2.2.2.2.1 _ (List.mem_of_getElem? (i := 0) rfl))) (vx_c (va_Nw.use rfl (hE.2.2.2.2.2.2.2 _ (List.mem_of_getElem? (i := 0) rfl))) (vx_c (va_Nw.use rfl (hE.2.2.2.2.2.2.2 _ (List.mem_of_getElem? (i := 1) rfl))) (vx_c (va_Nw.use rfl (hE.2.2.2.2.2.2.2 _ (List.mem_of_getElem? (i := 2) rfl))) vx_n))))
theorem tg_IOB : ∀ w ∈ Cond.classLink RX8 168 "java/lang/IndexOutOfBoundsException" :: Cond.initialized "java/lang/IndexOutOfBoundsException" :: vx_atS RX8 172 "java/lang/IndexOutOfBoundsException" tp_up, vx_ot w = true := by decide +kernel
theorem ta_IAE : ∀ w ∈ (vx_atS RX8 220 "java/lang/IllegalArgumentException" tp_up).filter goodWord, w ∈ lw_tbl := by decide +kernel
theorem tb_IAE : ∀ w ∈ (vx_atS RX8 220 "java/lang/IllegalArgumentException" tp_up).filter (fun w => !goodWord w), w ∈ [Cond.castable "java/lang/IllegalArgumentException" "java/lang/IllegalArgumentException", Cond.declares ⟨"java/lang/RuntimeException", "<init>", "(Ljava/lang/String;)V"⟩, Cond.declares ⟨"java/lang/Exception", "<init>", "(Ljava/lang/String;)V"⟩, Cond.declares ⟨"java/lang/Throwable", "<init>", "(Ljava/lang/String;)V"⟩] := by decide +kernel
theorem tt_IAE {args : Array Value} {s : State} (hts : ∀ w ∈ tp_all, w.before args s = true) (hE : tp_E s) : ∀ w ∈ vx_atS RX8 220 "java/lang/IllegalArgumentException" tp_up, w.before args s = true := vx_hat (fun w h => hts w (List.mem_filter.mpr ⟨ta_IAE w h, (List.mem_filter.mp h).2⟩)) tb_IAE (vx_c (va_Nw.use rfl (hE.2.2.2.2.2.1 _ (List.mem_of_getElem? (i := 1) rfl))) (vx_c (va_Nw.use rfl (hE.2.2.2.2.2.2.2 _ (List.mem_of_getElem? (i := 0) rfl))) (vx_c (va_Nw.use rfl (hE.2.2.2.2.2.2.2 _ (List.mem_of_getElem? (i := 1) rfl))) (vx_c (va_Nw.use rfl (hE.2.2.2.2.2.2.2 _ (List.mem_of_getElem? (i := 2) rfl))) vx_n))))
theorem tg_IAE : ∀ w ∈ Cond.classLink RX8 216 "java/lang/IllegalArgumentException" :: Cond.initialized "java/lang/IllegalArgumentException" :: vx_atS RX8 220 "java/lang/IllegalArgumentException" tp_up, vx_ot w = true := by decide +kernel
end
section
theorem tw_92 : Cond.methodLink RX3 3 ⟨"java/lang/Object", "<init>", "()V"⟩ ∈ tp_all := tp_mem 92 (by decide +kernel) rfl
theorem tw_64 : Cond.instanceMethod ⟨"java/lang/Object", "<init>", "()V"⟩ ∈ tp_all := tp_mem 64 (by decide +kernel) rfl
theorem tw_65 : Cond.code ⟨"java/lang/Object", "<init>", "()V"⟩ object_method_1_code 1 none ∈ tp_all := tp_mem 65 (by decide +kernel) rfl
theorem tw_93 : Cond.methodLink RX3 9 yJ9_max_7cf53 ∈ tp_all := tp_mem 93 (by decide +kernel) rfl
theorem tw_94 : Cond.static yJ9_max_7cf53 ∈ tp_all := tp_mem 94 (by decide +kernel) rfl
theorem tw_43 : Cond.initialized RJ9 ∈ tp_all := tp_mem 43 (by decide +kernel) rfl
theorem tw_95 : Cond.code yJ9_max_7cf53 cJ9_max_7cf53 2 (some .int) ∈ tp_all := tp_mem 95 (by decide +kernel) rfl
theorem tw_105 : Cond.arrayClass .int ∈ tp_all := tp_mem 105 (by decide +kernel) rfl
theorem tw_96 : Cond.fieldLink RX3 15 "Turnpike$Row" "number" "[I" ∈ tp_all := tp_mem 96 (by decide +kernel) rfl
theorem tw_86 : Cond.methodLink RX1 3 ⟨"java/lang/Object", "<init>", "()V"⟩ ∈ tp_all := tp_mem 86 (by decide +kernel) rfl
theorem tw_122 : Cond.fieldLink RX1 9 "Turnpike$Link" "slowTicks" "I" ∈ tp_all := tp_mem 122 (by decide +kernel) rfl
theorem tw_87 : Cond.classLink RX1 15 RX3 ∈ tp_all := tp_mem 87 (by decide +kernel) rfl
theorem tw_88 : Cond.instantiable RX3 2 ∈ tp_all := tp_mem 88 (by decide +kernel) rfl
theorem tw_42 : Cond.initialized RX3 ∈ tp_all := tp_mem 42 (by decide +kernel) rfl
theorem tw_91 : Cond.code yX3_init cX3_init 2 none ∈ tp_all := tp_mem 91 (by decide +kernel) rfl
theorem tw_89 : Cond.methodLink RX1 17 yX3_init ∈ tp_all := tp_mem 89 (by decide +kernel) rfl
theorem tw_90 : Cond.instanceMethod yX3_init ∈ tp_all := tp_mem 90 (by decide +kernel) rfl
theorem tw_130 : Cond.fieldLink RX1 20 "Turnpike$Link" "row" "LTurnpike$Row;" ∈ tp_all := tp_mem 130 (by decide +kernel) rfl
theorem tw_133 : Cond.fieldLink RX1 24 "Turnpike$Link" "ends" "LTurnpike$Row;" ∈ tp_all := tp_mem 133 (by decide +kernel) rfl
theorem tw_142 : Cond.fieldLink RX1 27 "Turnpike$Link" "wentOnto" "[I" ∈ tp_all := tp_mem 142 (by decide +kernel) rfl
theorem tw_218 : Cond.methodLink RX4 3 ⟨"java/lang/Object", "<init>", "()V"⟩ ∈ tp_all := tp_mem 218 (by decide +kernel) rfl
theorem tw_219 : Cond.fieldLink RX4 9 "Turnpike$Signal" "links" "[I" ∈ tp_all := tp_mem 219 (by decide +kernel) rfl
theorem tw_220 : Cond.fieldLink RX4 15 "Turnpike$Signal" "least" "[I" ∈ tp_all := tp_mem 220 (by decide +kernel) rfl
theorem tw_221 : Cond.fieldLink RX4 18 "Turnpike$Signal" "greatest" "[I" ∈ tp_all := tp_mem 221 (by decide +kernel) rfl
theorem tw_225 : Cond.fieldLink RX4 21 "Turnpike$Signal" "phase" "I" ∈ tp_all := tp_mem 225 (by decide +kernel) rfl
theorem tw_247 : Cond.methodLink RX0 1 ⟨"java/lang/Object", "<init>", "()V"⟩ ∈ tp_all := tp_mem 247 (by decide +kernel) rfl
theorem tw_256 : Cond.fieldLink RX0 7 "Turnpike$Flow" "period" "I" ∈ tp_all := tp_mem 256 (by decide +kernel) rfl
theorem tw_301 : Cond.methodLink RX7 3 ⟨"java/lang/Object", "<init>", "()V"⟩ ∈ tp_all := tp_mem 301 (by decide +kernel) rfl
theorem tw_329 : Cond.fieldLink RX7 9 "Turnpike$Vehicle" "way" "[I" ∈ tp_all := tp_mem 329 (by decide +kernel) rfl
theorem tw_206 : Cond.methodLink RX6 3 ⟨"java/lang/Object", "<init>", "()V"⟩ ∈ tp_all := tp_mem 206 (by decide +kernel) rfl
theorem tw_207 : Cond.classLink RX6 9 "[[J" ∈ tp_all := tp_mem 207 (by decide +kernel) rfl
theorem tw_213 : Cond.arrayClass .long ∈ tp_all := tp_mem 213 (by decide +kernel) rfl
theorem tw_209 : Cond.fieldLink RX6 11 "Turnpike$Trails" "words" "[[J" ∈ tp_all := tp_mem 209 (by decide +kernel) rfl
theorem tw_77 : Cond.methodLink RX2 3 ⟨"java/lang/Object", "<init>", "()V"⟩ ∈ tp_all := tp_mem 77 (by decide +kernel) rfl
theorem tw_78 : Cond.classLink RX2 9 RX1 ∈ tp_all := tp_mem 78 (by decide +kernel) rfl
theorem tw_177 : Cond.fieldLink RX2 11 "Turnpike$Roads" "link" "[LTurnpike$Link;" ∈ tp_all := tp_mem 177 (by decide +kernel) rfl
theorem tw_80 : Cond.classLink RX2 17 "[[I" ∈ tp_all := tp_mem 80 (by decide +kernel) rfl
theorem tw_182 : Cond.fieldLink RX2 19 "Turnpike$Roads" "costs" "[[I" ∈ tp_all := tp_mem 182 (by decide +kernel) rfl
theorem tw_82 : Cond.instantiable RX1 16 ∈ tp_all := tp_mem 82 (by decide +kernel) rfl
theorem tw_41 : Cond.initialized RX1 ∈ tp_all := tp_mem 41 (by decide +kernel) rfl
theorem tw_85 : Cond.code yX1_init cX1_init 1 none ∈ tp_all := tp_mem 85 (by decide +kernel) rfl
theorem tw_84 : Cond.instanceMethod yX1_init ∈ tp_all := tp_mem 84 (by decide +kernel) rfl
theorem te_m0 {U : State} (h : tp_E U) : va_Nw (.methodLinkNest "Turnpike$Roads" 22 yX1_init "Turnpike") U := h.2.1 _ (List.mem_of_getElem? (i := 0) rfl)
theorem dX3_init_0 : decode cX3_init 0 = .ok (.aload_n 0, 1) := by decide +kernel
theorem dX3_init_1 : decode cX3_init 1 = .ok (.invokespecial 3, 3) := by decide +kernel
theorem dX3_init_4 : decode cX3_init 4 = .ok (.aload_n 0, 1) := by decide +kernel
theorem dX3_init_5 : decode cX3_init 5 = .ok (.iload_n 1, 1) := by decide +kernel
theorem dX3_init_6 : decode cX3_init 6 = .ok (.iconst 0, 1) := by decide +kernel
theorem dX3_init_7 : decode cX3_init 7 = .ok (.invokestatic 9, 3) := by decide +kernel
theorem dX3_init_10 : decode cX3_init 10 = .ok (.newarray .int, 2) := by decide +kernel
theorem dX3_init_12 : decode cX3_init 12 = .ok (.putfield 15, 3) := by decide +kernel
theorem dX3_init_15 : decode cX3_init 15 = .ok (.return_, 1) := by decide +kernel
theorem dX1_init_0 : decode cX1_init 0 = .ok (.aload_n 0, 1) := by decide +kernel
theorem dX1_init_1 : decode cX1_init 1 = .ok (.invokespecial 3, 3) := by decide +kernel
theorem dX1_init_4 : decode cX1_init 4 = .ok (.aload_n 0, 1) := by decide +kernel
theorem dX1_init_5 : decode cX1_init 5 = .ok (.iconst (-1), 1) := by decide +kernel
theorem dX1_init_6 : decode cX1_init 6 = .ok (.putfield 9, 3) := by decide +kernel
theorem dX1_init_9 : decode cX1_init 9 = .ok (.aload_n 0, 1) := by decide +kernel
theorem dX1_init_10 : decode cX1_init 10 = .ok (.new 15, 3) := by decide +kernel
theorem dX1_init_13 : decode cX1_init 13 = .ok (.dup, 1) := by decide +kernel
theorem dX1_init_14 : decode cX1_init 14 = .ok (.bipush 30, 2) := by decide +kernel
theorem dX1_init_16 : decode cX1_init 16 = .ok (.invokespecial 17, 3) := by decide +kernel
theorem dX1_init_19 : decode cX1_init 19 = .ok (.putfield 20, 3) := by decide +kernel
theorem dX1_init_22 : decode cX1_init 22 = .ok (.aload_n 0, 1) := by decide +kernel
theorem dX1_init_23 : decode cX1_init 23 = .ok (.new 15, 3) := by decide +kernel
theorem dX1_init_26 : decode cX1_init 26 = .ok (.dup, 1) := by decide +kernel
theorem dX1_init_27 : decode cX1_init 27 = .ok (.bipush 30, 2) := by decide +kernel
theorem dX1_init_29 : decode cX1_init 29 = .ok (.invokespecial 17, 3) := by decide +kernel
theorem dX1_init_32 : decode cX1_init 32 = .ok (.putfield 24, 3) := by decide +kernel
theorem dX1_init_35 : decode cX1_init 35 = .ok (.aload_n 0, 1) := by decide +kernel
theorem dX1_init_36 : decode cX1_init 36 = .ok (.bipush 24, 2) := by decide +kernel
theorem dX1_init_38 : decode cX1_init 38 = .ok (.newarray .int, 2) := by decide +kernel
theorem dX1_init_40 : decode cX1_init 40 = .ok (.putfield 27, 3) := by decide +kernel
theorem dX1_init_43 : decode cX1_init 43 = .ok (.return_, 1) := by decide +kernel
theorem dX4_init_0 : decode cX4_init 0 = .ok (.aload_n 0, 1) := by decide +kernel
theorem dX4_init_1 : decode cX4_init 1 = .ok (.invokespecial 3, 3) := by decide +kernel
theorem dX4_init_4 : decode cX4_init 4 = .ok (.aload_n 0, 1) := by decide +kernel
theorem dX4_init_5 : decode cX4_init 5 = .ok (.iconst 4, 1) := by decide +kernel
theorem dX4_init_6 : decode cX4_init 6 = .ok (.newarray .int, 2) := by decide +kernel
theorem dX4_init_8 : decode cX4_init 8 = .ok (.putfield 9, 3) := by decide +kernel
theorem dX4_init_11 : decode cX4_init 11 = .ok (.aload_n 0, 1) := by decide +kernel
theorem dX4_init_12 : decode cX4_init 12 = .ok (.iconst 4, 1) := by decide +kernel
theorem dX4_init_13 : decode cX4_init 13 = .ok (.newarray .int, 2) := by decide +kernel
theorem dX4_init_15 : decode cX4_init 15 = .ok (.putfield 15, 3) := by decide +kernel
theorem dX4_init_18 : decode cX4_init 18 = .ok (.aload_n 0, 1) := by decide +kernel
theorem dX4_init_19 : decode cX4_init 19 = .ok (.iconst 4, 1) := by decide +kernel
theorem dX4_init_20 : decode cX4_init 20 = .ok (.newarray .int, 2) := by decide +kernel
theorem dX4_init_22 : decode cX4_init 22 = .ok (.putfield 18, 3) := by decide +kernel
theorem dX4_init_25 : decode cX4_init 25 = .ok (.aload_n 0, 1) := by decide +kernel
theorem dX4_init_26 : decode cX4_init 26 = .ok (.iconst (-1), 1) := by decide +kernel
theorem dX4_init_27 : decode cX4_init 27 = .ok (.putfield 21, 3) := by decide +kernel
theorem dX4_init_30 : decode cX4_init 30 = .ok (.return_, 1) := by decide +kernel
theorem dX0_init_0 : decode cX0_init 0 = .ok (.aload_n 0, 1) := by decide +kernel
theorem dX0_init_1 : decode cX0_init 1 = .ok (.invokespecial 1, 3) := by decide +kernel
theorem dX0_init_4 : decode cX0_init 4 = .ok (.aload_n 0, 1) := by decide +kernel
theorem dX0_init_5 : decode cX0_init 5 = .ok (.iconst 1, 1) := by decide +kernel
theorem dX0_init_6 : decode cX0_init 6 = .ok (.putfield 7, 3) := by decide +kernel
theorem dX0_init_9 : decode cX0_init 9 = .ok (.return_, 1) := by decide +kernel
theorem dX7_init_0 : decode cX7_init 0 = .ok (.aload_n 0, 1) := by decide +kernel
theorem dX7_init_1 : decode cX7_init 1 = .ok (.invokespecial 3, 3) := by decide +kernel
theorem dX7_init_4 : decode cX7_init 4 = .ok (.aload_n 0, 1) := by decide +kernel
theorem dX7_init_5 : decode cX7_init 5 = .ok (.bipush 11, 2) := by decide +kernel
theorem dX7_init_7 : decode cX7_init 7 = .ok (.newarray .int, 2) := by decide +kernel
theorem dX7_init_9 : decode cX7_init 9 = .ok (.putfield 9, 3) := by decide +kernel
theorem dX7_init_12 : decode cX7_init 12 = .ok (.return_, 1) := by decide +kernel
theorem dX6_init_0 : decode cX6_init 0 = .ok (.aload_n 0, 1) := by decide +kernel
theorem dX6_init_1 : decode cX6_init 1 = .ok (.invokespecial 3, 3) := by decide +kernel
theorem dX6_init_4 : decode cX6_init 4 = .ok (.aload_n 0, 1) := by decide +kernel
theorem dX6_init_5 : decode cX6_init 5 = .ok (.sipush 200, 3) := by decide +kernel
theorem dX6_init_8 : decode cX6_init 8 = .ok (.iconst 1, 1) := by decide +kernel
theorem dX6_init_9 : decode cX6_init 9 = .ok (.multianewarray 9 2, 4) := by decide +kernel
theorem dX6_init_13 : decode cX6_init 13 = .ok (.putfield 11, 3) := by decide +kernel
theorem dX6_init_16 : decode cX6_init 16 = .ok (.return_, 1) := by decide +kernel
theorem dX2_init_0 : decode cX2_init 0 = .ok (.aload_n 0, 1) := by decide +kernel
theorem dX2_init_1 : decode cX2_init 1 = .ok (.invokespecial 3, 3) := by decide +kernel
theorem dX2_init_4 : decode cX2_init 4 = .ok (.aload_n 0, 1) := by decide +kernel
theorem dX2_init_5 : decode cX2_init 5 = .ok (.bipush 24, 2) := by decide +kernel
theorem dX2_init_7 : decode cX2_init 7 = .ok (.anewarray 9, 3) := by decide +kernel
theorem dX2_init_10 : decode cX2_init 10 = .ok (.putfield 11, 3) := by decide +kernel
theorem dX2_init_13 : decode cX2_init 13 = .ok (.aload_n 0, 1) := by decide +kernel
theorem dX2_init_14 : decode cX2_init 14 = .ok (.bipush 12, 2) := by decide +kernel
theorem dX2_init_16 : decode cX2_init 16 = .ok (.bipush 12, 2) := by decide +kernel
theorem dX2_init_18 : decode cX2_init 18 = .ok (.multianewarray 17 2, 4) := by decide +kernel
theorem dX2_init_22 : decode cX2_init 22 = .ok (.putfield 19, 3) := by decide +kernel
theorem dX2_init_25 : decode cX2_init 25 = .ok (.iconst 0, 1) := by decide +kernel
theorem dX2_init_26 : decode cX2_init 26 = .ok (.istore_n 1, 1) := by decide +kernel
theorem dX2_init_27 : decode cX2_init 27 = .ok (.iload_n 1, 1) := by decide +kernel
theorem dX2_init_28 : decode cX2_init 28 = .ok (.bipush 24, 2) := by decide +kernel
theorem dX2_init_30 : decode cX2_init 30 = .ok (.if_icmp .ge 22, 3) := by decide +kernel
theorem dX2_init_52 : decode cX2_init 52 = .ok (.return_, 1) := by decide +kernel
theorem dX2_init_33 : decode cX2_init 33 = .ok (.aload_n 0, 1) := by decide +kernel
theorem dX2_init_34 : decode cX2_init 34 = .ok (.getfield 11, 3) := by decide +kernel
theorem dX2_init_37 : decode cX2_init 37 = .ok (.iload_n 1, 1) := by decide +kernel
theorem dX2_init_38 : decode cX2_init 38 = .ok (.new 9, 3) := by decide +kernel
theorem dX2_init_41 : decode cX2_init 41 = .ok (.dup, 1) := by decide +kernel
theorem dX2_init_42 : decode cX2_init 42 = .ok (.invokespecial 22, 3) := by decide +kernel
theorem dX2_init_45 : decode cX2_init 45 = .ok (.aastore, 1) := by decide +kernel
theorem dX2_init_46 : decode cX2_init 46 = .ok (.iinc 1 1, 3) := by decide +kernel
theorem dX2_init_49 : decode cX2_init 49 = .ok (.goto (-22), 3) := by decide +kernel
set_option maxRecDepth 100000 in
set_option maxHeartbeats 4000000 in
/-- Row(30): a row of 30 places -/
theorem tm_Row_30 (l : Launch) (hst : l.stackTraces = false) (dC : Nat → ClassId) (dI : Nat → Nat → Nat) (cy : Nat → ClassId) (a0 : Nat) (sz : Nat) : Met l yX3_init (tp_w yX3_init cX3_init 2 none) ({ frames := 1, cells := 1, slots := 30, locals := 14 }) (va_Pc [.ref a0, .int 30] (tp_Pre dC dI cy [(a0, .inr (3, [.null, .int 0]))] sz)) (va_Qv (fun _ : Unit => True) (fun (_ : Unit) (t : State) => ∃ (q1 : Nat), tp_Post dC dI (va_A [(a0, .inr (3, [.null, .int 0]))] sz) [(a0, .inr (3, [.ref q1, .int 0]))] t) (va_A [(a0, .inr (3, [.null, .int 0]))] sz)) 1 30 (va_A [(a0, .inr (3, [.null, .int 0]))] sz) := by
  refine Met.ofW (cc := cX3_init) (maxL := 2) (ret := none) (by decide) rfl ?_
  intro p e s m args below meth c s₁ B hml hv
  obtain ⟨rfl, hsz, hP, hK, hD0, hE, hZ⟩ := hv
  have hx := B.exec
  have hb := B.bytes
  have hr := B.returns
  have hts0 := atoms_spec (ws := tp_w yX3_init cX3_init 2 none) B.pre
  have hts : ∀ w ∈ tp_all, w.before _ s = true := fun w h => hts0 w (List.mem_cons_of_mem _ h)
  have hown : s.vm.findClass RX3 = some m.cls := findClass_of_methodNamed B.named
  have hlocks := B.notSynchronized
  have hin : meth.name = "<init>" := (name_of_methodNamed B.named B.method).1
  subst hsz
  have hD := hD0.self (sz := s.heap.size)
  generalize hAe : va_A [(a0, .inr (3, [.null, .int 0]))] s.heap.size = A at hD hZ ⊢
  have hA : ∀ q : Nat, s.heap.size ≤ q → A q := fun q h => by rw [← hAe]; exact Or.inr h
  have hS : va_S A s.heap s.heap [] := va_S.rf
  have hl9 := lv_entry ([.ref a0, .int 30]) (n := 2) (Nat.le_of_ble_eq_true rfl)
  rw [lg_entry_eq]
  generalize (lg_sl ([.ref a0, .int 30]) ++ List.replicate (2 - (lg_sl ([.ref a0, .int 30])).length) Slot.unset).toArray = ls at hl9 ⊢
  have hl : lv_has ls 2 [(0, .ref a0), (1, .int 30)] := hl9
  refine lv_aload_n hx hb dX3_init_0 rfl (lv_at hl 0 rfl) ?_
  refine W.objInit hx hb hown (hts _ tw_92) (hts _ tw_64) (hts _ tw_65) rfl (by rw [hml]; exact hl.1) rfl dX3_init_1 (Nat.le_of_ble_eq_true rfl) (Nat.le_of_ble_eq_true rfl) ?_
  refine W.eq (g2 := F0 m 4 ls []) rfl ?_
  refine lv_aload_n hx hb dX3_init_4 rfl (lv_at hl 0 rfl) ?_
  refine lv_iload_n hx hb dX3_init_5 rfl (lv_at hl 1 rfl) ?_
  refine lv_iconst (v := 0) hx hb dX3_init_6 (by decide) ?_
  refine va_mmax hx hb (hml.trans hl.1.symm) hown (hts _ tw_93) (hts _ tw_94) (hts _ tw_43) (hts _ tw_95) (Nat.le_of_ble_eq_true rfl) (Nat.le_of_ble_eq_true rfl) (Nat.le_of_ble_eq_true rfl) (Nat.le_of_ble_eq_true rfl) dX3_init_7 ?_
  refine va_newa hx hb (atype := .int) (hts _ tw_105) (ty := .int) rfl hK hP hD hS hA (a0 := (30, .inl (fun _ => 0))) (N' := 30) (fun _ => rfl) (by decide) (by decide) (Nat.le_of_ble_eq_true rfl) (Nat.le_of_ble_eq_true rfl) (Nat.le_of_ble_eq_true rfl) dX3_init_10 (fun a_1 k_2 H hK9 hP hD hS => ?_)
  obtain rfl : k_2 = cy 0 := tp_one hK9 10 0 rfl rfl
  have hP : va_P (dC, dI) vwCl [(a0, .inr (3, [.null, .int 0])), (a_1, .inl (cy 0, 30, .inl ((fun _ => 0))))] _ := hP
  have hD : va_D A [(a0, .inr (3, [.null, .int 0])), (a_1, .inl (cy 0, 30, .inl ((fun _ => 0))))] := hD
  refine va_putF (D := (dC, dI)) (ci := 3) (v := .ref a_1) (ty := (.array .int)) (C := RX3) (T := TX3) (N := 2) hx hb hts tl_X3 tyX3 tyX3_ok nmX3 hown hK hP hD hS 0 rfl rfl 0 (by decide) (hts _ tw_96) (fun _ h9 => h9) rfl hin rfl (by decide +kernel) rfl rfl (Nat.le_of_ble_eq_true rfl) dX3_init_12 (fun H locs hP hD hS => ?_)
  have hP : va_P (dC, dI) vwCl [(a0, .inr (3, [.ref a_1, .int 0])), (a_1, .inl (cy 0, 30, .inl ((fun _ => 0))))] _ := hP
  have hD : va_D A [(a0, .inr (3, [.ref a_1, .int 0])), (a_1, .inl (cy 0, 30, .inl ((fun _ => 0))))] := hD
  refine W.widen (k := 1) (n := 30) (Nat.le_of_ble_eq_true rfl) (Nat.le_of_ble_eq_true rfl) ?_
  have hP9 := hP.sub (ws' := [(a0, .inr (3, [.ref a_1, .int 0]))]) [0] rfl
  have hD9 := hD.sub (ws' := [(a0, .inr (3, [.ref a_1, .int 0]))]) [0] (by decide) rfl
  exact W.vret hx hb hr (fun t ht hW => ⟨⟨(), rfl, trivial, ⟨a_1, by rw [ht]; exact hP9, hD9⟩⟩, hS.F ht⟩) hS.2.2 dX3_init_15
set_option maxRecDepth 100000 in
set_option maxHeartbeats 4000000 in
/-- Row(200) -/
theorem tm_Row_200 (l : Launch) (hst : l.stackTraces = false) (dC : Nat → ClassId) (dI : Nat → Nat → Nat) (cy : Nat → ClassId) (a0 : Nat) (sz : Nat) : Met l yX3_init (tp_w yX3_init cX3_init 2 none) ({ frames := 1, cells := 1, slots := 200, locals := 14 }) (va_Pc [.ref a0, .int 200] (tp_Pre dC dI cy [(a0, .inr (3, [.null, .int 0]))] sz)) (va_Qv (fun _ : Unit => True) (fun (_ : Unit) (t : State) => ∃ (q1 : Nat), tp_Post dC dI (va_A [(a0, .inr (3, [.null, .int 0]))] sz) [(a0, .inr (3, [.ref q1, .int 0]))] t) (va_A [(a0, .inr (3, [.null, .int 0]))] sz)) 1 200 (va_A [(a0, .inr (3, [.null, .int 0]))] sz) := by
  refine Met.ofW (cc := cX3_init) (maxL := 2) (ret := none) (by decide) rfl ?_
  intro p e s m args below meth c s₁ B hml hv
  obtain ⟨rfl, hsz, hP, hK, hD0, hE, hZ⟩ := hv
  have hx := B.exec
  have hb := B.bytes
  have hr := B.returns
  have hts0 := atoms_spec (ws := tp_w yX3_init cX3_init 2 none) B.pre
  have hts : ∀ w ∈ tp_all, w.before _ s = true := fun w h => hts0 w (List.mem_cons_of_mem _ h)
  have hown : s.vm.findClass RX3 = some m.cls := findClass_of_methodNamed B.named
  have hlocks := B.notSynchronized
  have hin : meth.name = "<init>" := (name_of_methodNamed B.named B.method).1
  subst hsz
  have hD := hD0.self (sz := s.heap.size)
  generalize hAe : va_A [(a0, .inr (3, [.null, .int 0]))] s.heap.size = A at hD hZ ⊢
  have hA : ∀ q : Nat, s.heap.size ≤ q → A q := fun q h => by rw [← hAe]; exact Or.inr h
  have hS : va_S A s.heap s.heap [] := va_S.rf
  have hl9 := lv_entry ([.ref a0, .int 200]) (n := 2) (Nat.le_of_ble_eq_true rfl)
  rw [lg_entry_eq]
  generalize (lg_sl ([.ref a0, .int 200]) ++ List.replicate (2 - (lg_sl ([.ref a0, .int 200])).length) Slot.unset).toArray = ls at hl9 ⊢
  have hl : lv_has ls 2 [(0, .ref a0), (1, .int 200)] := hl9
  refine lv_aload_n hx hb dX3_init_0 rfl (lv_at hl 0 rfl) ?_
  refine W.objInit hx hb hown (hts _ tw_92) (hts _ tw_64) (hts _ tw_65) rfl (by rw [hml]; exact hl.1) rfl dX3_init_1 (Nat.le_of_ble_eq_true rfl) (Nat.le_of_ble_eq_true rfl) ?_
  refine W.eq (g2 := F0 m 4 ls []) rfl ?_
  refine lv_aload_n hx hb dX3_init_4 rfl (lv_at hl 0 rfl) ?_
  refine lv_iload_n hx hb dX3_init_5 rfl (lv_at hl 1 rfl) ?_
  refine lv_iconst (v := 0) hx hb dX3_init_6 (by decide) ?_
  refine va_mmax hx hb (hml.trans hl.1.symm) hown (hts _ tw_93) (hts _ tw_94) (hts _ tw_43) (hts _ tw_95) (Nat.le_of_ble_eq_true rfl) (Nat.le_of_ble_eq_true rfl) (Nat.le_of_ble_eq_true rfl) (Nat.le_of_ble_eq_true rfl) dX3_init_7 ?_
  refine va_newa hx hb (atype := .int) (hts _ tw_105) (ty := .int) rfl hK hP hD hS hA (a0 := (200, .inl (fun _ => 0))) (N' := 200) (fun _ => rfl) (by decide) (by decide) (Nat.le_of_ble_eq_true rfl) (Nat.le_of_ble_eq_true rfl) (Nat.le_of_ble_eq_true rfl) dX3_init_10 (fun a_1 k_2 H hK9 hP hD hS => ?_)
  obtain rfl : k_2 = cy 0 := tp_one hK9 10 0 rfl rfl
  have hP : va_P (dC, dI) vwCl [(a0, .inr (3, [.null, .int 0])), (a_1, .inl (cy 0, 200, .inl ((fun _ => 0))))] _ := hP
  have hD : va_D A [(a0, .inr (3, [.null, .int 0])), (a_1, .inl (cy 0, 200, .inl ((fun _ => 0))))] := hD
  refine va_putF (D := (dC, dI)) (ci := 3) (v := .ref a_1) (ty := (.array .int)) (C := RX3) (T := TX3) (N := 2) hx hb hts tl_X3 tyX3 tyX3_ok nmX3 hown hK hP hD hS 0 rfl rfl 0 (by decide) (hts _ tw_96) (fun _ h9 => h9) rfl hin rfl (by decide +kernel) rfl rfl (Nat.le_of_ble_eq_true rfl) dX3_init_12 (fun H locs hP hD hS => ?_)
  have hP : va_P (dC, dI) vwCl [(a0, .inr (3, [.ref a_1, .int 0])), (a_1, .inl (cy 0, 200, .inl ((fun _ => 0))))] _ := hP
  have hD : va_D A [(a0, .inr (3, [.ref a_1, .int 0])), (a_1, .inl (cy 0, 200, .inl ((fun _ => 0))))] := hD
  refine W.widen (k := 1) (n := 200) (Nat.le_of_ble_eq_true rfl) (Nat.le_of_ble_eq_true rfl) ?_
  have hP9 := hP.sub (ws' := [(a0, .inr (3, [.ref a_1, .int 0]))]) [0] rfl
  have hD9 := hD.sub (ws' := [(a0, .inr (3, [.ref a_1, .int 0]))]) [0] (by decide) rfl
  exact W.vret hx hb hr (fun t ht hW => ⟨⟨(), rfl, trivial, ⟨a_1, by rw [ht]; exact hP9, hD9⟩⟩, hS.F ht⟩) hS.2.2 dX3_init_15
set_option maxRecDepth 100000 in
set_option maxHeartbeats 4000000 in
/-- Link() -/
theorem tm_Link (l : Launch) (hst : l.stackTraces = false) (dC : Nat → ClassId) (dI : Nat → Nat → Nat) (cy : Nat → ClassId) (a0 : Nat) (sz : Nat) : Met l yX1_init (tp_w yX1_init cX1_init 1 none) ({ frames := 2, cells := 5, slots := 88, locals := 35 }) (va_Pc [.ref a0] (tp_Pre dC dI cy [(a0, .inr (1, [.int 0, .int 0, .int 0, .int 0, .int 0, .int 0, .int 0, .int 0, .int 0, .null, .null, .int 0, .int 0, .int 0, .int 0, .null]))] sz)) (va_Qv (fun _ : Unit => True) (fun (_ : Unit) (t : State) => ∃ (q1 : Nat), ∃ (q2 : Nat), ∃ (q3 : Nat), tp_Post dC dI (va_A [(a0, .inr (1, [.int 0, .int 0, .int 0, .int 0, .int 0, .int 0, .int 0, .int 0, .int 0, .null, .null, .int 0, .int 0, .int 0, .int 0, .null]))] sz) [(a0, .inr (1, [.int 0, .int 0, .int 0, .int 0, .int 0, .int 0, .int ((-1)), .int 0, .int 0, .ref q1, .ref q2, .int 0, .int 0, .int 0, .int 0, .ref q3]))] t) (va_A [(a0, .inr (1, [.int 0, .int 0, .int 0, .int 0, .int 0, .int 0, .int 0, .int 0, .int 0, .null, .null, .int 0, .int 0, .int 0, .int 0, .null]))] sz)) 5 88 (va_A [(a0, .inr (1, [.int 0, .int 0, .int 0, .int 0, .int 0, .int 0, .int 0, .int 0, .int 0, .null, .null, .int 0, .int 0, .int 0, .int 0, .null]))] sz) := by
  refine Met.ofW (cc := cX1_init) (maxL := 1) (ret := none) (by decide) rfl ?_
  intro p e s m args below meth c s₁ B hml hv
  obtain ⟨rfl, hsz, hP, hK, hD0, hE, hZ⟩ := hv
  have hx := B.exec
  have hb := B.bytes
  have hr := B.returns
  have hts0 := atoms_spec (ws := tp_w yX1_init cX1_init 1 none) B.pre
  have hts : ∀ w ∈ tp_all, w.before _ s = true := fun w h => hts0 w (List.mem_cons_of_mem _ h)
  have hown : s.vm.findClass RX1 = some m.cls := findClass_of_methodNamed B.named
  have hlocks := B.notSynchronized
  have hin : meth.name = "<init>" := (name_of_methodNamed B.named B.method).1
  subst hsz
  have hD := hD0.self (sz := s.heap.size)
  generalize hAe : va_A [(a0, .inr (1, [.int 0, .int 0, .int 0, .int 0, .int 0, .int 0, .int 0, .int 0, .int 0, .null, .null, .int 0, .int 0, .int 0, .int 0, .null]))] s.heap.size = A at hD hZ ⊢
  have hA : ∀ q : Nat, s.heap.size ≤ q → A q := fun q h => by rw [← hAe]; exact Or.inr h
  have hS : va_S A s.heap s.heap [] := va_S.rf
  have hl9 := lv_entry ([.ref a0]) (n := 1) (Nat.le_of_ble_eq_true rfl)
  rw [lg_entry_eq]
  generalize (lg_sl ([.ref a0]) ++ List.replicate (1 - (lg_sl ([.ref a0])).length) Slot.unset).toArray = ls at hl9 ⊢
  have hl : lv_has ls 1 [(0, .ref a0)] := hl9
  refine lv_aload_n hx hb dX1_init_0 rfl (lv_at hl 0 rfl) ?_
  refine W.objInit hx hb hown (hts _ tw_86) (hts _ tw_64) (hts _ tw_65) rfl (by rw [hml]; exact hl.1) rfl dX1_init_1 (Nat.le_of_ble_eq_true rfl) (Nat.le_of_ble_eq_true rfl) ?_
  refine W.eq (g2 := F0 m 4 ls []) rfl ?_
  refine lv_aload_n hx hb dX1_init_4 rfl (lv_at hl 0 rfl) ?_
  refine lv_iconst (v := -1) hx hb dX1_init_5 (by decide) ?_
  refine va_put (D := (dC, dI)) (ci := 1) (v := .int ((-1))) (ty := .int) (C := RX1) (T := TX1) (N := 16) hx hb hts tl_X1 tyX1 tyX1_ok nmX1 hown hK hP hD hS 0 rfl rfl 6 (by decide) (hts _ tw_122) (fun _ h9 => h9) rfl (by decide +kernel) rfl rfl (Nat.le_of_ble_eq_true rfl) dX1_init_6 (fun H locs hP hD hS => ?_)
  have hP : va_P (dC, dI) vwCl [(a0, .inr (1, [.int 0, .int 0, .int 0, .int 0, .int 0, .int 0, .int ((-1)), .int 0, .int 0, .null, .null, .int 0, .int 0, .int 0, .int 0, .null]))] _ := hP
  have hD : va_D A [(a0, .inr (1, [.int 0, .int 0, .int 0, .int 0, .int 0, .int 0, .int ((-1)), .int 0, .int 0, .null, .null, .int 0, .int 0, .int 0, .int 0, .null]))] := hD
  refine lv_aload_n hx hb dX1_init_9 rfl (lv_at hl 0 rfl) ?_
  have h8_a_1 : tp_dv 2 tyX3 [.null, .int 0] = true := by decide +kernel
  refine va_new (ci := 3) (fs := [.null, .int 0]) (C := RX3) (T := TX3) (N := 2) hx hb hts tl_X3 tyX3 tyX3_ok hown (hts _ tw_87) (hts _ tw_88) (hts _ tw_42) hK hP hD hS hA rfl (fun j hj => by exact tp_dv_ok h8_a_1 j hj) (Nat.le_of_ble_eq_true rfl) (Nat.le_of_ble_eq_true rfl) dX1_init_10 (fun a_1 H hP hD hS => ?_)
  have hP : va_P (dC, dI) vwCl [(a0, .inr (1, [.int 0, .int 0, .int 0, .int 0, .int 0, .int 0, .int ((-1)), .int 0, .int 0, .null, .null, .int 0, .int 0, .int 0, .int 0, .null])), (a_1, .inr (3, [.null, .int 0]))] _ := hP
  have hD : va_D A [(a0, .inr (1, [.int 0, .int 0, .int 0, .int 0, .int 0, .int 0, .int ((-1)), .int 0, .int 0, .null, .null, .int 0, .int 0, .int 0, .int 0, .null])), (a_1, .inr (3, [.null, .int 0]))] := hD
  refine lv_dup hx hb dX1_init_13 rfl ?_
  refine lv_bipush (v := 30) hx hb dX1_init_14 (by decide) ?_
  have hFc := va_free (wc := [(a_1, .inr (3, [.null, .int 0]))]) hD hS hA [1] rfl
  refine va_callv (va_runI (As := [.int 30]) (rest := [.ref a_1, .ref a0]) ⟨hx, hb, hml, hown, hts⟩ (tm_Row_30 l hst dC dI cy a_1 H.size) (tp_cwI 1 hts tw_89 tw_90 tw_42 tw_91 rfl rfl rfl (by decide +kernel) ⟨Nat.le_of_ble_eq_true rfl, Nat.le_of_ble_eq_true rfl⟩) ⟨tp_blind, fun U hU hW => ⟨rfl, tp_pay hK hP hD hE hZ hS [1] (by decide) rfl hFc U hU hW⟩⟩ rfl rfl hl.1 rfl (lv_room (Nat.le_of_ble_eq_true rfl)) dX1_init_16 ⟨(Nat.le_of_ble_eq_true rfl), (Nat.le_of_ble_eq_true rfl)⟩) hS (fun q _ h => hFc q h) hFc (fun u t H1 locs ht hvm hw hB hz1 hk1 hS => ?_)
  obtain ⟨z_3, hP1, hD1⟩ := hB
  rw [ht] at hP1
  obtain ⟨hP, hD⟩ := va_join (wr := [(a0, .inr (1, [.int 0, .int 0, .int 0, .int 0, .int 0, .int 0, .int ((-1)), .int 0, .int 0, .null, .null, .int 0, .int 0, .int 0, .int 0, .null]))]) (w1 := [(a_1, .inr (3, [.ref z_3, .int 0]))]) hP hD [1] [0] rfl rfl (by decide) (by decide) hk1 hFc hP1 hD1
  generalize H1 = H at hP hS ⊢
  have hP : va_P (dC, dI) vwCl [(a0, .inr (1, [.int 0, .int 0, .int 0, .int 0, .int 0, .int 0, .int ((-1)), .int 0, .int 0, .null, .null, .int 0, .int 0, .int 0, .int 0, .null])), (a_1, .inr (3, [.ref z_3, .int 0]))] _ := hP
  have hD : va_D A [(a0, .inr (1, [.int 0, .int 0, .int 0, .int 0, .int 0, .int 0, .int ((-1)), .int 0, .int 0, .null, .null, .int 0, .int 0, .int 0, .int 0, .null])), (a_1, .inr (3, [.ref z_3, .int 0]))] := hD
  refine va_putF (D := (dC, dI)) (ci := 1) (v := .ref a_1) (ty := (.object "Turnpike$Row")) (C := RX1) (T := TX1) (N := 16) hx hb hts tl_X1 tyX1 tyX1_ok nmX1 hown hK hP hD hS 0 rfl rfl 9 (by decide) (hts _ tw_130) (fun _ h9 => h9) rfl hin rfl (by decide +kernel) rfl rfl (Nat.le_of_ble_eq_true rfl) dX1_init_19 (fun H locs hP hD hS => ?_)
  have hP : va_P (dC, dI) vwCl [(a0, .inr (1, [.int 0, .int 0, .int 0, .int 0, .int 0, .int 0, .int ((-1)), .int 0, .int 0, .ref a_1, .null, .int 0, .int 0, .int 0, .int 0, .null])), (a_1, .inr (3, [.ref z_3, .int 0]))] _ := hP
  have hD : va_D A [(a0, .inr (1, [.int 0, .int 0, .int 0, .int 0, .int 0, .int 0, .int ((-1)), .int 0, .int 0, .ref a_1, .null, .int 0, .int 0, .int 0, .int 0, .null])), (a_1, .inr (3, [.ref z_3, .int 0]))] := hD
  refine lv_aload_n hx hb dX1_init_22 rfl (lv_at hl 0 rfl) ?_
  have h8_a_4 : tp_dv 2 tyX3 [.null, .int 0] = true := by decide +kernel
  refine va_new (ci := 3) (fs := [.null, .int 0]) (C := RX3) (T := TX3) (N := 2) hx hb hts tl_X3 tyX3 tyX3_ok hown (hts _ tw_87) (hts _ tw_88) (hts _ tw_42) hK hP hD hS hA rfl (fun j hj => by exact tp_dv_ok h8_a_4 j hj) (Nat.le_of_ble_eq_true rfl) (Nat.le_of_ble_eq_true rfl) dX1_init_23 (fun a_4 H hP hD hS => ?_)
  have hP : va_P (dC, dI) vwCl [(a0, .inr (1, [.int 0, .int 0, .int 0, .int 0, .int 0, .int 0, .int ((-1)), .int 0, .int 0, .ref a_1, .null, .int 0, .int 0, .int 0, .int 0, .null])), (a_1, .inr (3, [.ref z_3, .int 0])), (a_4, .inr (3, [.null, .int 0]))] _ := hP
  have hD : va_D A [(a0, .inr (1, [.int 0, .int 0, .int 0, .int 0, .int 0, .int 0, .int ((-1)), .int 0, .int 0, .ref a_1, .null, .int 0, .int 0, .int 0, .int 0, .null])), (a_1, .inr (3, [.ref z_3, .int 0])), (a_4, .inr (3, [.null, .int 0]))] := hD
  refine lv_dup hx hb dX1_init_26 rfl ?_
  refine lv_bipush (v := 30) hx hb dX1_init_27 (by decide) ?_
  have hFc := va_free (wc := [(a_4, .inr (3, [.null, .int 0]))]) hD hS hA [2] rfl
  refine va_callv (va_runI (As := [.int 30]) (rest := [.ref a_4, .ref a0]) ⟨hx, hb, hml, hown, hts⟩ (tm_Row_30 l hst dC dI cy a_4 H.size) (tp_cwI 1 hts tw_89 tw_90 tw_42 tw_91 rfl rfl rfl (by decide +kernel) ⟨Nat.le_of_ble_eq_true rfl, Nat.le_of_ble_eq_true rfl⟩) ⟨tp_blind, fun U hU hW => ⟨rfl, tp_pay hK hP hD hE hZ hS [2] (by decide) rfl hFc U hU hW⟩⟩ rfl rfl hl.1 rfl (lv_room (Nat.le_of_ble_eq_true rfl)) dX1_init_29 ⟨(Nat.le_of_ble_eq_true rfl), (Nat.le_of_ble_eq_true rfl)⟩) hS (fun q _ h => hFc q h) hFc (fun u t H1 locs ht hvm hw hB hz1 hk1 hS => ?_)
  obtain ⟨z_6, hP1, hD1⟩ := hB
  rw [ht] at hP1
  obtain ⟨hP, hD⟩ := va_join (wr := [(a0, .inr (1, [.int 0, .int 0, .int 0, .int 0, .int 0, .int 0, .int ((-1)), .int 0, .int 0, .ref a_1, .null, .int 0, .int 0, .int 0, .int 0, .null])), (a_1, .inr (3, [.ref z_3, .int 0]))]) (w1 := [(a_4, .inr (3, [.ref z_6, .int 0]))]) hP hD [2] [0, 1] rfl rfl (by decide) (by decide) hk1 hFc hP1 hD1
  generalize H1 = H at hP hS ⊢
  have hP : va_P (dC, dI) vwCl [(a0, .inr (1, [.int 0, .int 0, .int 0, .int 0, .int 0, .int 0, .int ((-1)), .int 0, .int 0, .ref a_1, .null, .int 0, .int 0, .int 0, .int 0, .null])), (a_1, .inr (3, [.ref z_3, .int 0])), (a_4, .inr (3, [.ref z_6, .int 0]))] _ := hP
  have hD : va_D A [(a0, .inr (1, [.int 0, .int 0, .int 0, .int 0, .int 0, .int 0, .int ((-1)), .int 0, .int 0, .ref a_1, .null, .int 0, .int 0, .int 0, .int 0, .null])), (a_1, .inr (3, [.ref z_3, .int 0])), (a_4, .inr (3, [.ref z_6, .int 0]))] := hD
  refine va_putF (D := (dC, dI)) (ci := 1) (v := .ref a_4) (ty := (.object "Turnpike$Row")) (C := RX1) (T := TX1) (N := 16) hx hb hts tl_X1 tyX1 tyX1_ok nmX1 hown hK hP hD hS 0 rfl rfl 10 (by decide) (hts _ tw_133) (fun _ h9 => h9) rfl hin rfl (by decide +kernel) rfl rfl (Nat.le_of_ble_eq_true rfl) dX1_init_32 (fun H locs hP hD hS => ?_)
  have hP : va_P (dC, dI) vwCl [(a0, .inr (1, [.int 0, .int 0, .int 0, .int 0, .int 0, .int 0, .int ((-1)), .int 0, .int 0, .ref a_1, .ref a_4, .int 0, .int 0, .int 0, .int 0, .null])), (a_1, .inr (3, [.ref z_3, .int 0])), (a_4, .inr (3, [.ref z_6, .int 0]))] _ := hP
  have hD : va_D A [(a0, .inr (1, [.int 0, .int 0, .int 0, .int 0, .int 0, .int 0, .int ((-1)), .int 0, .int 0, .ref a_1, .ref a_4, .int 0, .int 0, .int 0, .int 0, .null])), (a_1, .inr (3, [.ref z_3, .int 0])), (a_4, .inr (3, [.ref z_6, .int 0]))] := hD
  refine lv_aload_n hx hb dX1_init_35 rfl (lv_at hl 0 rfl) ?_
  refine lv_bipush (v := 24) hx hb dX1_init_36 (by decide) ?_
  refine va_newa hx hb (atype := .int) (hts _ tw_105) (ty := .int) rfl hK hP hD hS hA (a0 := (24, .inl (fun _ => 0))) (N' := 24) (fun _ => rfl) (by decide) (by decide) (Nat.le_of_ble_eq_true rfl) (Nat.le_of_ble_eq_true rfl) (Nat.le_of_ble_eq_true rfl) dX1_init_38 (fun a_7 k_8 H hK9 hP hD hS => ?_)
  obtain rfl : k_8 = cy 0 := tp_one hK9 10 0 rfl rfl
  have hP : va_P (dC, dI) vwCl [(a0, .inr (1, [.int 0, .int 0, .int 0, .int 0, .int 0, .int 0, .int ((-1)), .int 0, .int 0, .ref a_1, .ref a_4, .int 0, .int 0, .int 0, .int 0, .null])), (a_1, .inr (3, [.ref z_3, .int 0])), (a_4, .inr (3, [.ref z_6, .int 0])), (a_7, .inl (cy 0, 24, .inl ((fun _ => 0))))] _ := hP
  have hD : va_D A [(a0, .inr (1, [.int 0, .int 0, .int 0, .int 0, .int 0, .int 0, .int ((-1)), .int 0, .int 0, .ref a_1, .ref a_4, .int 0, .int 0, .int 0, .int 0, .null])), (a_1, .inr (3, [.ref z_3, .int 0])), (a_4, .inr (3, [.ref z_6, .int 0])), (a_7, .inl (cy 0, 24, .inl ((fun _ => 0))))] := hD
  refine va_putF (D := (dC, dI)) (ci := 1) (v := .ref a_7) (ty := (.array .int)) (C := RX1) (T := TX1) (N := 16) hx hb hts tl_X1 tyX1 tyX1_ok nmX1 hown hK hP hD hS 0 rfl rfl 15 (by decide) (hts _ tw_142) (fun _ h9 => h9) rfl hin rfl (by decide +kernel) rfl rfl (Nat.le_of_ble_eq_true rfl) dX1_init_40 (fun H locs hP hD hS => ?_)
  have hP : va_P (dC, dI) vwCl [(a0, .inr (1, [.int 0, .int 0, .int 0, .int 0, .int 0, .int 0, .int ((-1)), .int 0, .int 0, .ref a_1, .ref a_4, .int 0, .int 0, .int 0, .int 0, .ref a_7])), (a_1, .inr (3, [.ref z_3, .int 0])), (a_4, .inr (3, [.ref z_6, .int 0])), (a_7, .inl (cy 0, 24, .inl ((fun _ => 0))))] _ := hP
  have hD : va_D A [(a0, .inr (1, [.int 0, .int 0, .int 0, .int 0, .int 0, .int 0, .int ((-1)), .int 0, .int 0, .ref a_1, .ref a_4, .int 0, .int 0, .int 0, .int 0, .ref a_7])), (a_1, .inr (3, [.ref z_3, .int 0])), (a_4, .inr (3, [.ref z_6, .int 0])), (a_7, .inl (cy 0, 24, .inl ((fun _ => 0))))] := hD
  refine W.widen (k := 5) (n := 88) (Nat.le_of_ble_eq_true rfl) (Nat.le_of_ble_eq_true rfl) ?_
  have hP9 := hP.sub (ws' := [(a0, .inr (1, [.int 0, .int 0, .int 0, .int 0, .int 0, .int 0, .int ((-1)), .int 0, .int 0, .ref a_1, .ref a_4, .int 0, .int 0, .int 0, .int 0, .ref a_7]))]) [0] rfl
  have hD9 := hD.sub (ws' := [(a0, .inr (1, [.int 0, .int 0, .int 0, .int 0, .int 0, .int 0, .int ((-1)), .int 0, .int 0, .ref a_1, .ref a_4, .int 0, .int 0, .int 0, .int 0, .ref a_7]))]) [0] (by decide) rfl
  exact W.vret hx hb hr (fun t ht hW => ⟨⟨(), rfl, trivial, ⟨a_1, a_4, a_7, by rw [ht]; exact hP9, hD9⟩⟩, hS.F ht⟩) hS.2.2 dX1_init_43
set_option maxRecDepth 100000 in
set_option maxHeartbeats 4000000 in
/-- Signal() -/
theorem tm_Signal (l : Launch) (hst : l.stackTraces = false) (dC : Nat → ClassId) (dI : Nat → Nat → Nat) (cy : Nat → ClassId) (a0 : Nat) (sz : Nat) : Met l yX4_init (tp_w yX4_init cX4_init 1 none) ({ frames := 1, cells := 3, slots := 12, locals := 12 }) (va_Pc [.ref a0] (tp_Pre dC dI cy [(a0, .inr (4, [.null, .null, .null, .int 0, .int 0, .int 0]))] sz)) (va_Qv (fun _ : Unit => True) (fun (_ : Unit) (t : State) => ∃ (q1 : Nat), ∃ (q2 : Nat), ∃ (q3 : Nat), tp_Post dC dI (va_A [(a0, .inr (4, [.null, .null, .null, .int 0, .int 0, .int 0]))] sz) [(a0, .inr (4, [.ref q1, .ref q2, .ref q3, .int 0, .int ((-1)), .int 0]))] t) (va_A [(a0, .inr (4, [.null, .null, .null, .int 0, .int 0, .int 0]))] sz)) 3 12 (va_A [(a0, .inr (4, [.null, .null, .null, .int 0, .int 0, .int 0]))] sz) := by
  refine Met.ofW (cc := cX4_init) (maxL := 1) (ret := none) (by decide) rfl ?_
  intro p e s m args below meth c s₁ B hml hv
  obtain ⟨rfl, hsz, hP, hK, hD0, hE, hZ⟩ := hv
  have hx := B.exec
  have hb := B.bytes
  have hr := B.returns
  have hts0 := atoms_spec (ws := tp_w yX4_init cX4_init 1 none) B.pre
  have hts : ∀ w ∈ tp_all, w.before _ s = true := fun w h => hts0 w (List.mem_cons_of_mem _ h)
  have hown : s.vm.findClass RX4 = some m.cls := findClass_of_methodNamed B.named
  have hlocks := B.notSynchronized
  have hin : meth.name = "<init>" := (name_of_methodNamed B.named B.method).1
  subst hsz
  have hD := hD0.self (sz := s.heap.size)
  generalize hAe : va_A [(a0, .inr (4, [.null, .null, .null, .int 0, .int 0, .int 0]))] s.heap.size = A at hD hZ ⊢
  have hA : ∀ q : Nat, s.heap.size ≤ q → A q := fun q h => by rw [← hAe]; exact Or.inr h
  have hS : va_S A s.heap s.heap [] := va_S.rf
  have hl9 := lv_entry ([.ref a0]) (n := 1) (Nat.le_of_ble_eq_true rfl)
  rw [lg_entry_eq]
  generalize (lg_sl ([.ref a0]) ++ List.replicate (1 - (lg_sl ([.ref a0])).length) Slot.unset).toArray = ls at hl9 ⊢
  have hl : lv_has ls 1 [(0, .ref a0)] := hl9
  refine lv_aload_n hx hb dX4_init_0 rfl (lv_at hl 0 rfl) ?_
  refine W.objInit hx hb hown (hts _ tw_218) (hts _ tw_64) (hts _ tw_65) rfl (by rw [hml]; exact hl.1) rfl dX4_init_1 (Nat.le_of_ble_eq_true rfl) (Nat.le_of_ble_eq_true rfl) ?_
  refine W.eq (g2 := F0 m 4 ls []) rfl ?_
  refine lv_aload_n hx hb dX4_init_4 rfl (lv_at hl 0 rfl) ?_
  refine lv_iconst (v := 4) hx hb dX4_init_5 (by decide) ?_
  refine va_newa hx hb (atype := .int) (hts _ tw_105) (ty := .int) rfl hK hP hD hS hA (a0 := (4, .inl (fun _ => 0))) (N' := 4) (fun _ => rfl) (by decide) (by decide) (Nat.le_of_ble_eq_true rfl) (Nat.le_of_ble_eq_true rfl) (Nat.le_of_ble_eq_true rfl) dX4_init_6 (fun a_1 k_2 H hK9 hP hD hS => ?_)
  obtain rfl : k_2 = cy 0 := tp_one hK9 10 0 rfl rfl
  have hP : va_P (dC, dI) vwCl [(a0, .inr (4, [.null, .null, .null, .int 0, .int 0, .int 0])), (a_1, .inl (cy 0, 4, .inl ((fun _ => 0))))] _ := hP
  have hD : va_D A [(a0, .inr (4, [.null, .null, .null, .int 0, .int 0, .int 0])), (a_1, .inl (cy 0, 4, .inl ((fun _ => 0))))] := hD
  refine va_putF (D := (dC, dI)) (ci := 4) (v := .ref a_1) (ty := (.array .int)) (C := RX4) (T := TX4) (N := 6) hx hb hts tl_X4 tyX4 tyX4_ok nmX4 hown hK hP hD hS 0 rfl rfl 0 (by decide) (hts _ tw_219) (fun _ h9 => h9) rfl hin rfl (by decide +kernel) rfl rfl (Nat.le_of_ble_eq_true rfl) dX4_init_8 (fun H locs hP hD hS => ?_)
  have hP : va_P (dC, dI) vwCl [(a0, .inr (4, [.ref a_1, .null, .null, .int 0, .int 0, .int 0])), (a_1, .inl (cy 0, 4, .inl ((fun _ => 0))))] _ := hP
  have hD : va_D A [(a0, .inr (4, [.ref a_1, .null, .null, .int 0, .int 0, .int 0])), (a_1, .inl (cy 0, 4, .inl ((fun _ => 0))))] := hD
  refine lv_aload_n hx hb dX4_init_11 rfl (lv_at hl 0 rfl) ?_
  refine lv_iconst (v := 4) hx hb dX4_init_12 (by decide) ?_
  refine va_newa hx hb (atype := .int) (hts _ tw_105) (ty := .int) rfl hK hP hD hS hA (a0 := (4, .inl (fun _ => 0))) (N' := 4) (fun _ => rfl) (by decide) (by decide) (Nat.le_of_ble_eq_true rfl) (Nat.le_of_ble_eq_true rfl) (Nat.le_of_ble_eq_true rfl) dX4_init_13 (fun a_3 k_4 H hK9 hP hD hS => ?_)
  obtain rfl : k_4 = cy 0 := tp_one hK9 10 0 rfl rfl
  have hP : va_P (dC, dI) vwCl [(a0, .inr (4, [.ref a_1, .null, .null, .int 0, .int 0, .int 0])), (a_1, .inl (cy 0, 4, .inl ((fun _ => 0)))), (a_3, .inl (cy 0, 4, .inl ((fun _ => 0))))] _ := hP
  have hD : va_D A [(a0, .inr (4, [.ref a_1, .null, .null, .int 0, .int 0, .int 0])), (a_1, .inl (cy 0, 4, .inl ((fun _ => 0)))), (a_3, .inl (cy 0, 4, .inl ((fun _ => 0))))] := hD
  refine va_putF (D := (dC, dI)) (ci := 4) (v := .ref a_3) (ty := (.array .int)) (C := RX4) (T := TX4) (N := 6) hx hb hts tl_X4 tyX4 tyX4_ok nmX4 hown hK hP hD hS 0 rfl rfl 1 (by decide) (hts _ tw_220) (fun _ h9 => h9) rfl hin rfl (by decide +kernel) rfl rfl (Nat.le_of_ble_eq_true rfl) dX4_init_15 (fun H locs hP hD hS => ?_)
  have hP : va_P (dC, dI) vwCl [(a0, .inr (4, [.ref a_1, .ref a_3, .null, .int 0, .int 0, .int 0])), (a_1, .inl (cy 0, 4, .inl ((fun _ => 0)))), (a_3, .inl (cy 0, 4, .inl ((fun _ => 0))))] _ := hP
  have hD : va_D A [(a0, .inr (4, [.ref a_1, .ref a_3, .null, .int 0, .int 0, .int 0])), (a_1, .inl (cy 0, 4, .inl ((fun _ => 0)))), (a_3, .inl (cy 0, 4, .inl ((fun _ => 0))))] := hD
  refine lv_aload_n hx hb dX4_init_18 rfl (lv_at hl 0 rfl) ?_
  refine lv_iconst (v := 4) hx hb dX4_init_19 (by decide) ?_
  refine va_newa hx hb (atype := .int) (hts _ tw_105) (ty := .int) rfl hK hP hD hS hA (a0 := (4, .inl (fun _ => 0))) (N' := 4) (fun _ => rfl) (by decide) (by decide) (Nat.le_of_ble_eq_true rfl) (Nat.le_of_ble_eq_true rfl) (Nat.le_of_ble_eq_true rfl) dX4_init_20 (fun a_5 k_6 H hK9 hP hD hS => ?_)
  obtain rfl : k_6 = cy 0 := tp_one hK9 10 0 rfl rfl
  have hP : va_P (dC, dI) vwCl [(a0, .inr (4, [.ref a_1, .ref a_3, .null, .int 0, .int 0, .int 0])), (a_1, .inl (cy 0, 4, .inl ((fun _ => 0)))), (a_3, .inl (cy 0, 4, .inl ((fun _ => 0)))), (a_5, .inl (cy 0, 4, .inl ((fun _ => 0))))] _ := hP
  have hD : va_D A [(a0, .inr (4, [.ref a_1, .ref a_3, .null, .int 0, .int 0, .int 0])), (a_1, .inl (cy 0, 4, .inl ((fun _ => 0)))), (a_3, .inl (cy 0, 4, .inl ((fun _ => 0)))), (a_5, .inl (cy 0, 4, .inl ((fun _ => 0))))] := hD
  refine va_putF (D := (dC, dI)) (ci := 4) (v := .ref a_5) (ty := (.array .int)) (C := RX4) (T := TX4) (N := 6) hx hb hts tl_X4 tyX4 tyX4_ok nmX4 hown hK hP hD hS 0 rfl rfl 2 (by decide) (hts _ tw_221) (fun _ h9 => h9) rfl hin rfl (by decide +kernel) rfl rfl (Nat.le_of_ble_eq_true rfl) dX4_init_22 (fun H locs hP hD hS => ?_)
  have hP : va_P (dC, dI) vwCl [(a0, .inr (4, [.ref a_1, .ref a_3, .ref a_5, .int 0, .int 0, .int 0])), (a_1, .inl (cy 0, 4, .inl ((fun _ => 0)))), (a_3, .inl (cy 0, 4, .inl ((fun _ => 0)))), (a_5, .inl (cy 0, 4, .inl ((fun _ => 0))))] _ := hP
  have hD : va_D A [(a0, .inr (4, [.ref a_1, .ref a_3, .ref a_5, .int 0, .int 0, .int 0])), (a_1, .inl (cy 0, 4, .inl ((fun _ => 0)))), (a_3, .inl (cy 0, 4, .inl ((fun _ => 0)))), (a_5, .inl (cy 0, 4, .inl ((fun _ => 0))))] := hD
  refine lv_aload_n hx hb dX4_init_25 rfl (lv_at hl 0 rfl) ?_
  refine lv_iconst (v := -1) hx hb dX4_init_26 (by decide) ?_
  refine va_put (D := (dC, dI)) (ci := 4) (v := .int ((-1))) (ty := .int) (C := RX4) (T := TX4) (N := 6) hx hb hts tl_X4 tyX4 tyX4_ok nmX4 hown hK hP hD hS 0 rfl rfl 4 (by decide) (hts _ tw_225) (fun _ h9 => h9) rfl (by decide +kernel) rfl rfl (Nat.le_of_ble_eq_true rfl) dX4_init_27 (fun H locs hP hD hS => ?_)
  have hP : va_P (dC, dI) vwCl [(a0, .inr (4, [.ref a_1, .ref a_3, .ref a_5, .int 0, .int ((-1)), .int 0])), (a_1, .inl (cy 0, 4, .inl ((fun _ => 0)))), (a_3, .inl (cy 0, 4, .inl ((fun _ => 0)))), (a_5, .inl (cy 0, 4, .inl ((fun _ => 0))))] _ := hP
  have hD : va_D A [(a0, .inr (4, [.ref a_1, .ref a_3, .ref a_5, .int 0, .int ((-1)), .int 0])), (a_1, .inl (cy 0, 4, .inl ((fun _ => 0)))), (a_3, .inl (cy 0, 4, .inl ((fun _ => 0)))), (a_5, .inl (cy 0, 4, .inl ((fun _ => 0))))] := hD
  refine W.widen (k := 3) (n := 12) (Nat.le_of_ble_eq_true rfl) (Nat.le_of_ble_eq_true rfl) ?_
  have hP9 := hP.sub (ws' := [(a0, .inr (4, [.ref a_1, .ref a_3, .ref a_5, .int 0, .int ((-1)), .int 0]))]) [0] rfl
  have hD9 := hD.sub (ws' := [(a0, .inr (4, [.ref a_1, .ref a_3, .ref a_5, .int 0, .int ((-1)), .int 0]))]) [0] (by decide) rfl
  exact W.vret hx hb hr (fun t ht hW => ⟨⟨(), rfl, trivial, ⟨a_1, a_3, a_5, by rw [ht]; exact hP9, hD9⟩⟩, hS.F ht⟩) hS.2.2 dX4_init_30
set_option maxRecDepth 100000 in
set_option maxHeartbeats 4000000 in
/-- Flow() -/
theorem tm_Flow (l : Launch) (hst : l.stackTraces = false) (dC : Nat → ClassId) (dI : Nat → Nat → Nat) (cy : Nat → ClassId) (a0 : Nat) (sz : Nat) : Met l yX0_init (tp_w yX0_init cX0_init 1 none) ({ frames := 1, cells := 0, slots := 0, locals := 12 }) (va_Pc [.ref a0] (tp_Pre dC dI cy [(a0, .inr (0, [.int 0, .int 0, .int 0, .int 0, .int 0, .int 0, .int 0, .int 0, .int 0, .int 0, .int 0, .int 0]))] sz)) (va_Qv (fun _ : Unit => True) (fun (_ : Unit) (t : State) => tp_Post dC dI (va_A [(a0, .inr (0, [.int 0, .int 0, .int 0, .int 0, .int 0, .int 0, .int 0, .int 0, .int 0, .int 0, .int 0, .int 0]))] sz) [(a0, .inr (0, [.int 0, .int 0, .int 0, .int 0, .int 1, .int 0, .int 0, .int 0, .int 0, .int 0, .int 0, .int 0]))] t) (va_A [(a0, .inr (0, [.int 0, .int 0, .int 0, .int 0, .int 0, .int 0, .int 0, .int 0, .int 0, .int 0, .int 0, .int 0]))] sz)) 0 0 (va_A [(a0, .inr (0, [.int 0, .int 0, .int 0, .int 0, .int 0, .int 0, .int 0, .int 0, .int 0, .int 0, .int 0, .int 0]))] sz) := by
  refine Met.ofW (cc := cX0_init) (maxL := 1) (ret := none) (by decide) rfl ?_
  intro p e s m args below meth c s₁ B hml hv
  obtain ⟨rfl, hsz, hP, hK, hD0, hE, hZ⟩ := hv
  have hx := B.exec
  have hb := B.bytes
  have hr := B.returns
  have hts0 := atoms_spec (ws := tp_w yX0_init cX0_init 1 none) B.pre
  have hts : ∀ w ∈ tp_all, w.before _ s = true := fun w h => hts0 w (List.mem_cons_of_mem _ h)
  have hown : s.vm.findClass RX0 = some m.cls := findClass_of_methodNamed B.named
  have hlocks := B.notSynchronized
  have hin : meth.name = "<init>" := (name_of_methodNamed B.named B.method).1
  subst hsz
  have hD := hD0.self (sz := s.heap.size)
  generalize hAe : va_A [(a0, .inr (0, [.int 0, .int 0, .int 0, .int 0, .int 0, .int 0, .int 0, .int 0, .int 0, .int 0, .int 0, .int 0]))] s.heap.size = A at hD hZ ⊢
  have hA : ∀ q : Nat, s.heap.size ≤ q → A q := fun q h => by rw [← hAe]; exact Or.inr h
  have hS : va_S A s.heap s.heap [] := va_S.rf
  have hl9 := lv_entry ([.ref a0]) (n := 1) (Nat.le_of_ble_eq_true rfl)
  rw [lg_entry_eq]
  generalize (lg_sl ([.ref a0]) ++ List.replicate (1 - (lg_sl ([.ref a0])).length) Slot.unset).toArray = ls at hl9 ⊢
  have hl : lv_has ls 1 [(0, .ref a0)] := hl9
  refine lv_aload_n hx hb dX0_init_0 rfl (lv_at hl 0 rfl) ?_
  refine W.objInit hx hb hown (hts _ tw_247) (hts _ tw_64) (hts _ tw_65) rfl (by rw [hml]; exact hl.1) rfl dX0_init_1 (Nat.le_of_ble_eq_true rfl) (Nat.le_of_ble_eq_true rfl) ?_
  refine W.eq (g2 := F0 m 4 ls []) rfl ?_
  refine lv_aload_n hx hb dX0_init_4 rfl (lv_at hl 0 rfl) ?_
  refine lv_iconst (v := 1) hx hb dX0_init_5 (by decide) ?_
  refine va_put (D := (dC, dI)) (ci := 0) (v := .int 1) (ty := .int) (C := RX0) (T := TX0) (N := 12) hx hb hts tl_X0 tyX0 tyX0_ok nmX0 hown hK hP hD hS 0 rfl rfl 4 (by decide) (hts _ tw_256) (fun _ h9 => h9) rfl (by decide +kernel) rfl rfl (Nat.le_of_ble_eq_true rfl) dX0_init_6 (fun H locs hP hD hS => ?_)
  have hP : va_P (dC, dI) vwCl [(a0, .inr (0, [.int 0, .int 0, .int 0, .int 0, .int 1, .int 0, .int 0, .int 0, .int 0, .int 0, .int 0, .int 0]))] _ := hP
  have hD : va_D A [(a0, .inr (0, [.int 0, .int 0, .int 0, .int 0, .int 1, .int 0, .int 0, .int 0, .int 0, .int 0, .int 0, .int 0]))] := hD
  refine W.widen (k := 0) (n := 0) (Nat.le_of_ble_eq_true rfl) (Nat.le_of_ble_eq_true rfl) ?_
  have hP9 := hP.sub (ws' := [(a0, .inr (0, [.int 0, .int 0, .int 0, .int 0, .int 1, .int 0, .int 0, .int 0, .int 0, .int 0, .int 0, .int 0]))]) [0] rfl
  have hD9 := hD.sub (ws' := [(a0, .inr (0, [.int 0, .int 0, .int 0, .int 0, .int 1, .int 0, .int 0, .int 0, .int 0, .int 0, .int 0, .int 0]))]) [0] (by decide) rfl
  exact W.vret hx hb hr (fun t ht hW => ⟨⟨(), rfl, trivial, ⟨by rw [ht]; exact hP9, hD9⟩⟩, hS.F ht⟩) hS.2.2 dX0_init_9
set_option maxRecDepth 100000 in
set_option maxHeartbeats 4000000 in
/-- Vehicle() -/
theorem tm_Vehicle (l : Launch) (hst : l.stackTraces = false) (dC : Nat → ClassId) (dI : Nat → Nat → Nat) (cy : Nat → ClassId) (a0 : Nat) (sz : Nat) : Met l yX7_init (tp_w yX7_init cX7_init 1 none) ({ frames := 1, cells := 1, slots := 11, locals := 12 }) (va_Pc [.ref a0] (tp_Pre dC dI cy [(a0, .inr (7, [.int 0, .int 0, .int 0, .int 0, .int 0, .int 0, .int 0, .int 0, .int 0, .int 0, .int 0, .int 0, .null]))] sz)) (va_Qv (fun _ : Unit => True) (fun (_ : Unit) (t : State) => ∃ (q1 : Nat), tp_Post dC dI (va_A [(a0, .inr (7, [.int 0, .int 0, .int 0, .int 0, .int 0, .int 0, .int 0, .int 0, .int 0, .int 0, .int 0, .int 0, .null]))] sz) [(a0, .inr (7, [.int 0, .int 0, .int 0, .int 0, .int 0, .int 0, .int 0, .int 0, .int 0, .int 0, .int 0, .int 0, .ref q1]))] t) (va_A [(a0, .inr (7, [.int 0, .int 0, .int 0, .int 0, .int 0, .int 0, .int 0, .int 0, .int 0, .int 0, .int 0, .int 0, .null]))] sz)) 1 11 (va_A [(a0, .inr (7, [.int 0, .int 0, .int 0, .int 0, .int 0, .int 0, .int 0, .int 0, .int 0, .int 0, .int 0, .int 0, .null]))] sz) := by
  refine Met.ofW (cc := cX7_init) (maxL := 1) (ret := none) (by decide) rfl ?_
  intro p e s m args below meth c s₁ B hml hv
  obtain ⟨rfl, hsz, hP, hK, hD0, hE, hZ⟩ := hv
  have hx := B.exec
  have hb := B.bytes
  have hr := B.returns
  have hts0 := atoms_spec (ws := tp_w yX7_init cX7_init 1 none) B.pre
  have hts : ∀ w ∈ tp_all, w.before _ s = true := fun w h => hts0 w (List.mem_cons_of_mem _ h)
  have hown : s.vm.findClass RX7 = some m.cls := findClass_of_methodNamed B.named
  have hlocks := B.notSynchronized
  have hin : meth.name = "<init>" := (name_of_methodNamed B.named B.method).1
  subst hsz
  have hD := hD0.self (sz := s.heap.size)
  generalize hAe : va_A [(a0, .inr (7, [.int 0, .int 0, .int 0, .int 0, .int 0, .int 0, .int 0, .int 0, .int 0, .int 0, .int 0, .int 0, .null]))] s.heap.size = A at hD hZ ⊢
  have hA : ∀ q : Nat, s.heap.size ≤ q → A q := fun q h => by rw [← hAe]; exact Or.inr h
  have hS : va_S A s.heap s.heap [] := va_S.rf
  have hl9 := lv_entry ([.ref a0]) (n := 1) (Nat.le_of_ble_eq_true rfl)
  rw [lg_entry_eq]
  generalize (lg_sl ([.ref a0]) ++ List.replicate (1 - (lg_sl ([.ref a0])).length) Slot.unset).toArray = ls at hl9 ⊢
  have hl : lv_has ls 1 [(0, .ref a0)] := hl9
  refine lv_aload_n hx hb dX7_init_0 rfl (lv_at hl 0 rfl) ?_
  refine W.objInit hx hb hown (hts _ tw_301) (hts _ tw_64) (hts _ tw_65) rfl (by rw [hml]; exact hl.1) rfl dX7_init_1 (Nat.le_of_ble_eq_true rfl) (Nat.le_of_ble_eq_true rfl) ?_
  refine W.eq (g2 := F0 m 4 ls []) rfl ?_
  refine lv_aload_n hx hb dX7_init_4 rfl (lv_at hl 0 rfl) ?_
  refine lv_bipush (v := 11) hx hb dX7_init_5 (by decide) ?_
  refine va_newa hx hb (atype := .int) (hts _ tw_105) (ty := .int) rfl hK hP hD hS hA (a0 := (11, .inl (fun _ => 0))) (N' := 11) (fun _ => rfl) (by decide) (by decide) (Nat.le_of_ble_eq_true rfl) (Nat.le_of_ble_eq_true rfl) (Nat.le_of_ble_eq_true rfl) dX7_init_7 (fun a_1 k_2 H hK9 hP hD hS => ?_)
  obtain rfl : k_2 = cy 0 := tp_one hK9 10 0 rfl rfl
  have hP : va_P (dC, dI) vwCl [(a0, .inr (7, [.int 0, .int 0, .int 0, .int 0, .int 0, .int 0, .int 0, .int 0, .int 0, .int 0, .int 0, .int 0, .null])), (a_1, .inl (cy 0, 11, .inl ((fun _ => 0))))] _ := hP
  have hD : va_D A [(a0, .inr (7, [.int 0, .int 0, .int 0, .int 0, .int 0, .int 0, .int 0, .int 0, .int 0, .int 0, .int 0, .int 0, .null])), (a_1, .inl (cy 0, 11, .inl ((fun _ => 0))))] := hD
  refine va_putF (D := (dC, dI)) (ci := 7) (v := .ref a_1) (ty := (.array .int)) (C := RX7) (T := TX7) (N := 13) hx hb hts tl_X7 tyX7 tyX7_ok nmX7 hown hK hP hD hS 0 rfl rfl 12 (by decide) (hts _ tw_329) (fun _ h9 => h9) rfl hin rfl (by decide +kernel) rfl rfl (Nat.le_of_ble_eq_true rfl) dX7_init_9 (fun H locs hP hD hS => ?_)
  have hP : va_P (dC, dI) vwCl [(a0, .inr (7, [.int 0, .int 0, .int 0, .int 0, .int 0, .int 0, .int 0, .int 0, .int 0, .int 0, .int 0, .int 0, .ref a_1])), (a_1, .inl (cy 0, 11, .inl ((fun _ => 0))))] _ := hP
  have hD : va_D A [(a0, .inr (7, [.int 0, .int 0, .int 0, .int 0, .int 0, .int 0, .int 0, .int 0, .int 0, .int 0, .int 0, .int 0, .ref a_1])), (a_1, .inl (cy 0, 11, .inl ((fun _ => 0))))] := hD
  refine W.widen (k := 1) (n := 11) (Nat.le_of_ble_eq_true rfl) (Nat.le_of_ble_eq_true rfl) ?_
  have hP9 := hP.sub (ws' := [(a0, .inr (7, [.int 0, .int 0, .int 0, .int 0, .int 0, .int 0, .int 0, .int 0, .int 0, .int 0, .int 0, .int 0, .ref a_1]))]) [0] rfl
  have hD9 := hD.sub (ws' := [(a0, .inr (7, [.int 0, .int 0, .int 0, .int 0, .int 0, .int 0, .int 0, .int 0, .int 0, .int 0, .int 0, .int 0, .ref a_1]))]) [0] (by decide) rfl
  exact W.vret hx hb hr (fun t ht hW => ⟨⟨(), rfl, trivial, ⟨a_1, by rw [ht]; exact hP9, hD9⟩⟩, hS.F ht⟩) hS.2.2 dX7_init_12
set_option maxRecDepth 100000 in
set_option maxHeartbeats 4000000 in
/-- Trails() -/
theorem tm_Trails (l : Launch) (hst : l.stackTraces = false) (dC : Nat → ClassId) (dI : Nat → Nat → Nat) (cy : Nat → ClassId) (a0 : Nat) (sz : Nat) : Met l yX6_init (tp_w yX6_init cX6_init 1 none) ({ frames := 1, cells := 201, slots := 400, locals := 12 }) (va_Pc [.ref a0] (tp_Pre dC dI cy [(a0, .inr (6, [.null]))] sz)) (va_Qv (fun _ : Unit => True) (fun (_ : Unit) (t : State) => ∃ (q1 : Nat), tp_Post dC dI (va_A [(a0, .inr (6, [.null]))] sz) [(a0, .inr (6, [.ref q1]))] t) (va_A [(a0, .inr (6, [.null]))] sz)) 201 400 (va_A [(a0, .inr (6, [.null]))] sz) := by
  refine Met.ofW (cc := cX6_init) (maxL := 1) (ret := none) (by decide) rfl ?_
  intro p e s m args below meth c s₁ B hml hv
  obtain ⟨rfl, hsz, hP, hK, hD0, hE, hZ⟩ := hv
  have hx := B.exec
  have hb := B.bytes
  have hr := B.returns
  have hts0 := atoms_spec (ws := tp_w yX6_init cX6_init 1 none) B.pre
  have hts : ∀ w ∈ tp_all, w.before _ s = true := fun w h => hts0 w (List.mem_cons_of_mem _ h)
  have hown : s.vm.findClass RX6 = some m.cls := findClass_of_methodNamed B.named
  have hlocks := B.notSynchronized
  have hin : meth.name = "<init>" := (name_of_methodNamed B.named B.method).1
  subst hsz
  have hD := hD0.self (sz := s.heap.size)
  generalize hAe : va_A [(a0, .inr (6, [.null]))] s.heap.size = A at hD hZ ⊢
  have hA : ∀ q : Nat, s.heap.size ≤ q → A q := fun q h => by rw [← hAe]; exact Or.inr h
  have hS : va_S A s.heap s.heap [] := va_S.rf
  have hl9 := lv_entry ([.ref a0]) (n := 1) (Nat.le_of_ble_eq_true rfl)
  rw [lg_entry_eq]
  generalize (lg_sl ([.ref a0]) ++ List.replicate (1 - (lg_sl ([.ref a0])).length) Slot.unset).toArray = ls at hl9 ⊢
  have hl : lv_has ls 1 [(0, .ref a0)] := hl9
  refine lv_aload_n hx hb dX6_init_0 rfl (lv_at hl 0 rfl) ?_
  refine W.objInit hx hb hown (hts _ tw_206) (hts _ tw_64) (hts _ tw_65) rfl (by rw [hml]; exact hl.1) rfl dX6_init_1 (Nat.le_of_ble_eq_true rfl) (Nat.le_of_ble_eq_true rfl) ?_
  refine W.eq (g2 := F0 m 4 ls []) rfl ?_
  refine lv_aload_n hx hb dX6_init_4 rfl (lv_at hl 0 rfl) ?_
  refine lv_sipush (v := 200) hx hb dX6_init_5 (by decide) ?_
  refine lv_iconst (v := 1) hx hb dX6_init_8 (by decide) ?_
  have hP9 : va_P (dC, dI) vwCl ([(a0, .inr (6, [.null]))] ++ va_pl [] (fun _ => .inr (0, []))) s.heap := by simpa [va_pl] using hP
  have hD9 : va_D A ([(a0, .inr (6, [.null]))] ++ va_pl [] (fun _ => .inr (0, []))) := by simpa [va_pl] using hD
  refine va_mna hx hb (own := RX6) (ty := .long) (cy := cy 1) (N' := 200) (K' := 1) (z := (1, .inr (.inl (fun _ => 0)))) hown (by rw [tp_s2J]; exact hts _ tw_207) (hE.2.2.2.1 _ (List.mem_of_getElem? (i := 1) rfl)) (hts _ tw_213) (tp_fcJ hK) hK hP9 hD9 hS hA (by decide) (by decide) (by decide) (by decide) (Nat.le_of_ble_eq_true rfl) (Nat.le_of_ble_eq_true rfl) (Nat.le_of_ble_eq_true rfl) rfl rfl (Nat.le_of_ble_eq_true rfl) (Nat.le_of_ble_eq_true rfl) (fun _ => rfl) dX6_init_9 (fun a_1 r_3 k_2 H _ _ hK9 hP hD hS => ?_)
  obtain rfl : k_2 = cy 9 := tp_one hK9 10 9 rfl rfl
  have hP := tp_first (X := [(a0, .inr (6, [.null])), (a_1, .inl (cy 9, 200, .inr (.inr (.inr (.inr ((fun i => if i < 200 then some (r_3 i) else none)))))))]) hP
  have hD := tp_firstD (X := [(a0, .inr (6, [.null])), (a_1, .inl (cy 9, 200, .inr (.inr (.inr (.inr ((fun i => if i < 200 then some (r_3 i) else none)))))))]) hD
  refine va_putF (D := (dC, dI)) (ci := 6) (v := .ref a_1) (ty := (.array (.array .long))) (C := RX6) (T := TX6) (N := 1) hx hb hts tl_X6 tyX6 tyX6_ok nmX6 hown hK hP hD hS 0 rfl rfl 0 (by decide) (hts _ tw_209) (fun _ h9 => h9) rfl hin rfl (by decide +kernel) rfl rfl (Nat.le_of_ble_eq_true rfl) dX6_init_13 (fun H locs hP hD hS => ?_)
  have hP : va_P (dC, dI) vwCl [(a0, .inr (6, [.ref a_1])), (a_1, .inl (cy 9, 200, .inr (.inr (.inr (.inr ((fun i => if i < 200 then some (r_3 i) else none)))))))] _ := hP
  have hD : va_D A [(a0, .inr (6, [.ref a_1])), (a_1, .inl (cy 9, 200, .inr (.inr (.inr (.inr ((fun i => if i < 200 then some (r_3 i) else none)))))))] := hD
  refine W.widen (k := 201) (n := 400) (Nat.le_of_ble_eq_true rfl) (Nat.le_of_ble_eq_true rfl) ?_
  have hP9 := hP.sub (ws' := [(a0, .inr (6, [.ref a_1]))]) [0] rfl
  have hD9 := hD.sub (ws' := [(a0, .inr (6, [.ref a_1]))]) [0] (by decide) rfl
  exact W.vret hx hb hr (fun t ht hW => ⟨⟨(), rfl, trivial, ⟨a_1, by rw [ht]; exact hP9, hD9⟩⟩, hS.F ht⟩) hS.2.2 dX6_init_16
set_option maxRecDepth 100000 in
set_option maxHeartbeats 4000000 in
/-- Roads() -/
theorem tm_Roads (l : Launch) (hst : l.stackTraces = false) (dC : Nat → ClassId) (dI : Nat → Nat → Nat) (cy : Nat → ClassId) (a0 : Nat) (sz : Nat) : Met l yX2_init (tp_w yX2_init cX2_init 2 none) ({ frames := 3, cells := 158, slots := 2676, locals := 55 }) (va_Pc [.ref a0] (tp_Pre dC dI cy [(a0, .inr (2, [.null, .int 0, .null, .int 0]))] sz)) (va_Qv (fun _ : Unit => True) (fun (_ : Unit) (t : State) => ∃ (q1 : Nat), ∃ (q2 : Nat), tp_Post dC dI (va_A [(a0, .inr (2, [.null, .int 0, .null, .int 0]))] sz) [(a0, .inr (2, [.ref q1, .int 0, .ref q2, .int 0]))] t) (va_A [(a0, .inr (2, [.null, .int 0, .null, .int 0]))] sz)) 158 2676 (va_A [(a0, .inr (2, [.null, .int 0, .null, .int 0]))] sz) := by
  refine Met.ofW (cc := cX2_init) (maxL := 2) (ret := none) (by decide) rfl ?_
  intro p e s m args below meth c s₁ B hml hv
  obtain ⟨rfl, hsz, hP, hK, hD0, hE, hZ⟩ := hv
  have hx := B.exec
  have hb := B.bytes
  have hr := B.returns
  have hts0 := atoms_spec (ws := tp_w yX2_init cX2_init 2 none) B.pre
  have hts : ∀ w ∈ tp_all, w.before _ s = true := fun w h => hts0 w (List.mem_cons_of_mem _ h)
  have hown : s.vm.findClass RX2 = some m.cls := findClass_of_methodNamed B.named
  have hlocks := B.notSynchronized
  have hin : meth.name = "<init>" := (name_of_methodNamed B.named B.method).1
  subst hsz
  have hD := hD0.self (sz := s.heap.size)
  generalize hAe : va_A [(a0, .inr (2, [.null, .int 0, .null, .int 0]))] s.heap.size = A at hD hZ ⊢
  have hA : ∀ q : Nat, s.heap.size ≤ q → A q := fun q h => by rw [← hAe]; exact Or.inr h
  have hS : va_S A s.heap s.heap [] := va_S.rf
  have hl9 := lv_entry ([.ref a0]) (n := 2) (Nat.le_of_ble_eq_true rfl)
  rw [lg_entry_eq]
  generalize (lg_sl ([.ref a0]) ++ List.replicate (2 - (lg_sl ([.ref a0])).length) Slot.unset).toArray = ls at hl9 ⊢
  have hl : lv_has ls 2 [(0, .ref a0)] := hl9
  refine lv_aload_n hx hb dX2_init_0 rfl (lv_at hl 0 rfl) ?_
  refine W.objInit hx hb hown (hts _ tw_77) (hts _ tw_64) (hts _ tw_65) rfl (by rw [hml]; exact hl.1) rfl dX2_init_1 (Nat.le_of_ble_eq_true rfl) (Nat.le_of_ble_eq_true rfl) ?_
  refine W.eq (g2 := F0 m 4 ls []) rfl ?_
  refine lv_aload_n hx hb dX2_init_4 rfl (lv_at hl 0 rfl) ?_
  refine lv_bipush (v := 24) hx hb dX2_init_5 (by decide) ?_
  refine va_newq hx hb (C := RX1) (N' := 24) hown (hts _ tw_78) (hE.2.2.1 _ (List.mem_of_getElem? (i := 0) rfl)) hK hP hD hS hA (by decide) (by decide) (Nat.le_of_ble_eq_true rfl) (Nat.le_of_ble_eq_true rfl) (Nat.le_of_ble_eq_true rfl) dX2_init_7 (fun a_1 k_2 H hK9 hP hD hS => ?_)
  obtain rfl : k_2 = cy 3 := tp_one hK9 10 3 rfl rfl
  have hP : va_P (dC, dI) vwCl [(a0, .inr (2, [.null, .int 0, .null, .int 0])), (a_1, .inl (cy 3, 24, .inr (.inr (.inr (.inr ((fun _ => none)))))))] _ := hP
  have hD : va_D A [(a0, .inr (2, [.null, .int 0, .null, .int 0])), (a_1, .inl (cy 3, 24, .inr (.inr (.inr (.inr ((fun _ => none)))))))] := hD
  refine va_putF (D := (dC, dI)) (ci := 2) (v := .ref a_1) (ty := (.array (.object "Turnpike$Link"))) (C := RX2) (T := TX2) (N := 4) hx hb hts tl_X2 tyX2 tyX2_ok nmX2 hown hK hP hD hS 0 rfl rfl 0 (by decide) (hts _ tw_177) (fun _ h9 => h9) rfl hin rfl (by decide +kernel) rfl rfl (Nat.le_of_ble_eq_true rfl) dX2_init_10 (fun H locs hP hD hS => ?_)
  have hP : va_P (dC, dI) vwCl [(a0, .inr (2, [.ref a_1, .int 0, .null, .int 0])), (a_1, .inl (cy 3, 24, .inr (.inr (.inr (.inr ((fun _ => none)))))))] _ := hP
  have hD : va_D A [(a0, .inr (2, [.ref a_1, .int 0, .null, .int 0])), (a_1, .inl (cy 3, 24, .inr (.inr (.inr (.inr ((fun _ => none)))))))] := hD
  refine lv_aload_n hx hb dX2_init_13 rfl (lv_at hl 0 rfl) ?_
  refine lv_bipush (v := 12) hx hb dX2_init_14 (by decide) ?_
  refine lv_bipush (v := 12) hx hb dX2_init_16 (by decide) ?_
  have hP9 : va_P (dC, dI) vwCl ([(a0, .inr (2, [.ref a_1, .int 0, .null, .int 0])), (a_1, .inl (cy 3, 24, .inr (.inr (.inr (.inr ((fun _ => none)))))))] ++ va_pl [] (fun _ => .inr (0, []))) H := by simpa [va_pl] using hP
  have hD9 : va_D A ([(a0, .inr (2, [.ref a_1, .int 0, .null, .int 0])), (a_1, .inl (cy 3, 24, .inr (.inr (.inr (.inr ((fun _ => none)))))))] ++ va_pl [] (fun _ => .inr (0, []))) := by simpa [va_pl] using hD
  refine va_mna hx hb (own := RX2) (ty := .int) (cy := cy 0) (N' := 12) (K' := 12) (z := (12, .inl (fun _ => 0))) hown (by rw [tp_s2I]; exact hts _ tw_80) (hE.2.2.2.1 _ (List.mem_of_getElem? (i := 0) rfl)) (hts _ tw_105) (tp_fcI hK) hK hP9 hD9 hS hA (by decide) (by decide) (by decide) (by decide) (Nat.le_of_ble_eq_true rfl) (Nat.le_of_ble_eq_true rfl) (Nat.le_of_ble_eq_true rfl) rfl rfl (Nat.le_of_ble_eq_true rfl) (Nat.le_of_ble_eq_true rfl) (fun _ => rfl) dX2_init_18 (fun a_3 r_5 k_4 H _ _ hK9 hP hD hS => ?_)
  obtain rfl : k_4 = cy 8 := tp_one hK9 10 8 rfl rfl
  have hP := tp_first (X := [(a0, .inr (2, [.ref a_1, .int 0, .null, .int 0])), (a_1, .inl (cy 3, 24, .inr (.inr (.inr (.inr ((fun _ => none))))))), (a_3, .inl (cy 8, 12, .inr (.inr (.inr (.inr ((fun i => if i < 12 then some (r_5 i) else none)))))))]) hP
  have hD := tp_firstD (X := [(a0, .inr (2, [.ref a_1, .int 0, .null, .int 0])), (a_1, .inl (cy 3, 24, .inr (.inr (.inr (.inr ((fun _ => none))))))), (a_3, .inl (cy 8, 12, .inr (.inr (.inr (.inr ((fun i => if i < 12 then some (r_5 i) else none)))))))]) hD
  refine va_putF (D := (dC, dI)) (ci := 2) (v := .ref a_3) (ty := (.array (.array .int))) (C := RX2) (T := TX2) (N := 4) hx hb hts tl_X2 tyX2 tyX2_ok nmX2 hown hK hP hD hS 0 rfl rfl 2 (by decide) (hts _ tw_182) (fun _ h9 => h9) rfl hin rfl (by decide +kernel) rfl rfl (Nat.le_of_ble_eq_true rfl) dX2_init_22 (fun H locs hP hD hS => ?_)
  have hP : va_P (dC, dI) vwCl [(a0, .inr (2, [.ref a_1, .int 0, .ref a_3, .int 0])), (a_1, .inl (cy 3, 24, .inr (.inr (.inr (.inr ((fun _ => none))))))), (a_3, .inl (cy 8, 12, .inr (.inr (.inr (.inr ((fun i => if i < 12 then some (r_5 i) else none)))))))] _ := hP
  have hD : va_D A [(a0, .inr (2, [.ref a_1, .int 0, .ref a_3, .int 0])), (a_1, .inl (cy 3, 24, .inr (.inr (.inr (.inr ((fun _ => none))))))), (a_3, .inl (cy 8, 12, .inr (.inr (.inr (.inr ((fun i => if i < 12 then some (r_5 i) else none)))))))] := hD
  refine lv_iconst (v := 0) hx hb dX2_init_25 (by decide) ?_
  refine lv_istore_n (lv' := [(1, .int 0), (0, .ref a0)]) hx hb dX2_init_26 rfl hl (by decide) rfl (fun ls hl => ?_)
  refine W.widen (k := (0 + 1 + 1 + 12) + 6 * 0) (n := (0 + 24 + 12 + 12 * 12) + 104 * 0) (Nat.le_refl _) (Nat.le_refl _) ?_
  refine tp_for 24 (0 + 1 + 1 + 12) 6 (0 + 24 + 12 + 12 * 12) 104 (fun (i : Nat) (x : (Nat → Option Nat)) (H : Heap) (locs : List Loc) (ls : Array Slot) => va_P (dC, dI) vwCl [(a0, .inr (2, [.ref a_1, .int 0, .ref a_3, .int 0])), (a_1, .inl (cy 3, 24, .inr (.inr (.inr (.inr x)))))] H ∧ va_D A [(a0, .inr (2, [.ref a_1, .int 0, .ref a_3, .int 0])), (a_1, .inl (cy 3, 24, .inr (.inr (.inr (.inr x)))))] ∧ va_S A s.heap H locs ∧ lv_has ls 2 [(1, .int (nI i)), (0, .ref a0)]) ?_ ?_ 24 0 rfl ((fun _ => none)) _ _ ls ⟨hP.sub [0, 1] rfl, hD.sub [0, 1] (by decide) rfl, hS, lv_sub hl [0, 1] rfl⟩
  · rintro g1 H locs ls ⟨hP, hD, hS, hl⟩
    have hP : va_P (dC, dI) vwCl [(a0, .inr (2, [.ref a_1, .int 0, .ref a_3, .int 0])), (a_1, .inl (cy 3, 24, .inr (.inr (.inr (.inr g1)))))] _ := hP
    have hD : va_D A [(a0, .inr (2, [.ref a_1, .int 0, .ref a_3, .int 0])), (a_1, .inl (cy 3, 24, .inr (.inr (.inr (.inr g1)))))] := hD
    have hl : lv_has ls 2 [(1, .int (nI 24)), (0, .ref a0)] := hl
    refine lv_iload_n hx hb dX2_init_27 rfl (lv_at hl 0 rfl) ?_
    refine lv_bipush (v := 24) hx hb dX2_init_28 (by decide) ?_
    refine lv_icmp_ge (tgt := 52) hx hb dX2_init_30 (by decide) (fun _ => ?_) (fun c_6 => absurd (by decide) c_6)
    refine W.widen (k := 158) (n := 2676) (by show (0 + 1 + 1 + 12) + 6 * 24 + 0 ≤ 158; omega) (by show (0 + 24 + 12 + 12 * 12) + 104 * 24 + 0 ≤ 2676; omega) ?_
    have hP9 := hP.sub (ws' := [(a0, .inr (2, [.ref a_1, .int 0, .ref a_3, .int 0]))]) [0] rfl
    have hD9 := hD.sub (ws' := [(a0, .inr (2, [.ref a_1, .int 0, .ref a_3, .int 0]))]) [0] (by decide) rfl
    exact W.vret hx hb hr (fun t ht hW => ⟨⟨(), rfl, trivial, ⟨a_1, a_3, by rw [ht]; exact hP9, hD9⟩⟩, hS.F ht⟩) hS.2.2 dX2_init_52
  · rintro i g1 H locs ls hi ⟨hP, hD, hS, hl⟩ ih
    have hP : va_P (dC, dI) vwCl [(a0, .inr (2, [.ref a_1, .int 0, .ref a_3, .int 0])), (a_1, .inl (cy 3, 24, .inr (.inr (.inr (.inr g1)))))] _ := hP
    have hD : va_D A [(a0, .inr (2, [.ref a_1, .int 0, .ref a_3, .int 0])), (a_1, .inl (cy 3, 24, .inr (.inr (.inr (.inr g1)))))] := hD
    have hl : lv_has ls 2 [(1, .int (nI i)), (0, .ref a0)] := hl
    refine lv_iload_n hx hb dX2_init_27 rfl (lv_at hl 0 rfl) ?_
    refine lv_bipush (v := 24) hx hb dX2_init_28 (by decide) ?_
    refine lv_icmp_ge (tgt := 52) hx hb dX2_init_30 (by decide) (fun c_7 => absurd c_7 (show ¬ (24 : Int32) ≤ nI i from nI_ge hi (by decide))) (fun _ => ?_)
    refine lv_aload_n hx hb dX2_init_33 rfl (lv_at hl 1 rfl) ?_
    refine va_get (D := (dC, dI)) (ci := 2) (v := .ref a_1) (C := RX2) (T := TX2) (N := 4) hx hb hts tl_X2 hown hK hP 0 rfl rfl 0 (by decide) (hts _ tw_177) (fun _ h9 => h9) rfl dX2_init_34 ?_
    refine lv_iload_n hx hb dX2_init_37 rfl (lv_at hl 0 rfl) ?_
    have h8_a_8 : tp_dv 16 tyX1 [.int 0, .int 0, .int 0, .int 0, .int 0, .int 0, .int 0, .int 0, .int 0, .null, .null, .int 0, .int 0, .int 0, .int 0, .null] = true := by decide +kernel
    refine va_new (ci := 1) (fs := [.int 0, .int 0, .int 0, .int 0, .int 0, .int 0, .int 0, .int 0, .int 0, .null, .null, .int 0, .int 0, .int 0, .int 0, .null]) (C := RX1) (T := TX1) (N := 16) hx hb hts tl_X1 tyX1 tyX1_ok hown (hts _ tw_78) (hts _ tw_82) (hts _ tw_41) hK hP hD hS hA rfl (fun j hj => by exact tp_dv_ok h8_a_8 j hj) (by show (0 + 1 + 1 + 12) + 6 * i + 1 ≤ 158; omega) (by show (0 + 24 + 12 + 12 * 12) + 104 * i + 16 ≤ 2676; omega) dX2_init_38 (fun a_8 H hP hD hS => ?_)
    have hP : va_P (dC, dI) vwCl [(a0, .inr (2, [.ref a_1, .int 0, .ref a_3, .int 0])), (a_1, .inl (cy 3, 24, .inr (.inr (.inr (.inr g1))))), (a_8, .inr (1, [.int 0, .int 0, .int 0, .int 0, .int 0, .int 0, .int 0, .int 0, .int 0, .null, .null, .int 0, .int 0, .int 0, .int 0, .null]))] _ := hP
    have hD : va_D A [(a0, .inr (2, [.ref a_1, .int 0, .ref a_3, .int 0])), (a_1, .inl (cy 3, 24, .inr (.inr (.inr (.inr g1))))), (a_8, .inr (1, [.int 0, .int 0, .int 0, .int 0, .int 0, .int 0, .int 0, .int 0, .int 0, .null, .null, .int 0, .int 0, .int 0, .int 0, .null]))] := hD
    refine lv_dup hx hb dX2_init_41 rfl ?_
    have hFc := va_free (wc := [(a_8, .inr (1, [.int 0, .int 0, .int 0, .int 0, .int 0, .int 0, .int 0, .int 0, .int 0, .null, .null, .int 0, .int 0, .int 0, .int 0, .null]))]) hD hS hA [2] rfl
    refine va_callv (va_runIN (As := []) (rest := [.ref a_8, .int (nI i), .ref a_1]) ⟨hx, hb, hml, hown, hts⟩ (tm_Link l hst dC dI cy a_8 H.size) ⟨tp_cnB 0 hts (te_m0 hE) tw_41 tw_85 rfl rfl (by decide +kernel) ⟨Nat.le_of_ble_eq_true rfl, Nat.le_of_ble_eq_true rfl⟩, rfl, hts _ tw_84⟩ ⟨tp_blind, fun U hU hW => ⟨rfl, tp_pay hK hP hD hE hZ hS [2] (by decide) rfl hFc U hU hW⟩⟩ rfl rfl hl.1 rfl (lv_room (Nat.le_of_ble_eq_true rfl)) dX2_init_42 ⟨(by show (0 + 1 + 1 + 12) + 6 * i + 1 + 5 ≤ 158; omega), (by show (0 + 24 + 12 + 12 * 12) + 104 * i + 16 + 88 ≤ 2676; omega)⟩) hS (fun q _ h => hFc q h) hFc (fun u t H1 locs ht hvm hw hB hz1 hk1 hS => ?_)
    obtain ⟨z_10, z_11, z_12, hP1, hD1⟩ := hB
    rw [ht] at hP1
    obtain ⟨hP, hD⟩ := va_join (wr := [(a0, .inr (2, [.ref a_1, .int 0, .ref a_3, .int 0])), (a_1, .inl (cy 3, 24, .inr (.inr (.inr (.inr g1)))))]) (w1 := [(a_8, .inr (1, [.int 0, .int 0, .int 0, .int 0, .int 0, .int 0, .int ((-1)), .int 0, .int 0, .ref z_10, .ref z_11, .int 0, .int 0, .int 0, .int 0, .ref z_12]))]) hP hD [2] [0, 1] rfl rfl (by decide) (by decide) hk1 hFc hP1 hD1
    generalize H1 = H at hP hS ⊢
    have hP : va_P (dC, dI) vwCl [(a0, .inr (2, [.ref a_1, .int 0, .ref a_3, .int 0])), (a_1, .inl (cy 3, 24, .inr (.inr (.inr (.inr g1))))), (a_8, .inr (1, [.int 0, .int 0, .int 0, .int 0, .int 0, .int 0, .int ((-1)), .int 0, .int 0, .ref z_10, .ref z_11, .int 0, .int 0, .int 0, .int 0, .ref z_12]))] _ := hP
    have hD : va_D A [(a0, .inr (2, [.ref a_1, .int 0, .ref a_3, .int 0])), (a_1, .inl (cy 3, 24, .inr (.inr (.inr (.inr g1))))), (a_8, .inr (1, [.int 0, .int 0, .int 0, .int 0, .int 0, .int 0, .int ((-1)), .int 0, .int 0, .ref z_10, .ref z_11, .int 0, .int 0, .int 0, .int 0, .ref z_12]))] := hD
    refine va_astq hx hb hK hP hD hS 1 3 2 1 rfl rfl rfl rfl (vp_in_nI hi (by decide)) dX2_init_45 (fun H locs hP hD hS => ?_)
    have hP : va_P (dC, dI) vwCl [(a0, .inr (2, [.ref a_1, .int 0, .ref a_3, .int 0])), (a_1, .inl (cy 3, 24, .inr (.inr (.inr (.inr (va_up g1 (nI i : Int32).toNatClampNeg (some a_8))))))), (a_8, .inr (1, [.int 0, .int 0, .int 0, .int 0, .int 0, .int 0, .int ((-1)), .int 0, .int 0, .ref z_10, .ref z_11, .int 0, .int 0, .int 0, .int 0, .ref z_12]))] _ := hP
    have hD : va_D A [(a0, .inr (2, [.ref a_1, .int 0, .ref a_3, .int 0])), (a_1, .inl (cy 3, 24, .inr (.inr (.inr (.inr (va_up g1 (nI i : Int32).toNatClampNeg (some a_8))))))), (a_8, .inr (1, [.int 0, .int 0, .int 0, .int 0, .int 0, .int 0, .int ((-1)), .int 0, .int 0, .ref z_10, .ref z_11, .int 0, .int 0, .int 0, .int 0, .ref z_12]))] := hD
    refine lv_iinc (v := nI (i + 1)) (lv' := [(1, .int (nI (i + 1))), (0, .ref a0)]) hx hb dX2_init_46 hl (k := 0) rfl (nI_1 i) (by decide) rfl (fun ls hl => ?_)
    refine lv_goto (tgt := 27) hx hb dX2_init_49 (by decide) ?_
    refine W.widen (k := (0 + 1 + 1 + 12) + 6 * (i + 1)) (n := (0 + 24 + 12 + 12 * 12) + 104 * (i + 1)) (by omega) (by omega) ?_
    exact ih (va_up g1 (nI i : Int32).toNatClampNeg (some a_8)) _ _ ls ⟨hP.sub [0, 1] rfl, hD.sub [0, 1] (by decide) rfl, hS, lv_sub hl [0, 1] rfl⟩
end
section
theorem tw_71 : Cond.methodLink RX5 3 ⟨"java/lang/Object", "<init>", "()V"⟩ ∈ tp_all := tp_mem 71 (by decide +kernel) rfl
theorem tw_72 : Cond.classLink RX5 9 RX2 ∈ tp_all := tp_mem 72 (by decide +kernel) rfl
theorem tw_73 : Cond.instantiable RX2 4 ∈ tp_all := tp_mem 73 (by decide +kernel) rfl
theorem tw_40 : Cond.initialized RX2 ∈ tp_all := tp_mem 40 (by decide +kernel) rfl
theorem tw_76 : Cond.code yX2_init cX2_init 2 none ∈ tp_all := tp_mem 76 (by decide +kernel) rfl
theorem tw_74 : Cond.methodLink RX5 11 yX2_init ∈ tp_all := tp_mem 74 (by decide +kernel) rfl
theorem tw_75 : Cond.instanceMethod yX2_init ∈ tp_all := tp_mem 75 (by decide +kernel) rfl
theorem tw_357 : Cond.fieldLink RX5 12 "Turnpike$Traffic" "roads" "LTurnpike$Roads;" ∈ tp_all := tp_mem 357 (by decide +kernel) rfl
theorem tw_193 : Cond.classLink RX5 18 RX4 ∈ tp_all := tp_mem 193 (by decide +kernel) rfl
theorem tw_359 : Cond.fieldLink RX5 20 "Turnpike$Traffic" "signal" "[LTurnpike$Signal;" ∈ tp_all := tp_mem 359 (by decide +kernel) rfl
theorem tw_195 : Cond.classLink RX5 24 RX3 ∈ tp_all := tp_mem 195 (by decide +kernel) rfl
theorem tw_361 : Cond.fieldLink RX5 26 "Turnpike$Traffic" "row" "[LTurnpike$Row;" ∈ tp_all := tp_mem 361 (by decide +kernel) rfl
theorem tw_197 : Cond.classLink RX5 30 RX0 ∈ tp_all := tp_mem 197 (by decide +kernel) rfl
theorem tw_363 : Cond.fieldLink RX5 32 "Turnpike$Traffic" "flow" "[LTurnpike$Flow;" ∈ tp_all := tp_mem 363 (by decide +kernel) rfl
theorem tw_199 : Cond.classLink RX5 36 RX7 ∈ tp_all := tp_mem 199 (by decide +kernel) rfl
theorem tw_365 : Cond.fieldLink RX5 38 "Turnpike$Traffic" "vehicle" "[LTurnpike$Vehicle;" ∈ tp_all := tp_mem 365 (by decide +kernel) rfl
theorem tw_371 : Cond.fieldLink RX5 42 "Turnpike$Traffic" "refresh" "I" ∈ tp_all := tp_mem 371 (by decide +kernel) rfl
theorem tw_201 : Cond.classLink RX5 46 RX6 ∈ tp_all := tp_mem 201 (by decide +kernel) rfl
theorem tw_202 : Cond.instantiable RX6 1 ∈ tp_all := tp_mem 202 (by decide +kernel) rfl
theorem tw_44 : Cond.initialized RX6 ∈ tp_all := tp_mem 44 (by decide +kernel) rfl
theorem tw_205 : Cond.code yX6_init cX6_init 1 none ∈ tp_all := tp_mem 205 (by decide +kernel) rfl
theorem tw_204 : Cond.instanceMethod yX6_init ∈ tp_all := tp_mem 204 (by decide +kernel) rfl
theorem tw_367 : Cond.fieldLink RX5 49 "Turnpike$Traffic" "trails" "LTurnpike$Trails;" ∈ tp_all := tp_mem 367 (by decide +kernel) rfl
theorem tw_297 : Cond.instantiable RX7 13 ∈ tp_all := tp_mem 297 (by decide +kernel) rfl
theorem tw_47 : Cond.initialized RX7 ∈ tp_all := tp_mem 47 (by decide +kernel) rfl
theorem tw_300 : Cond.code yX7_init cX7_init 1 none ∈ tp_all := tp_mem 300 (by decide +kernel) rfl
theorem tw_299 : Cond.instanceMethod yX7_init ∈ tp_all := tp_mem 299 (by decide +kernel) rfl
theorem tw_243 : Cond.instantiable RX0 12 ∈ tp_all := tp_mem 243 (by decide +kernel) rfl
theorem tw_46 : Cond.initialized RX0 ∈ tp_all := tp_mem 46 (by decide +kernel) rfl
theorem tw_246 : Cond.code yX0_init cX0_init 1 none ∈ tp_all := tp_mem 246 (by decide +kernel) rfl
theorem tw_245 : Cond.instanceMethod yX0_init ∈ tp_all := tp_mem 245 (by decide +kernel) rfl
theorem tw_214 : Cond.instantiable RX4 6 ∈ tp_all := tp_mem 214 (by decide +kernel) rfl
theorem tw_45 : Cond.initialized RX4 ∈ tp_all := tp_mem 45 (by decide +kernel) rfl
theorem tw_217 : Cond.code yX4_init cX4_init 1 none ∈ tp_all := tp_mem 217 (by decide +kernel) rfl
theorem tw_216 : Cond.instanceMethod yX4_init ∈ tp_all := tp_mem 216 (by decide +kernel) rfl
theorem tw_242 : Cond.methodLink RX5 54 yX3_init ∈ tp_all := tp_mem 242 (by decide +kernel) rfl
theorem tw_63 : Cond.methodLink RX8 1 ⟨"java/lang/Object", "<init>", "()V"⟩ ∈ tp_all := tp_mem 63 (by decide +kernel) rfl
theorem tw_66 : Cond.classLink RX8 7 RX5 ∈ tp_all := tp_mem 66 (by decide +kernel) rfl
theorem tw_67 : Cond.instantiable RX5 12 ∈ tp_all := tp_mem 67 (by decide +kernel) rfl
theorem tw_39 : Cond.initialized RX5 ∈ tp_all := tp_mem 39 (by decide +kernel) rfl
theorem tw_70 : Cond.code yX5_init cX5_init 3 none ∈ tp_all := tp_mem 70 (by decide +kernel) rfl
theorem tw_68 : Cond.methodLink RX8 9 yX5_init ∈ tp_all := tp_mem 68 (by decide +kernel) rfl
theorem tw_69 : Cond.instanceMethod yX5_init ∈ tp_all := tp_mem 69 (by decide +kernel) rfl
theorem tw_406 : Cond.fieldLink RX8 12 "Turnpike" "now" "LTurnpike$Traffic;" ∈ tp_all := tp_mem 406 (by decide +kernel) rfl
theorem tw_407 : Cond.fieldLink RX8 18 "Turnpike" "trial" "LTurnpike$Traffic;" ∈ tp_all := tp_mem 407 (by decide +kernel) rfl
theorem te_m1 {U : State} (h : tp_E U) : va_Nw (.methodLinkNest "Turnpike$Traffic" 48 yX6_init "Turnpike") U := h.2.1 _ (List.mem_of_getElem? (i := 1) rfl)
theorem te_m4 {U : State} (h : tp_E U) : va_Nw (.methodLinkNest "Turnpike$Traffic" 58 yX7_init "Turnpike") U := h.2.1 _ (List.mem_of_getElem? (i := 4) rfl)
theorem te_m3 {U : State} (h : tp_E U) : va_Nw (.methodLinkNest "Turnpike$Traffic" 57 yX0_init "Turnpike") U := h.2.1 _ (List.mem_of_getElem? (i := 3) rfl)
theorem te_m2 {U : State} (h : tp_E U) : va_Nw (.methodLinkNest "Turnpike$Traffic" 53 yX4_init "Turnpike") U := h.2.1 _ (List.mem_of_getElem? (i := 2) rfl)
theorem dX5_init_0 : decode cX5_init 0 = .ok (.aload_n 0, 1) := by decide +kernel
theorem dX5_init_1 : decode cX5_init 1 = .ok (.invokespecial 3, 3) := by decide +kernel
theorem dX5_init_4 : decode cX5_init 4 = .ok (.aload_n 0, 1) := by decide +kernel
theorem dX5_init_5 : decode cX5_init 5 = .ok (.new 9, 3) := by decide +kernel
theorem dX5_init_8 : decode cX5_init 8 = .ok (.dup, 1) := by decide +kernel
theorem dX5_init_9 : decode cX5_init 9 = .ok (.invokespecial 11, 3) := by decide +kernel
theorem dX5_init_12 : decode cX5_init 12 = .ok (.putfield 12, 3) := by decide +kernel
theorem dX5_init_15 : decode cX5_init 15 = .ok (.aload_n 0, 1) := by decide +kernel
theorem dX5_init_16 : decode cX5_init 16 = .ok (.bipush 12, 2) := by decide +kernel
theorem dX5_init_18 : decode cX5_init 18 = .ok (.anewarray 18, 3) := by decide +kernel
theorem dX5_init_21 : decode cX5_init 21 = .ok (.putfield 20, 3) := by decide +kernel
theorem dX5_init_24 : decode cX5_init 24 = .ok (.aload_n 0, 1) := by decide +kernel
theorem dX5_init_25 : decode cX5_init 25 = .ok (.bipush 12, 2) := by decide +kernel
theorem dX5_init_27 : decode cX5_init 27 = .ok (.anewarray 24, 3) := by decide +kernel
theorem dX5_init_30 : decode cX5_init 30 = .ok (.putfield 26, 3) := by decide +kernel
theorem dX5_init_33 : decode cX5_init 33 = .ok (.aload_n 0, 1) := by decide +kernel
theorem dX5_init_34 : decode cX5_init 34 = .ok (.bipush 10, 2) := by decide +kernel
theorem dX5_init_36 : decode cX5_init 36 = .ok (.anewarray 30, 3) := by decide +kernel
theorem dX5_init_39 : decode cX5_init 39 = .ok (.putfield 32, 3) := by decide +kernel
theorem dX5_init_42 : decode cX5_init 42 = .ok (.aload_n 0, 1) := by decide +kernel
theorem dX5_init_43 : decode cX5_init 43 = .ok (.sipush 200, 3) := by decide +kernel
theorem dX5_init_46 : decode cX5_init 46 = .ok (.anewarray 36, 3) := by decide +kernel
theorem dX5_init_49 : decode cX5_init 49 = .ok (.putfield 38, 3) := by decide +kernel
theorem dX5_init_52 : decode cX5_init 52 = .ok (.aload_n 0, 1) := by decide +kernel
theorem dX5_init_53 : decode cX5_init 53 = .ok (.iconst 1, 1) := by decide +kernel
theorem dX5_init_54 : decode cX5_init 54 = .ok (.putfield 42, 3) := by decide +kernel
theorem dX5_init_57 : decode cX5_init 57 = .ok (.aload_n 0, 1) := by decide +kernel
theorem dX5_init_58 : decode cX5_init 58 = .ok (.iload_n 1, 1) := by decide +kernel
theorem dX5_init_59 : decode cX5_init 59 = .ok (.ifCond .eq 13, 3) := by decide +kernel
theorem dX5_init_62 : decode cX5_init 62 = .ok (.new 46, 3) := by decide +kernel
theorem dX5_init_65 : decode cX5_init 65 = .ok (.dup, 1) := by decide +kernel
theorem dX5_init_66 : decode cX5_init 66 = .ok (.invokespecial 48, 3) := by decide +kernel
theorem dX5_init_69 : decode cX5_init 69 = .ok (.goto 4, 3) := by decide +kernel
theorem dX5_init_73 : decode cX5_init 73 = .ok (.putfield 49, 3) := by decide +kernel
theorem dX5_init_76 : decode cX5_init 76 = .ok (.iconst 0, 1) := by decide +kernel
theorem dX5_init_77 : decode cX5_init 77 = .ok (.istore_n 2, 1) := by decide +kernel
theorem dX5_init_78 : decode cX5_init 78 = .ok (.iload_n 2, 1) := by decide +kernel
theorem dX5_init_79 : decode cX5_init 79 = .ok (.bipush 12, 2) := by decide +kernel
theorem dX5_init_81 : decode cX5_init 81 = .ok (.if_icmp .ge 38, 3) := by decide +kernel
theorem dX5_init_119 : decode cX5_init 119 = .ok (.iconst 0, 1) := by decide +kernel
theorem dX5_init_120 : decode cX5_init 120 = .ok (.istore_n 2, 1) := by decide +kernel
theorem dX5_init_121 : decode cX5_init 121 = .ok (.iload_n 2, 1) := by decide +kernel
theorem dX5_init_122 : decode cX5_init 122 = .ok (.bipush 10, 2) := by decide +kernel
theorem dX5_init_124 : decode cX5_init 124 = .ok (.if_icmp .ge 22, 3) := by decide +kernel
theorem dX5_init_146 : decode cX5_init 146 = .ok (.iconst 0, 1) := by decide +kernel
theorem dX5_init_147 : decode cX5_init 147 = .ok (.istore_n 2, 1) := by decide +kernel
theorem dX5_init_148 : decode cX5_init 148 = .ok (.iload_n 2, 1) := by decide +kernel
theorem dX5_init_149 : decode cX5_init 149 = .ok (.sipush 200, 3) := by decide +kernel
theorem dX5_init_152 : decode cX5_init 152 = .ok (.if_icmp .ge 22, 3) := by decide +kernel
theorem dX5_init_174 : decode cX5_init 174 = .ok (.return_, 1) := by decide +kernel
theorem dX5_init_155 : decode cX5_init 155 = .ok (.aload_n 0, 1) := by decide +kernel
theorem dX5_init_156 : decode cX5_init 156 = .ok (.getfield 38, 3) := by decide +kernel
theorem dX5_init_159 : decode cX5_init 159 = .ok (.iload_n 2, 1) := by decide +kernel
theorem dX5_init_160 : decode cX5_init 160 = .ok (.new 36, 3) := by decide +kernel
theorem dX5_init_163 : decode cX5_init 163 = .ok (.dup, 1) := by decide +kernel
theorem dX5_init_164 : decode cX5_init 164 = .ok (.invokespecial 58, 3) := by decide +kernel
theorem dX5_init_167 : decode cX5_init 167 = .ok (.aastore, 1) := by decide +kernel
theorem dX5_init_168 : decode cX5_init 168 = .ok (.iinc 2 1, 3) := by decide +kernel
theorem dX5_init_171 : decode cX5_init 171 = .ok (.goto (-23), 3) := by decide +kernel
theorem dX5_init_127 : decode cX5_init 127 = .ok (.aload_n 0, 1) := by decide +kernel
theorem dX5_init_128 : decode cX5_init 128 = .ok (.getfield 32, 3) := by decide +kernel
theorem dX5_init_131 : decode cX5_init 131 = .ok (.iload_n 2, 1) := by decide +kernel
theorem dX5_init_132 : decode cX5_init 132 = .ok (.new 30, 3) := by decide +kernel
theorem dX5_init_135 : decode cX5_init 135 = .ok (.dup, 1) := by decide +kernel
theorem dX5_init_136 : decode cX5_init 136 = .ok (.invokespecial 57, 3) := by decide +kernel
theorem dX5_init_139 : decode cX5_init 139 = .ok (.aastore, 1) := by decide +kernel
theorem dX5_init_140 : decode cX5_init 140 = .ok (.iinc 2 1, 3) := by decide +kernel
theorem dX5_init_143 : decode cX5_init 143 = .ok (.goto (-22), 3) := by decide +kernel
theorem dX5_init_84 : decode cX5_init 84 = .ok (.aload_n 0, 1) := by decide +kernel
theorem dX5_init_85 : decode cX5_init 85 = .ok (.getfield 20, 3) := by decide +kernel
theorem dX5_init_88 : decode cX5_init 88 = .ok (.iload_n 2, 1) := by decide +kernel
theorem dX5_init_89 : decode cX5_init 89 = .ok (.new 18, 3) := by decide +kernel
theorem dX5_init_92 : decode cX5_init 92 = .ok (.dup, 1) := by decide +kernel
theorem dX5_init_93 : decode cX5_init 93 = .ok (.invokespecial 53, 3) := by decide +kernel
theorem dX5_init_96 : decode cX5_init 96 = .ok (.aastore, 1) := by decide +kernel
theorem dX5_init_97 : decode cX5_init 97 = .ok (.aload_n 0, 1) := by decide +kernel
theorem dX5_init_98 : decode cX5_init 98 = .ok (.getfield 26, 3) := by decide +kernel
theorem dX5_init_101 : decode cX5_init 101 = .ok (.iload_n 2, 1) := by decide +kernel
theorem dX5_init_102 : decode cX5_init 102 = .ok (.new 24, 3) := by decide +kernel
theorem dX5_init_105 : decode cX5_init 105 = .ok (.dup, 1) := by decide +kernel
theorem dX5_init_106 : decode cX5_init 106 = .ok (.sipush 200, 3) := by decide +kernel
theorem dX5_init_109 : decode cX5_init 109 = .ok (.invokespecial 54, 3) := by decide +kernel
theorem dX5_init_112 : decode cX5_init 112 = .ok (.aastore, 1) := by decide +kernel
theorem dX5_init_113 : decode cX5_init 113 = .ok (.iinc 2 1, 3) := by decide +kernel
theorem dX5_init_116 : decode cX5_init 116 = .ok (.goto (-38), 3) := by decide +kernel
theorem dX5_init_72 : decode cX5_init 72 = .ok (.aconst_null, 1) := by decide +kernel
theorem dX8_init_0 : decode cX8_init 0 = .ok (.aload_n 0, 1) := by decide +kernel
theorem dX8_init_1 : decode cX8_init 1 = .ok (.invokespecial 1, 3) := by decide +kernel
theorem dX8_init_4 : decode cX8_init 4 = .ok (.aload_n 0, 1) := by decide +kernel
theorem dX8_init_5 : decode cX8_init 5 = .ok (.new 7, 3) := by decide +kernel
theorem dX8_init_8 : decode cX8_init 8 = .ok (.dup, 1) := by decide +kernel
theorem dX8_init_9 : decode cX8_init 9 = .ok (.iconst 1, 1) := by decide +kernel
theorem dX8_init_10 : decode cX8_init 10 = .ok (.invokespecial 9, 3) := by decide +kernel
theorem dX8_init_13 : decode cX8_init 13 = .ok (.putfield 12, 3) := by decide +kernel
theorem dX8_init_16 : decode cX8_init 16 = .ok (.aload_n 0, 1) := by decide +kernel
theorem dX8_init_17 : decode cX8_init 17 = .ok (.new 7, 3) := by decide +kernel
theorem dX8_init_20 : decode cX8_init 20 = .ok (.dup, 1) := by decide +kernel
theorem dX8_init_21 : decode cX8_init 21 = .ok (.iconst 0, 1) := by decide +kernel
theorem dX8_init_22 : decode cX8_init 22 = .ok (.invokespecial 9, 3) := by decide +kernel
theorem dX8_init_25 : decode cX8_init 25 = .ok (.putfield 18, 3) := by decide +kernel
theorem dX8_init_28 : decode cX8_init 28 = .ok (.return_, 1) := by decide +kernel
set_option maxRecDepth 100000 in
set_option maxHeartbeats 4000000 in
/-- Traffic(true) -/
theorem tm_Traffic_1 (l : Launch) (hst : l.stackTraces = false) (dC : Nat → ClassId) (dI : Nat → Nat → Nat) (cy : Nat → ClassId) (a0 : Nat) (sz : Nat) : Met l yX5_init (tp_w yX5_init cX5_init 3 none) ({ frames := 4, cells := 847, slots := 10875, locals := 76 }) (va_Pc [.ref a0, .int 1] (tp_Pre dC dI cy [(a0, .inr (5, [.null, .null, .null, .null, .null, .null, .int 0, .int 0, .int 0, .int 0, .int 0, .int 0]))] sz)) (va_Qv (fun _ : Unit => True) (fun (_ : Unit) (t : State) => ∃ (q0 : Nat), ∃ (q1 : Nat), ∃ (q2 : Nat), ∃ (q3 : Nat), ∃ (q4 : Nat), ∃ (q5 : Nat), ∃ (q6 : Nat), ∃ (q7 : Nat), tp_Post dC dI (va_A [(a0, .inr (5, [.null, .null, .null, .null, .null, .null, .int 0, .int 0, .int 0, .int 0, .int 0, .int 0]))] sz) [(a0, .inr (5, [.ref q0, .ref q1, .ref q2, .ref q3, .ref q4, .ref q5, .int 0, .int 1, .int 0, .int 0, .int 0, .int 0])), (q0, .inr (2, [.ref q6, .int 0, .ref q7, .int 0]))] t) (va_A [(a0, .inr (5, [.null, .null, .null, .null, .null, .null, .int 0, .int 0, .int 0, .int 0, .int 0, .int 0]))] sz)) 847 10875 (va_A [(a0, .inr (5, [.null, .null, .null, .null, .null, .null, .int 0, .int 0, .int 0, .int 0, .int 0, .int 0]))] sz) := by
  refine Met.ofW (cc := cX5_init) (maxL := 3) (ret := none) (by decide) rfl ?_
  intro p e s m args below meth c s₁ B hml hv
  obtain ⟨rfl, hsz, hP, hK, hD0, hE, hZ⟩ := hv
  have hx := B.exec
  have hb := B.bytes
  have hr := B.returns
  have hts0 := atoms_spec (ws := tp_w yX5_init cX5_init 3 none) B.pre
  have hts : ∀ w ∈ tp_all, w.before _ s = true := fun w h => hts0 w (List.mem_cons_of_mem _ h)
  have hown : s.vm.findClass RX5 = some m.cls := findClass_of_methodNamed B.named
  have hlocks := B.notSynchronized
  have hin : meth.name = "<init>" := (name_of_methodNamed B.named B.method).1
  subst hsz
  have hD := hD0.self (sz := s.heap.size)
  generalize hAe : va_A [(a0, .inr (5, [.null, .null, .null, .null, .null, .null, .int 0, .int 0, .int 0, .int 0, .int 0, .int 0]))] s.heap.size = A at hD hZ ⊢
  have hA : ∀ q : Nat, s.heap.size ≤ q → A q := fun q h => by rw [← hAe]; exact Or.inr h
  have hS : va_S A s.heap s.heap [] := va_S.rf
  have hl9 := lv_entry ([.ref a0, .int 1]) (n := 3) (Nat.le_of_ble_eq_true rfl)
  rw [lg_entry_eq]
  generalize (lg_sl ([.ref a0, .int 1]) ++ List.replicate (3 - (lg_sl ([.ref a0, .int 1])).length) Slot.unset).toArray = ls at hl9 ⊢
  have hl : lv_has ls 3 [(0, .ref a0), (1, .int 1)] := hl9
  refine lv_aload_n hx hb dX5_init_0 rfl (lv_at hl 0 rfl) ?_
  refine W.objInit hx hb hown (hts _ tw_71) (hts _ tw_64) (hts _ tw_65) rfl (by rw [hml]; exact hl.1) rfl dX5_init_1 (Nat.le_of_ble_eq_true rfl) (Nat.le_of_ble_eq_true rfl) ?_
  refine W.eq (g2 := F0 m 4 ls []) rfl ?_
  refine lv_aload_n hx hb dX5_init_4 rfl (lv_at hl 0 rfl) ?_
  have h8_a_1 : tp_dv 4 tyX2 [.null, .int 0, .null, .int 0] = true := by decide +kernel
  refine va_new (ci := 2) (fs := [.null, .int 0, .null, .int 0]) (C := RX2) (T := TX2) (N := 4) hx hb hts tl_X2 tyX2 tyX2_ok hown (hts _ tw_72) (hts _ tw_73) (hts _ tw_40) hK hP hD hS hA rfl (fun j hj => by exact tp_dv_ok h8_a_1 j hj) (Nat.le_of_ble_eq_true rfl) (Nat.le_of_ble_eq_true rfl) dX5_init_5 (fun a_1 H hP hD hS => ?_)
  have hP : va_P (dC, dI) vwCl [(a0, .inr (5, [.null, .null, .null, .null, .null, .null, .int 0, .int 0, .int 0, .int 0, .int 0, .int 0])), (a_1, .inr (2, [.null, .int 0, .null, .int 0]))] _ := hP
  have hD : va_D A [(a0, .inr (5, [.null, .null, .null, .null, .null, .null, .int 0, .int 0, .int 0, .int 0, .int 0, .int 0])), (a_1, .inr (2, [.null, .int 0, .null, .int 0]))] := hD
  refine lv_dup hx hb dX5_init_8 rfl ?_
  have hFc := va_free (wc := [(a_1, .inr (2, [.null, .int 0, .null, .int 0]))]) hD hS hA [1] rfl
  refine va_callv (va_runI (As := []) (rest := [.ref a_1, .ref a0]) ⟨hx, hb, hml, hown, hts⟩ (tm_Roads l hst dC dI cy a_1 H.size) (tp_cwI 0 hts tw_74 tw_75 tw_40 tw_76 rfl rfl rfl (by decide +kernel) ⟨Nat.le_of_ble_eq_true rfl, Nat.le_of_ble_eq_true rfl⟩) ⟨tp_blind, fun U hU hW => ⟨rfl, tp_pay hK hP hD hE hZ hS [1] (by decide) rfl hFc U hU hW⟩⟩ rfl rfl hl.1 rfl (lv_room (Nat.le_of_ble_eq_true rfl)) dX5_init_9 ⟨(Nat.le_of_ble_eq_true rfl), (Nat.le_of_ble_eq_true rfl)⟩) hS (fun q _ h => hFc q h) hFc (fun u t H1 locs ht hvm hw hB hz1 hk1 hS => ?_)
  obtain ⟨z_3, z_4, hP1, hD1⟩ := hB
  rw [ht] at hP1
  obtain ⟨hP, hD⟩ := va_join (wr := [(a0, .inr (5, [.null, .null, .null, .null, .null, .null, .int 0, .int 0, .int 0, .int 0, .int 0, .int 0]))]) (w1 := [(a_1, .inr (2, [.ref z_3, .int 0, .ref z_4, .int 0]))]) hP hD [1] [0] rfl rfl (by decide) (by decide) hk1 hFc hP1 hD1
  generalize H1 = H at hP hS ⊢
  have hP : va_P (dC, dI) vwCl [(a0, .inr (5, [.null, .null, .null, .null, .null, .null, .int 0, .int 0, .int 0, .int 0, .int 0, .int 0])), (a_1, .inr (2, [.ref z_3, .int 0, .ref z_4, .int 0]))] _ := hP
  have hD : va_D A [(a0, .inr (5, [.null, .null, .null, .null, .null, .null, .int 0, .int 0, .int 0, .int 0, .int 0, .int 0])), (a_1, .inr (2, [.ref z_3, .int 0, .ref z_4, .int 0]))] := hD
  refine va_putF (D := (dC, dI)) (ci := 5) (v := .ref a_1) (ty := (.object "Turnpike$Roads")) (C := RX5) (T := TX5) (N := 12) hx hb hts tl_X5 tyX5 tyX5_ok nmX5 hown hK hP hD hS 0 rfl rfl 0 (by decide) (hts _ tw_357) (fun _ h9 => h9) rfl hin rfl (by decide +kernel) rfl rfl (Nat.le_of_ble_eq_true rfl) dX5_init_12 (fun H locs hP hD hS => ?_)
  have hP : va_P (dC, dI) vwCl [(a0, .inr (5, [.ref a_1, .null, .null, .null, .null, .null, .int 0, .int 0, .int 0, .int 0, .int 0, .int 0])), (a_1, .inr (2, [.ref z_3, .int 0, .ref z_4, .int 0]))] _ := hP
  have hD : va_D A [(a0, .inr (5, [.ref a_1, .null, .null, .null, .null, .null, .int 0, .int 0, .int 0, .int 0, .int 0, .int 0])), (a_1, .inr (2, [.ref z_3, .int 0, .ref z_4, .int 0]))] := hD
  refine lv_aload_n hx hb dX5_init_15 rfl (lv_at hl 0 rfl) ?_
  refine lv_bipush (v := 12) hx hb dX5_init_16 (by decide) ?_
  refine va_newq hx hb (C := RX4) (N' := 12) hown (hts _ tw_193) (hE.2.2.1 _ (List.mem_of_getElem? (i := 1) rfl)) hK hP hD hS hA (by decide) (by decide) (Nat.le_of_ble_eq_true rfl) (Nat.le_of_ble_eq_true rfl) (Nat.le_of_ble_eq_true rfl) dX5_init_18 (fun a_5 k_6 H hK9 hP hD hS => ?_)
  obtain rfl : k_6 = cy 4 := tp_one hK9 10 4 rfl rfl
  have hP : va_P (dC, dI) vwCl [(a0, .inr (5, [.ref a_1, .null, .null, .null, .null, .null, .int 0, .int 0, .int 0, .int 0, .int 0, .int 0])), (a_1, .inr (2, [.ref z_3, .int 0, .ref z_4, .int 0])), (a_5, .inl (cy 4, 12, .inr (.inr (.inr (.inr ((fun _ => none)))))))] _ := hP
  have hD : va_D A [(a0, .inr (5, [.ref a_1, .null, .null, .null, .null, .null, .int 0, .int 0, .int 0, .int 0, .int 0, .int 0])), (a_1, .inr (2, [.ref z_3, .int 0, .ref z_4, .int 0])), (a_5, .inl (cy 4, 12, .inr (.inr (.inr (.inr ((fun _ => none)))))))] := hD
  refine va_putF (D := (dC, dI)) (ci := 5) (v := .ref a_5) (ty := (.array (.object "Turnpike$Signal"))) (C := RX5) (T := TX5) (N := 12) hx hb hts tl_X5 tyX5 tyX5_ok nmX5 hown hK hP hD hS 0 rfl rfl 1 (by decide) (hts _ tw_359) (fun _ h9 => h9) rfl hin rfl (by decide +kernel) rfl rfl (Nat.le_of_ble_eq_true rfl) dX5_init_21 (fun H locs hP hD hS => ?_)
  have hP : va_P (dC, dI) vwCl [(a0, .inr (5, [.ref a_1, .ref a_5, .null, .null, .null, .null, .int 0, .int 0, .int 0, .int 0, .int 0, .int 0])), (a_1, .inr (2, [.ref z_3, .int 0, .ref z_4, .int 0])), (a_5, .inl (cy 4, 12, .inr (.inr (.inr (.inr ((fun _ => none)))))))] _ := hP
  have hD : va_D A [(a0, .inr (5, [.ref a_1, .ref a_5, .null, .null, .null, .null, .int 0, .int 0, .int 0, .int 0, .int 0, .int 0])), (a_1, .inr (2, [.ref z_3, .int 0, .ref z_4, .int 0])), (a_5, .inl (cy 4, 12, .inr (.inr (.inr (.inr ((fun _ => none)))))))] := hD
  refine lv_aload_n hx hb dX5_init_24 rfl (lv_at hl 0 rfl) ?_
  refine lv_bipush (v := 12) hx hb dX5_init_25 (by decide) ?_
  refine va_newq hx hb (C := RX3) (N' := 12) hown (hts _ tw_195) (hE.2.2.1 _ (List.mem_of_getElem? (i := 2) rfl)) hK hP hD hS hA (by decide) (by decide) (Nat.le_of_ble_eq_true rfl) (Nat.le_of_ble_eq_true rfl) (Nat.le_of_ble_eq_true rfl) dX5_init_27 (fun a_7 k_8 H hK9 hP hD hS => ?_)
  obtain rfl : k_8 = cy 5 := tp_one hK9 10 5 rfl rfl
  have hP : va_P (dC, dI) vwCl [(a0, .inr (5, [.ref a_1, .ref a_5, .null, .null, .null, .null, .int 0, .int 0, .int 0, .int 0, .int 0, .int 0])), (a_1, .inr (2, [.ref z_3, .int 0, .ref z_4, .int 0])), (a_5, .inl (cy 4, 12, .inr (.inr (.inr (.inr ((fun _ => none))))))), (a_7, .inl (cy 5, 12, .inr (.inr (.inr (.inr ((fun _ => none)))))))] _ := hP
  have hD : va_D A [(a0, .inr (5, [.ref a_1, .ref a_5, .null, .null, .null, .null, .int 0, .int 0, .int 0, .int 0, .int 0, .int 0])), (a_1, .inr (2, [.ref z_3, .int 0, .ref z_4, .int 0])), (a_5, .inl (cy 4, 12, .inr (.inr (.inr (.inr ((fun _ => none))))))), (a_7, .inl (cy 5, 12, .inr (.inr (.inr (.inr ((fun _ => none)))))))] := hD
  refine va_putF (D := (dC, dI)) (ci := 5) (v := .ref a_7) (ty := (.array (.object "Turnpike$Row"))) (C := RX5) (T := TX5) (N := 12) hx hb hts tl_X5 tyX5 tyX5_ok nmX5 hown hK hP hD hS 0 rfl rfl 2 (by decide) (hts _ tw_361) (fun _ h9 => h9) rfl hin rfl (by decide +kernel) rfl rfl (Nat.le_of_ble_eq_true rfl) dX5_init_30 (fun H locs hP hD hS => ?_)
  have hP : va_P (dC, dI) vwCl [(a0, .inr (5, [.ref a_1, .ref a_5, .ref a_7, .null, .null, .null, .int 0, .int 0, .int 0, .int 0, .int 0, .int 0])), (a_1, .inr (2, [.ref z_3, .int 0, .ref z_4, .int 0])), (a_5, .inl (cy 4, 12, .inr (.inr (.inr (.inr ((fun _ => none))))))), (a_7, .inl (cy 5, 12, .inr (.inr (.inr (.inr ((fun _ => none)))))))] _ := hP
  have hD : va_D A [(a0, .inr (5, [.ref a_1, .ref a_5, .ref a_7, .null, .null, .null, .int 0, .int 0, .int 0, .int 0, .int 0, .int 0])), (a_1, .inr (2, [.ref z_3, .int 0, .ref z_4, .int 0])), (a_5, .inl (cy 4, 12, .inr (.inr (.inr (.inr ((fun _ => none))))))), (a_7, .inl (cy 5, 12, .inr (.inr (.inr (.inr ((fun _ => none)))))))] := hD
  refine lv_aload_n hx hb dX5_init_33 rfl (lv_at hl 0 rfl) ?_
  refine lv_bipush (v := 10) hx hb dX5_init_34 (by decide) ?_
  refine va_newq hx hb (C := RX0) (N' := 10) hown (hts _ tw_197) (hE.2.2.1 _ (List.mem_of_getElem? (i := 3) rfl)) hK hP hD hS hA (by decide) (by decide) (Nat.le_of_ble_eq_true rfl) (Nat.le_of_ble_eq_true rfl) (Nat.le_of_ble_eq_true rfl) dX5_init_36 (fun a_9 k_10 H hK9 hP hD hS => ?_)
  obtain rfl : k_10 = cy 6 := tp_one hK9 10 6 rfl rfl
  have hP : va_P (dC, dI) vwCl [(a0, .inr (5, [.ref a_1, .ref a_5, .ref a_7, .null, .null, .null, .int 0, .int 0, .int 0, .int 0, .int 0, .int 0])), (a_1, .inr (2, [.ref z_3, .int 0, .ref z_4, .int 0])), (a_5, .inl (cy 4, 12, .inr (.inr (.inr (.inr ((fun _ => none))))))), (a_7, .inl (cy 5, 12, .inr (.inr (.inr (.inr ((fun _ => none))))))), (a_9, .inl (cy 6, 10, .inr (.inr (.inr (.inr ((fun _ => none)))))))] _ := hP
  have hD : va_D A [(a0, .inr (5, [.ref a_1, .ref a_5, .ref a_7, .null, .null, .null, .int 0, .int 0, .int 0, .int 0, .int 0, .int 0])), (a_1, .inr (2, [.ref z_3, .int 0, .ref z_4, .int 0])), (a_5, .inl (cy 4, 12, .inr (.inr (.inr (.inr ((fun _ => none))))))), (a_7, .inl (cy 5, 12, .inr (.inr (.inr (.inr ((fun _ => none))))))), (a_9, .inl (cy 6, 10, .inr (.inr (.inr (.inr ((fun _ => none)))))))] := hD
  refine va_putF (D := (dC, dI)) (ci := 5) (v := .ref a_9) (ty := (.array (.object "Turnpike$Flow"))) (C := RX5) (T := TX5) (N := 12) hx hb hts tl_X5 tyX5 tyX5_ok nmX5 hown hK hP hD hS 0 rfl rfl 3 (by decide) (hts _ tw_363) (fun _ h9 => h9) rfl hin rfl (by decide +kernel) rfl rfl (Nat.le_of_ble_eq_true rfl) dX5_init_39 (fun H locs hP hD hS => ?_)
  have hP : va_P (dC, dI) vwCl [(a0, .inr (5, [.ref a_1, .ref a_5, .ref a_7, .ref a_9, .null, .null, .int 0, .int 0, .int 0, .int 0, .int 0, .int 0])), (a_1, .inr (2, [.ref z_3, .int 0, .ref z_4, .int 0])), (a_5, .inl (cy 4, 12, .inr (.inr (.inr (.inr ((fun _ => none))))))), (a_7, .inl (cy 5, 12, .inr (.inr (.inr (.inr ((fun _ => none))))))), (a_9, .inl (cy 6, 10, .inr (.inr (.inr (.inr ((fun _ => none)))))))] _ := hP
  have hD : va_D A [(a0, .inr (5, [.ref a_1, .ref a_5, .ref a_7, .ref a_9, .null, .null, .int 0, .int 0, .int 0, .int 0, .int 0, .int 0])), (a_1, .inr (2, [.ref z_3, .int 0, .ref z_4, .int 0])), (a_5, .inl (cy 4, 12, .inr (.inr (.inr (.inr ((fun _ => none))))))), (a_7, .inl (cy 5, 12, .inr (.inr (.inr (.inr ((fun _ => none))))))), (a_9, .inl (cy 6, 10, .inr (.inr (.inr (.inr ((fun _ => none)))))))] := hD
  refine lv_aload_n hx hb dX5_init_42 rfl (lv_at hl 0 rfl) ?_
  refine lv_sipush (v := 200) hx hb dX5_init_43 (by decide) ?_
  refine va_newq hx hb (C := RX7) (N' := 200) hown (hts _ tw_199) (hE.2.2.1 _ (List.mem_of_getElem? (i := 4) rfl)) hK hP hD hS hA (by decide) (by decide) (Nat.le_of_ble_eq_true rfl) (Nat.le_of_ble_eq_true rfl) (Nat.le_of_ble_eq_true rfl) dX5_init_46 (fun a_11 k_12 H hK9 hP hD hS => ?_)
  obtain rfl : k_12 = cy 7 := tp_one hK9 10 7 rfl rfl
  have hP : va_P (dC, dI) vwCl [(a0, .inr (5, [.ref a_1, .ref a_5, .ref a_7, .ref a_9, .null, .null, .int 0, .int 0, .int 0, .int 0, .int 0, .int 0])), (a_1, .inr (2, [.ref z_3, .int 0, .ref z_4, .int 0])), (a_5, .inl (cy 4, 12, .inr (.inr (.inr (.inr ((fun _ => none))))))), (a_7, .inl (cy 5, 12, .inr (.inr (.inr (.inr ((fun _ => none))))))), (a_9, .inl (cy 6, 10, .inr (.inr (.inr (.inr ((fun _ => none))))))), (a_11, .inl (cy 7, 200, .inr (.inr (.inr (.inr ((fun _ => none)))))))] _ := hP
  have hD : va_D A [(a0, .inr (5, [.ref a_1, .ref a_5, .ref a_7, .ref a_9, .null, .null, .int 0, .int 0, .int 0, .int 0, .int 0, .int 0])), (a_1, .inr (2, [.ref z_3, .int 0, .ref z_4, .int 0])), (a_5, .inl (cy 4, 12, .inr (.inr (.inr (.inr ((fun _ => none))))))), (a_7, .inl (cy 5, 12, .inr (.inr (.inr (.inr ((fun _ => none))))))), (a_9, .inl (cy 6, 10, .inr (.inr (.inr (.inr ((fun _ => none))))))), (a_11, .inl (cy 7, 200, .inr (.inr (.inr (.inr ((fun _ => none)))))))] := hD
  refine va_putF (D := (dC, dI)) (ci := 5) (v := .ref a_11) (ty := (.array (.object "Turnpike$Vehicle"))) (C := RX5) (T := TX5) (N := 12) hx hb hts tl_X5 tyX5 tyX5_ok nmX5 hown hK hP hD hS 0 rfl rfl 4 (by decide) (hts _ tw_365) (fun _ h9 => h9) rfl hin rfl (by decide +kernel) rfl rfl (Nat.le_of_ble_eq_true rfl) dX5_init_49 (fun H locs hP hD hS => ?_)
  have hP : va_P (dC, dI) vwCl [(a0, .inr (5, [.ref a_1, .ref a_5, .ref a_7, .ref a_9, .ref a_11, .null, .int 0, .int 0, .int 0, .int 0, .int 0, .int 0])), (a_1, .inr (2, [.ref z_3, .int 0, .ref z_4, .int 0])), (a_5, .inl (cy 4, 12, .inr (.inr (.inr (.inr ((fun _ => none))))))), (a_7, .inl (cy 5, 12, .inr (.inr (.inr (.inr ((fun _ => none))))))), (a_9, .inl (cy 6, 10, .inr (.inr (.inr (.inr ((fun _ => none))))))), (a_11, .inl (cy 7, 200, .inr (.inr (.inr (.inr ((fun _ => none)))))))] _ := hP
  have hD : va_D A [(a0, .inr (5, [.ref a_1, .ref a_5, .ref a_7, .ref a_9, .ref a_11, .null, .int 0, .int 0, .int 0, .int 0, .int 0, .int 0])), (a_1, .inr (2, [.ref z_3, .int 0, .ref z_4, .int 0])), (a_5, .inl (cy 4, 12, .inr (.inr (.inr (.inr ((fun _ => none))))))), (a_7, .inl (cy 5, 12, .inr (.inr (.inr (.inr ((fun _ => none))))))), (a_9, .inl (cy 6, 10, .inr (.inr (.inr (.inr ((fun _ => none))))))), (a_11, .inl (cy 7, 200, .inr (.inr (.inr (.inr ((fun _ => none)))))))] := hD
  refine lv_aload_n hx hb dX5_init_52 rfl (lv_at hl 0 rfl) ?_
  refine lv_iconst (v := 1) hx hb dX5_init_53 (by decide) ?_
  refine va_put (D := (dC, dI)) (ci := 5) (v := .int 1) (ty := .int) (C := RX5) (T := TX5) (N := 12) hx hb hts tl_X5 tyX5 tyX5_ok nmX5 hown hK hP hD hS 0 rfl rfl 7 (by decide) (hts _ tw_371) (fun _ h9 => h9) rfl (by decide +kernel) rfl rfl (Nat.le_of_ble_eq_true rfl) dX5_init_54 (fun H locs hP hD hS => ?_)
  have hP : va_P (dC, dI) vwCl [(a0, .inr (5, [.ref a_1, .ref a_5, .ref a_7, .ref a_9, .ref a_11, .null, .int 0, .int 1, .int 0, .int 0, .int 0, .int 0])), (a_1, .inr (2, [.ref z_3, .int 0, .ref z_4, .int 0])), (a_5, .inl (cy 4, 12, .inr (.inr (.inr (.inr ((fun _ => none))))))), (a_7, .inl (cy 5, 12, .inr (.inr (.inr (.inr ((fun _ => none))))))), (a_9, .inl (cy 6, 10, .inr (.inr (.inr (.inr ((fun _ => none))))))), (a_11, .inl (cy 7, 200, .inr (.inr (.inr (.inr ((fun _ => none)))))))] _ := hP
  have hD : va_D A [(a0, .inr (5, [.ref a_1, .ref a_5, .ref a_7, .ref a_9, .ref a_11, .null, .int 0, .int 1, .int 0, .int 0, .int 0, .int 0])), (a_1, .inr (2, [.ref z_3, .int 0, .ref z_4, .int 0])), (a_5, .inl (cy 4, 12, .inr (.inr (.inr (.inr ((fun _ => none))))))), (a_7, .inl (cy 5, 12, .inr (.inr (.inr (.inr ((fun _ => none))))))), (a_9, .inl (cy 6, 10, .inr (.inr (.inr (.inr ((fun _ => none))))))), (a_11, .inl (cy 7, 200, .inr (.inr (.inr (.inr ((fun _ => none)))))))] := hD
  refine lv_aload_n hx hb dX5_init_57 rfl (lv_at hl 0 rfl) ?_
  refine lv_iload_n hx hb dX5_init_58 rfl (lv_at hl 1 rfl) ?_
  refine lv_if_eq (tgt := 72) hx hb dX5_init_59 (by decide) (fun c_13 => absurd c_13 (by decide)) (fun _ => ?_)
  have h8_a_14 : tp_dv 1 tyX6 [.null] = true := by decide +kernel
  refine va_new (ci := 6) (fs := [.null]) (C := RX6) (T := TX6) (N := 1) hx hb hts tl_X6 tyX6 tyX6_ok hown (hts _ tw_201) (hts _ tw_202) (hts _ tw_44) hK hP hD hS hA rfl (fun j hj => by exact tp_dv_ok h8_a_14 j hj) (Nat.le_of_ble_eq_true rfl) (Nat.le_of_ble_eq_true rfl) dX5_init_62 (fun a_14 H hP hD hS => ?_)
  have hP : va_P (dC, dI) vwCl [(a0, .inr (5, [.ref a_1, .ref a_5, .ref a_7, .ref a_9, .ref a_11, .null, .int 0, .int 1, .int 0, .int 0, .int 0, .int 0])), (a_1, .inr (2, [.ref z_3, .int 0, .ref z_4, .int 0])), (a_5, .inl (cy 4, 12, .inr (.inr (.inr (.inr ((fun _ => none))))))), (a_7, .inl (cy 5, 12, .inr (.inr (.inr (.inr ((fun _ => none))))))), (a_9, .inl (cy 6, 10, .inr (.inr (.inr (.inr ((fun _ => none))))))), (a_11, .inl (cy 7, 200, .inr (.inr (.inr (.inr ((fun _ => none))))))), (a_14, .inr (6, [.null]))] _ := hP
  have hD : va_D A [(a0, .inr (5, [.ref a_1, .ref a_5, .ref a_7, .ref a_9, .ref a_11, .null, .int 0, .int 1, .int 0, .int 0, .int 0, .int 0])), (a_1, .inr (2, [.ref z_3, .int 0, .ref z_4, .int 0])), (a_5, .inl (cy 4, 12, .inr (.inr (.inr (.inr ((fun _ => none))))))), (a_7, .inl (cy 5, 12, .inr (.inr (.inr (.inr ((fun _ => none))))))), (a_9, .inl (cy 6, 10, .inr (.inr (.inr (.inr ((fun _ => none))))))), (a_11, .inl (cy 7, 200, .inr (.inr (.inr (.inr ((fun _ => none))))))), (a_14, .inr (6, [.null]))] := hD
  refine lv_dup hx hb dX5_init_65 rfl ?_
  have hFc := va_free (wc := [(a_14, .inr (6, [.null]))]) hD hS hA [6] rfl
  refine va_callv (va_runIN (As := []) (rest := [.ref a_14, .ref a0]) ⟨hx, hb, hml, hown, hts⟩ (tm_Trails l hst dC dI cy a_14 H.size) ⟨tp_cnB 0 hts (te_m1 hE) tw_44 tw_205 rfl rfl (by decide +kernel) ⟨Nat.le_of_ble_eq_true rfl, Nat.le_of_ble_eq_true rfl⟩, rfl, hts _ tw_204⟩ ⟨tp_blind, fun U hU hW => ⟨rfl, tp_pay hK hP hD hE hZ hS [6] (by decide) rfl hFc U hU hW⟩⟩ rfl rfl hl.1 rfl (lv_room (Nat.le_of_ble_eq_true rfl)) dX5_init_66 ⟨(Nat.le_of_ble_eq_true rfl), (Nat.le_of_ble_eq_true rfl)⟩) hS (fun q _ h => hFc q h) hFc (fun u t H1 locs ht hvm hw hB hz1 hk1 hS => ?_)
  obtain ⟨z_16, hP1, hD1⟩ := hB
  rw [ht] at hP1
  obtain ⟨hP, hD⟩ := va_join (wr := [(a0, .inr (5, [.ref a_1, .ref a_5, .ref a_7, .ref a_9, .ref a_11, .null, .int 0, .int 1, .int 0, .int 0, .int 0, .int 0])), (a_1, .inr (2, [.ref z_3, .int 0, .ref z_4, .int 0])), (a_5, .inl (cy 4, 12, .inr (.inr (.inr (.inr ((fun _ => none))))))), (a_7, .inl (cy 5, 12, .inr (.inr (.inr (.inr ((fun _ => none))))))), (a_9, .inl (cy 6, 10, .inr (.inr (.inr (.inr ((fun _ => none))))))), (a_11, .inl (cy 7, 200, .inr (.inr (.inr (.inr ((fun _ => none)))))))]) (w1 := [(a_14, .inr (6, [.ref z_16]))]) hP hD [6] [0, 1, 2, 3, 4, 5] rfl rfl (by decide) (by decide) hk1 hFc hP1 hD1
  generalize H1 = H at hP hS ⊢
  have hP : va_P (dC, dI) vwCl [(a0, .inr (5, [.ref a_1, .ref a_5, .ref a_7, .ref a_9, .ref a_11, .null, .int 0, .int 1, .int 0, .int 0, .int 0, .int 0])), (a_1, .inr (2, [.ref z_3, .int 0, .ref z_4, .int 0])), (a_5, .inl (cy 4, 12, .inr (.inr (.inr (.inr ((fun _ => none))))))), (a_7, .inl (cy 5, 12, .inr (.inr (.inr (.inr ((fun _ => none))))))), (a_9, .inl (cy 6, 10, .inr (.inr (.inr (.inr ((fun _ => none))))))), (a_11, .inl (cy 7, 200, .inr (.inr (.inr (.inr ((fun _ => none))))))), (a_14, .inr (6, [.ref z_16]))] _ := hP
  have hD : va_D A [(a0, .inr (5, [.ref a_1, .ref a_5, .ref a_7, .ref a_9, .ref a_11, .null, .int 0, .int 1, .int 0, .int 0, .int 0, .int 0])), (a_1, .inr (2, [.ref z_3, .int 0, .ref z_4, .int 0])), (a_5, .inl (cy 4, 12, .inr (.inr (.inr (.inr ((fun _ => none))))))), (a_7, .inl (cy 5, 12, .inr (.inr (.inr (.inr ((fun _ => none))))))), (a_9, .inl (cy 6, 10, .inr (.inr (.inr (.inr ((fun _ => none))))))), (a_11, .inl (cy 7, 200, .inr (.inr (.inr (.inr ((fun _ => none))))))), (a_14, .inr (6, [.ref z_16]))] := hD
  refine lv_goto (tgt := 73) hx hb dX5_init_69 (by decide) ?_
  refine va_putF (D := (dC, dI)) (ci := 5) (v := .ref a_14) (ty := (.object "Turnpike$Trails")) (C := RX5) (T := TX5) (N := 12) hx hb hts tl_X5 tyX5 tyX5_ok nmX5 hown hK hP hD hS 0 rfl rfl 5 (by decide) (hts _ tw_367) (fun _ h9 => h9) rfl hin rfl (by decide +kernel) rfl rfl (Nat.le_of_ble_eq_true rfl) dX5_init_73 (fun H locs hP hD hS => ?_)
  have hP : va_P (dC, dI) vwCl [(a0, .inr (5, [.ref a_1, .ref a_5, .ref a_7, .ref a_9, .ref a_11, .ref a_14, .int 0, .int 1, .int 0, .int 0, .int 0, .int 0])), (a_1, .inr (2, [.ref z_3, .int 0, .ref z_4, .int 0])), (a_5, .inl (cy 4, 12, .inr (.inr (.inr (.inr ((fun _ => none))))))), (a_7, .inl (cy 5, 12, .inr (.inr (.inr (.inr ((fun _ => none))))))), (a_9, .inl (cy 6, 10, .inr (.inr (.inr (.inr ((fun _ => none))))))), (a_11, .inl (cy 7, 200, .inr (.inr (.inr (.inr ((fun _ => none))))))), (a_14, .inr (6, [.ref z_16]))] _ := hP
  have hD : va_D A [(a0, .inr (5, [.ref a_1, .ref a_5, .ref a_7, .ref a_9, .ref a_11, .ref a_14, .int 0, .int 1, .int 0, .int 0, .int 0, .int 0])), (a_1, .inr (2, [.ref z_3, .int 0, .ref z_4, .int 0])), (a_5, .inl (cy 4, 12, .inr (.inr (.inr (.inr ((fun _ => none))))))), (a_7, .inl (cy 5, 12, .inr (.inr (.inr (.inr ((fun _ => none))))))), (a_9, .inl (cy 6, 10, .inr (.inr (.inr (.inr ((fun _ => none))))))), (a_11, .inl (cy 7, 200, .inr (.inr (.inr (.inr ((fun _ => none))))))), (a_14, .inr (6, [.ref z_16]))] := hD
  refine lv_iconst (v := 0) hx hb dX5_init_76 (by decide) ?_
  refine lv_istore_n (lv' := [(2, .int 0), (0, .ref a0), (1, .int 1)]) hx hb dX5_init_77 rfl hl (by decide) rfl (fun ls hl => ?_)
  refine W.widen (k := (0 + 1 + 158 + 1 + 1 + 1 + 1 + 1 + 201) + 6 * 0) (n := (0 + 4 + 2676 + 12 + 12 + 10 + 200 + 1 + 400) + 220 * 0) (Nat.le_refl _) (Nat.le_refl _) ?_
  refine tp_for 12 (0 + 1 + 158 + 1 + 1 + 1 + 1 + 1 + 201) 6 (0 + 4 + 2676 + 12 + 12 + 10 + 200 + 1 + 400) 220 (fun (i : Nat) (x : (Nat → Option Nat) × (Nat → Option Nat)) (H : Heap) (locs : List Loc) (ls : Array Slot) => va_P (dC, dI) vwCl [(a0, .inr (5, [.ref a_1, .ref a_5, .ref a_7, .ref a_9, .ref a_11, .ref a_14, .int 0, .int 1, .int 0, .int 0, .int 0, .int 0])), (a_1, .inr (2, [.ref z_3, .int 0, .ref z_4, .int 0])), (a_5, .inl (cy 4, 12, .inr (.inr (.inr (.inr x.1))))), (a_7, .inl (cy 5, 12, .inr (.inr (.inr (.inr x.2))))), (a_9, .inl (cy 6, 10, .inr (.inr (.inr (.inr ((fun _ => none))))))), (a_11, .inl (cy 7, 200, .inr (.inr (.inr (.inr ((fun _ => none)))))))] H ∧ va_D A [(a0, .inr (5, [.ref a_1, .ref a_5, .ref a_7, .ref a_9, .ref a_11, .ref a_14, .int 0, .int 1, .int 0, .int 0, .int 0, .int 0])), (a_1, .inr (2, [.ref z_3, .int 0, .ref z_4, .int 0])), (a_5, .inl (cy 4, 12, .inr (.inr (.inr (.inr x.1))))), (a_7, .inl (cy 5, 12, .inr (.inr (.inr (.inr x.2))))), (a_9, .inl (cy 6, 10, .inr (.inr (.inr (.inr ((fun _ => none))))))), (a_11, .inl (cy 7, 200, .inr (.inr (.inr (.inr ((fun _ => none)))))))] ∧ va_S A s.heap H locs ∧ lv_has ls 3 [(2, .int (nI i)), (0, .ref a0)]) ?_ ?_ 12 0 rfl ((fun _ => none), (fun _ => none)) _ _ ls ⟨hP.sub [0, 1, 2, 3, 4, 5] rfl, hD.sub [0, 1, 2, 3, 4, 5] (by decide) rfl, hS, lv_sub hl [0, 1] rfl⟩
  · rintro ⟨g1, g2⟩ H locs ls ⟨hP, hD, hS, hl⟩
    have hP : va_P (dC, dI) vwCl [(a0, .inr (5, [.ref a_1, .ref a_5, .ref a_7, .ref a_9, .ref a_11, .ref a_14, .int 0, .int 1, .int 0, .int 0, .int 0, .int 0])), (a_1, .inr (2, [.ref z_3, .int 0, .ref z_4, .int 0])), (a_5, .inl (cy 4, 12, .inr (.inr (.inr (.inr g1))))), (a_7, .inl (cy 5, 12, .inr (.inr (.inr (.inr g2))))), (a_9, .inl (cy 6, 10, .inr (.inr (.inr (.inr ((fun _ => none))))))), (a_11, .inl (cy 7, 200, .inr (.inr (.inr (.inr ((fun _ => none)))))))] _ := hP
    have hD : va_D A [(a0, .inr (5, [.ref a_1, .ref a_5, .ref a_7, .ref a_9, .ref a_11, .ref a_14, .int 0, .int 1, .int 0, .int 0, .int 0, .int 0])), (a_1, .inr (2, [.ref z_3, .int 0, .ref z_4, .int 0])), (a_5, .inl (cy 4, 12, .inr (.inr (.inr (.inr g1))))), (a_7, .inl (cy 5, 12, .inr (.inr (.inr (.inr g2))))), (a_9, .inl (cy 6, 10, .inr (.inr (.inr (.inr ((fun _ => none))))))), (a_11, .inl (cy 7, 200, .inr (.inr (.inr (.inr ((fun _ => none)))))))] := hD
    have hl : lv_has ls 3 [(2, .int (nI 12)), (0, .ref a0)] := hl
    refine lv_iload_n hx hb dX5_init_78 rfl (lv_at hl 0 rfl) ?_
    refine lv_bipush (v := 12) hx hb dX5_init_79 (by decide) ?_
    refine lv_icmp_ge (tgt := 119) hx hb dX5_init_81 (by decide) (fun _ => ?_) (fun c_17 => absurd (by decide) c_17)
    refine lv_iconst (v := 0) hx hb dX5_init_119 (by decide) ?_
    refine lv_istore_n (lv' := [(2, .int 0), (0, .ref a0)]) hx hb dX5_init_120 rfl hl (by decide) rfl (fun ls hl => ?_)
    refine W.widen (k := ((0 + 1 + 158 + 1 + 1 + 1 + 1 + 1 + 201) + 6 * 12) + 1 * 0) (n := ((0 + 4 + 2676 + 12 + 12 + 10 + 200 + 1 + 400) + 220 * 12) + 12 * 0) (Nat.le_refl _) (Nat.le_refl _) ?_
    refine tp_for 10 ((0 + 1 + 158 + 1 + 1 + 1 + 1 + 1 + 201) + 6 * 12) 1 ((0 + 4 + 2676 + 12 + 12 + 10 + 200 + 1 + 400) + 220 * 12) 12 (fun (i : Nat) (x : (Nat → Option Nat)) (H : Heap) (locs : List Loc) (ls : Array Slot) => va_P (dC, dI) vwCl [(a0, .inr (5, [.ref a_1, .ref a_5, .ref a_7, .ref a_9, .ref a_11, .ref a_14, .int 0, .int 1, .int 0, .int 0, .int 0, .int 0])), (a_1, .inr (2, [.ref z_3, .int 0, .ref z_4, .int 0])), (a_5, .inl (cy 4, 12, .inr (.inr (.inr (.inr g1))))), (a_7, .inl (cy 5, 12, .inr (.inr (.inr (.inr g2))))), (a_9, .inl (cy 6, 10, .inr (.inr (.inr (.inr x))))), (a_11, .inl (cy 7, 200, .inr (.inr (.inr (.inr ((fun _ => none)))))))] H ∧ va_D A [(a0, .inr (5, [.ref a_1, .ref a_5, .ref a_7, .ref a_9, .ref a_11, .ref a_14, .int 0, .int 1, .int 0, .int 0, .int 0, .int 0])), (a_1, .inr (2, [.ref z_3, .int 0, .ref z_4, .int 0])), (a_5, .inl (cy 4, 12, .inr (.inr (.inr (.inr g1))))), (a_7, .inl (cy 5, 12, .inr (.inr (.inr (.inr g2))))), (a_9, .inl (cy 6, 10, .inr (.inr (.inr (.inr x))))), (a_11, .inl (cy 7, 200, .inr (.inr (.inr (.inr ((fun _ => none)))))))] ∧ va_S A s.heap H locs ∧ lv_has ls 3 [(2, .int (nI i)), (0, .ref a0)]) ?_ ?_ 10 0 rfl ((fun _ => none)) _ _ ls ⟨hP.sub [0, 1, 2, 3, 4, 5] rfl, hD.sub [0, 1, 2, 3, 4, 5] (by decide) rfl, hS, lv_sub hl [0, 1] rfl⟩
    · rintro g3 H locs ls ⟨hP, hD, hS, hl⟩
      have hP : va_P (dC, dI) vwCl [(a0, .inr (5, [.ref a_1, .ref a_5, .ref a_7, .ref a_9, .ref a_11, .ref a_14, .int 0, .int 1, .int 0, .int 0, .int 0, .int 0])), (a_1, .inr (2, [.ref z_3, .int 0, .ref z_4, .int 0])), (a_5, .inl (cy 4, 12, .inr (.inr (.inr (.inr g1))))), (a_7, .inl (cy 5, 12, .inr (.inr (.inr (.inr g2))))), (a_9, .inl (cy 6, 10, .inr (.inr (.inr (.inr g3))))), (a_11, .inl (cy 7, 200, .inr (.inr (.inr (.inr ((fun _ => none)))))))] _ := hP
      have hD : va_D A [(a0, .inr (5, [.ref a_1, .ref a_5, .ref a_7, .ref a_9, .ref a_11, .ref a_14, .int 0, .int 1, .int 0, .int 0, .int 0, .int 0])), (a_1, .inr (2, [.ref z_3, .int 0, .ref z_4, .int 0])), (a_5, .inl (cy 4, 12, .inr (.inr (.inr (.inr g1))))), (a_7, .inl (cy 5, 12, .inr (.inr (.inr (.inr g2))))), (a_9, .inl (cy 6, 10, .inr (.inr (.inr (.inr g3))))), (a_11, .inl (cy 7, 200, .inr (.inr (.inr (.inr ((fun _ => none)))))))] := hD
      have hl : lv_has ls 3 [(2, .int (nI 10)), (0, .ref a0)] := hl
      refine lv_iload_n hx hb dX5_init_121 rfl (lv_at hl 0 rfl) ?_
      refine lv_bipush (v := 10) hx hb dX5_init_122 (by decide) ?_
      refine lv_icmp_ge (tgt := 146) hx hb dX5_init_124 (by decide) (fun _ => ?_) (fun c_18 => absurd (by decide) c_18)
      refine lv_iconst (v := 0) hx hb dX5_init_146 (by decide) ?_
      refine lv_istore_n (lv' := [(2, .int 0), (0, .ref a0)]) hx hb dX5_init_147 rfl hl (by decide) rfl (fun ls hl => ?_)
      refine W.widen (k := (((0 + 1 + 158 + 1 + 1 + 1 + 1 + 1 + 201) + 6 * 12) + 1 * 10) + 2 * 0) (n := (((0 + 4 + 2676 + 12 + 12 + 10 + 200 + 1 + 400) + 220 * 12) + 12 * 10) + 24 * 0) (Nat.le_refl _) (Nat.le_refl _) ?_
      refine tp_for 200 (((0 + 1 + 158 + 1 + 1 + 1 + 1 + 1 + 201) + 6 * 12) + 1 * 10) 2 (((0 + 4 + 2676 + 12 + 12 + 10 + 200 + 1 + 400) + 220 * 12) + 12 * 10) 24 (fun (i : Nat) (x : (Nat → Option Nat)) (H : Heap) (locs : List Loc) (ls : Array Slot) => va_P (dC, dI) vwCl [(a0, .inr (5, [.ref a_1, .ref a_5, .ref a_7, .ref a_9, .ref a_11, .ref a_14, .int 0, .int 1, .int 0, .int 0, .int 0, .int 0])), (a_1, .inr (2, [.ref z_3, .int 0, .ref z_4, .int 0])), (a_5, .inl (cy 4, 12, .inr (.inr (.inr (.inr g1))))), (a_7, .inl (cy 5, 12, .inr (.inr (.inr (.inr g2))))), (a_9, .inl (cy 6, 10, .inr (.inr (.inr (.inr g3))))), (a_11, .inl (cy 7, 200, .inr (.inr (.inr (.inr x)))))] H ∧ va_D A [(a0, .inr (5, [.ref a_1, .ref a_5, .ref a_7, .ref a_9, .ref a_11, .ref a_14, .int 0, .int 1, .int 0, .int 0, .int 0, .int 0])), (a_1, .inr (2, [.ref z_3, .int 0, .ref z_4, .int 0])), (a_5, .inl (cy 4, 12, .inr (.inr (.inr (.inr g1))))), (a_7, .inl (cy 5, 12, .inr (.inr (.inr (.inr g2))))), (a_9, .inl (cy 6, 10, .inr (.inr (.inr (.inr g3))))), (a_11, .inl (cy 7, 200, .inr (.inr (.inr (.inr x)))))] ∧ va_S A s.heap H locs ∧ lv_has ls 3 [(2, .int (nI i)), (0, .ref a0)]) ?_ ?_ 200 0 rfl ((fun _ => none)) _ _ ls ⟨hP.sub [0, 1, 2, 3, 4, 5] rfl, hD.sub [0, 1, 2, 3, 4, 5] (by decide) rfl, hS, lv_sub hl [0, 1] rfl⟩
      · rintro g4 H locs ls ⟨hP, hD, hS, hl⟩
        have hP : va_P (dC, dI) vwCl [(a0, .inr (5, [.ref a_1, .ref a_5, .ref a_7, .ref a_9, .ref a_11, .ref a_14, .int 0, .int 1, .int 0, .int 0, .int 0, .int 0])), (a_1, .inr (2, [.ref z_3, .int 0, .ref z_4, .int 0])), (a_5, .inl (cy 4, 12, .inr (.inr (.inr (.inr g1))))), (a_7, .inl (cy 5, 12, .inr (.inr (.inr (.inr g2))))), (a_9, .inl (cy 6, 10, .inr (.inr (.inr (.inr g3))))), (a_11, .inl (cy 7, 200, .inr (.inr (.inr (.inr g4)))))] _ := hP
        have hD : va_D A [(a0, .inr (5, [.ref a_1, .ref a_5, .ref a_7, .ref a_9, .ref a_11, .ref a_14, .int 0, .int 1, .int 0, .int 0, .int 0, .int 0])), (a_1, .inr (2, [.ref z_3, .int 0, .ref z_4, .int 0])), (a_5, .inl (cy 4, 12, .inr (.inr (.inr (.inr g1))))), (a_7, .inl (cy 5, 12, .inr (.inr (.inr (.inr g2))))), (a_9, .inl (cy 6, 10, .inr (.inr (.inr (.inr g3))))), (a_11, .inl (cy 7, 200, .inr (.inr (.inr (.inr g4)))))] := hD
        have hl : lv_has ls 3 [(2, .int (nI 200)), (0, .ref a0)] := hl
        refine lv_iload_n hx hb dX5_init_148 rfl (lv_at hl 0 rfl) ?_
        refine lv_sipush (v := 200) hx hb dX5_init_149 (by decide) ?_
        refine lv_icmp_ge (tgt := 174) hx hb dX5_init_152 (by decide) (fun _ => ?_) (fun c_19 => absurd (by decide) c_19)
        refine W.widen (k := 847) (n := 10875) (by show (((0 + 1 + 158 + 1 + 1 + 1 + 1 + 1 + 201) + 6 * 12) + 1 * 10) + 2 * 200 + 0 ≤ 847; omega) (by show (((0 + 4 + 2676 + 12 + 12 + 10 + 200 + 1 + 400) + 220 * 12) + 12 * 10) + 24 * 200 + 0 ≤ 10875; omega) ?_
        have hP9 := hP.sub (ws' := [(a0, .inr (5, [.ref a_1, .ref a_5, .ref a_7, .ref a_9, .ref a_11, .ref a_14, .int 0, .int 1, .int 0, .int 0, .int 0, .int 0])), (a_1, .inr (2, [.ref z_3, .int 0, .ref z_4, .int 0]))]) [0, 1] rfl
        have hD9 := hD.sub (ws' := [(a0, .inr (5, [.ref a_1, .ref a_5, .ref a_7, .ref a_9, .ref a_11, .ref a_14, .int 0, .int 1, .int 0, .int 0, .int 0, .int 0])), (a_1, .inr (2, [.ref z_3, .int 0, .ref z_4, .int 0]))]) [0, 1] (by decide) rfl
        exact W.vret hx hb hr (fun t ht hW => ⟨⟨(), rfl, trivial, ⟨a_1, a_5, a_7, a_9, a_11, a_14, z_3, z_4, by rw [ht]; exact hP9, hD9⟩⟩, hS.F ht⟩) hS.2.2 dX5_init_174
      · rintro i g4 H locs ls hi ⟨hP, hD, hS, hl⟩ ih
        have hP : va_P (dC, dI) vwCl [(a0, .inr (5, [.ref a_1, .ref a_5, .ref a_7, .ref a_9, .ref a_11, .ref a_14, .int 0, .int 1, .int 0, .int 0, .int 0, .int 0])), (a_1, .inr (2, [.ref z_3, .int 0, .ref z_4, .int 0])), (a_5, .inl (cy 4, 12, .inr (.inr (.inr (.inr g1))))), (a_7, .inl (cy 5, 12, .inr (.inr (.inr (.inr g2))))), (a_9, .inl (cy 6, 10, .inr (.inr (.inr (.inr g3))))), (a_11, .inl (cy 7, 200, .inr (.inr (.inr (.inr g4)))))] _ := hP
        have hD : va_D A [(a0, .inr (5, [.ref a_1, .ref a_5, .ref a_7, .ref a_9, .ref a_11, .ref a_14, .int 0, .int 1, .int 0, .int 0, .int 0, .int 0])), (a_1, .inr (2, [.ref z_3, .int 0, .ref z_4, .int 0])), (a_5, .inl (cy 4, 12, .inr (.inr (.inr (.inr g1))))), (a_7, .inl (cy 5, 12, .inr (.inr (.inr (.inr g2))))), (a_9, .inl (cy 6, 10, .inr (.inr (.inr (.inr g3))))), (a_11, .inl (cy 7, 200, .inr (.inr (.inr (.inr g4)))))] := hD
        have hl : lv_has ls 3 [(2, .int (nI i)), (0, .ref a0)] := hl
        refine lv_iload_n hx hb dX5_init_148 rfl (lv_at hl 0 rfl) ?_
        refine lv_sipush (v := 200) hx hb dX5_init_149 (by decide) ?_
        refine lv_icmp_ge (tgt := 174) hx hb dX5_init_152 (by decide) (fun c_20 => absurd c_20 (show ¬ (200 : Int32) ≤ nI i from nI_ge hi (by decide))) (fun _ => ?_)
        refine lv_aload_n hx hb dX5_init_155 rfl (lv_at hl 1 rfl) ?_
        refine va_get (D := (dC, dI)) (ci := 5) (v := .ref a_11) (C := RX5) (T := TX5) (N := 12) hx hb hts tl_X5 hown hK hP 0 rfl rfl 4 (by decide) (hts _ tw_365) (fun _ h9 => h9) rfl dX5_init_156 ?_
        refine lv_iload_n hx hb dX5_init_159 rfl (lv_at hl 0 rfl) ?_
        have h8_a_21 : tp_dv 13 tyX7 [.int 0, .int 0, .int 0, .int 0, .int 0, .int 0, .int 0, .int 0, .int 0, .int 0, .int 0, .int 0, .null] = true := by decide +kernel
        refine va_new (ci := 7) (fs := [.int 0, .int 0, .int 0, .int 0, .int 0, .int 0, .int 0, .int 0, .int 0, .int 0, .int 0, .int 0, .null]) (C := RX7) (T := TX7) (N := 13) hx hb hts tl_X7 tyX7 tyX7_ok hown (hts _ tw_199) (hts _ tw_297) (hts _ tw_47) hK hP hD hS hA rfl (fun j hj => by exact tp_dv_ok h8_a_21 j hj) (by show (((0 + 1 + 158 + 1 + 1 + 1 + 1 + 1 + 201) + 6 * 12) + 1 * 10) + 2 * i + 1 ≤ 847; omega) (by show (((0 + 4 + 2676 + 12 + 12 + 10 + 200 + 1 + 400) + 220 * 12) + 12 * 10) + 24 * i + 13 ≤ 10875; omega) dX5_init_160 (fun a_21 H hP hD hS => ?_)
        have hP : va_P (dC, dI) vwCl [(a0, .inr (5, [.ref a_1, .ref a_5, .ref a_7, .ref a_9, .ref a_11, .ref a_14, .int 0, .int 1, .int 0, .int 0, .int 0, .int 0])), (a_1, .inr (2, [.ref z_3, .int 0, .ref z_4, .int 0])), (a_5, .inl (cy 4, 12, .inr (.inr (.inr (.inr g1))))), (a_7, .inl (cy 5, 12, .inr (.inr (.inr (.inr g2))))), (a_9, .inl (cy 6, 10, .inr (.inr (.inr (.inr g3))))), (a_11, .inl (cy 7, 200, .inr (.inr (.inr (.inr g4))))), (a_21, .inr (7, [.int 0, .int 0, .int 0, .int 0, .int 0, .int 0, .int 0, .int 0, .int 0, .int 0, .int 0, .int 0, .null]))] _ := hP
        have hD : va_D A [(a0, .inr (5, [.ref a_1, .ref a_5, .ref a_7, .ref a_9, .ref a_11, .ref a_14, .int 0, .int 1, .int 0, .int 0, .int 0, .int 0])), (a_1, .inr (2, [.ref z_3, .int 0, .ref z_4, .int 0])), (a_5, .inl (cy 4, 12, .inr (.inr (.inr (.inr g1))))), (a_7, .inl (cy 5, 12, .inr (.inr (.inr (.inr g2))))), (a_9, .inl (cy 6, 10, .inr (.inr (.inr (.inr g3))))), (a_11, .inl (cy 7, 200, .inr (.inr (.inr (.inr g4))))), (a_21, .inr (7, [.int 0, .int 0, .int 0, .int 0, .int 0, .int 0, .int 0, .int 0, .int 0, .int 0, .int 0, .int 0, .null]))] := hD
        refine lv_dup hx hb dX5_init_163 rfl ?_
        have hFc := va_free (wc := [(a_21, .inr (7, [.int 0, .int 0, .int 0, .int 0, .int 0, .int 0, .int 0, .int 0, .int 0, .int 0, .int 0, .int 0, .null]))]) hD hS hA [6] rfl
        refine va_callv (va_runIN (As := []) (rest := [.ref a_21, .int (nI i), .ref a_11]) ⟨hx, hb, hml, hown, hts⟩ (tm_Vehicle l hst dC dI cy a_21 H.size) ⟨tp_cnB 0 hts (te_m4 hE) tw_47 tw_300 rfl rfl (by decide +kernel) ⟨Nat.le_of_ble_eq_true rfl, Nat.le_of_ble_eq_true rfl⟩, rfl, hts _ tw_299⟩ ⟨tp_blind, fun U hU hW => ⟨rfl, tp_pay hK hP hD hE hZ hS [6] (by decide) rfl hFc U hU hW⟩⟩ rfl rfl hl.1 rfl (lv_room (Nat.le_of_ble_eq_true rfl)) dX5_init_164 ⟨(by show (((0 + 1 + 158 + 1 + 1 + 1 + 1 + 1 + 201) + 6 * 12) + 1 * 10) + 2 * i + 1 + 1 ≤ 847; omega), (by show (((0 + 4 + 2676 + 12 + 12 + 10 + 200 + 1 + 400) + 220 * 12) + 12 * 10) + 24 * i + 13 + 11 ≤ 10875; omega)⟩) hS (fun q _ h => hFc q h) hFc (fun u t H1 locs ht hvm hw hB hz1 hk1 hS => ?_)
        obtain ⟨z_23, hP1, hD1⟩ := hB
        rw [ht] at hP1
        obtain ⟨hP, hD⟩ := va_join (wr := [(a0, .inr (5, [.ref a_1, .ref a_5, .ref a_7, .ref a_9, .ref a_11, .ref a_14, .int 0, .int 1, .int 0, .int 0, .int 0, .int 0])), (a_1, .inr (2, [.ref z_3, .int 0, .ref z_4, .int 0])), (a_5, .inl (cy 4, 12, .inr (.inr (.inr (.inr g1))))), (a_7, .inl (cy 5, 12, .inr (.inr (.inr (.inr g2))))), (a_9, .inl (cy 6, 10, .inr (.inr (.inr (.inr g3))))), (a_11, .inl (cy 7, 200, .inr (.inr (.inr (.inr g4)))))]) (w1 := [(a_21, .inr (7, [.int 0, .int 0, .int 0, .int 0, .int 0, .int 0, .int 0, .int 0, .int 0, .int 0, .int 0, .int 0, .ref z_23]))]) hP hD [6] [0, 1, 2, 3, 4, 5] rfl rfl (by decide) (by decide) hk1 hFc hP1 hD1
        generalize H1 = H at hP hS ⊢
        have hP : va_P (dC, dI) vwCl [(a0, .inr (5, [.ref a_1, .ref a_5, .ref a_7, .ref a_9, .ref a_11, .ref a_14, .int 0, .int 1, .int 0, .int 0, .int 0, .int 0])), (a_1, .inr (2, [.ref z_3, .int 0, .ref z_4, .int 0])), (a_5, .inl (cy 4, 12, .inr (.inr (.inr (.inr g1))))), (a_7, .inl (cy 5, 12, .inr (.inr (.inr (.inr g2))))), (a_9, .inl (cy 6, 10, .inr (.inr (.inr (.inr g3))))), (a_11, .inl (cy 7, 200, .inr (.inr (.inr (.inr g4))))), (a_21, .inr (7, [.int 0, .int 0, .int 0, .int 0, .int 0, .int 0, .int 0, .int 0, .int 0, .int 0, .int 0, .int 0, .ref z_23]))] _ := hP
        have hD : va_D A [(a0, .inr (5, [.ref a_1, .ref a_5, .ref a_7, .ref a_9, .ref a_11, .ref a_14, .int 0, .int 1, .int 0, .int 0, .int 0, .int 0])), (a_1, .inr (2, [.ref z_3, .int 0, .ref z_4, .int 0])), (a_5, .inl (cy 4, 12, .inr (.inr (.inr (.inr g1))))), (a_7, .inl (cy 5, 12, .inr (.inr (.inr (.inr g2))))), (a_9, .inl (cy 6, 10, .inr (.inr (.inr (.inr g3))))), (a_11, .inl (cy 7, 200, .inr (.inr (.inr (.inr g4))))), (a_21, .inr (7, [.int 0, .int 0, .int 0, .int 0, .int 0, .int 0, .int 0, .int 0, .int 0, .int 0, .int 0, .int 0, .ref z_23]))] := hD
        refine va_astq hx hb hK hP hD hS 5 7 6 7 rfl rfl rfl rfl (vp_in_nI hi (by decide)) dX5_init_167 (fun H locs hP hD hS => ?_)
        have hP : va_P (dC, dI) vwCl [(a0, .inr (5, [.ref a_1, .ref a_5, .ref a_7, .ref a_9, .ref a_11, .ref a_14, .int 0, .int 1, .int 0, .int 0, .int 0, .int 0])), (a_1, .inr (2, [.ref z_3, .int 0, .ref z_4, .int 0])), (a_5, .inl (cy 4, 12, .inr (.inr (.inr (.inr g1))))), (a_7, .inl (cy 5, 12, .inr (.inr (.inr (.inr g2))))), (a_9, .inl (cy 6, 10, .inr (.inr (.inr (.inr g3))))), (a_11, .inl (cy 7, 200, .inr (.inr (.inr (.inr (va_up g4 (nI i : Int32).toNatClampNeg (some a_21))))))), (a_21, .inr (7, [.int 0, .int 0, .int 0, .int 0, .int 0, .int 0, .int 0, .int 0, .int 0, .int 0, .int 0, .int 0, .ref z_23]))] _ := hP
        have hD : va_D A [(a0, .inr (5, [.ref a_1, .ref a_5, .ref a_7, .ref a_9, .ref a_11, .ref a_14, .int 0, .int 1, .int 0, .int 0, .int 0, .int 0])), (a_1, .inr (2, [.ref z_3, .int 0, .ref z_4, .int 0])), (a_5, .inl (cy 4, 12, .inr (.inr (.inr (.inr g1))))), (a_7, .inl (cy 5, 12, .inr (.inr (.inr (.inr g2))))), (a_9, .inl (cy 6, 10, .inr (.inr (.inr (.inr g3))))), (a_11, .inl (cy 7, 200, .inr (.inr (.inr (.inr (va_up g4 (nI i : Int32).toNatClampNeg (some a_21))))))), (a_21, .inr (7, [.int 0, .int 0, .int 0, .int 0, .int 0, .int 0, .int 0, .int 0, .int 0, .int 0, .int 0, .int 0, .ref z_23]))] := hD
        refine lv_iinc (v := nI (i + 1)) (lv' := [(2, .int (nI (i + 1))), (0, .ref a0)]) hx hb dX5_init_168 hl (k := 0) rfl (nI_1 i) (by decide) rfl (fun ls hl => ?_)
        refine lv_goto (tgt := 148) hx hb dX5_init_171 (by decide) ?_
        refine W.widen (k := (((0 + 1 + 158 + 1 + 1 + 1 + 1 + 1 + 201) + 6 * 12) + 1 * 10) + 2 * (i + 1)) (n := (((0 + 4 + 2676 + 12 + 12 + 10 + 200 + 1 + 400) + 220 * 12) + 12 * 10) + 24 * (i + 1)) (by omega) (by omega) ?_
        exact ih (va_up g4 (nI i : Int32).toNatClampNeg (some a_21)) _ _ ls ⟨hP.sub [0, 1, 2, 3, 4, 5] rfl, hD.sub [0, 1, 2, 3, 4, 5] (by decide) rfl, hS, lv_sub hl [0, 1] rfl⟩
    · rintro i g3 H locs ls hi ⟨hP, hD, hS, hl⟩ ih
      have hP : va_P (dC, dI) vwCl [(a0, .inr (5, [.ref a_1, .ref a_5, .ref a_7, .ref a_9, .ref a_11, .ref a_14, .int 0, .int 1, .int 0, .int 0, .int 0, .int 0])), (a_1, .inr (2, [.ref z_3, .int 0, .ref z_4, .int 0])), (a_5, .inl (cy 4, 12, .inr (.inr (.inr (.inr g1))))), (a_7, .inl (cy 5, 12, .inr (.inr (.inr (.inr g2))))), (a_9, .inl (cy 6, 10, .inr (.inr (.inr (.inr g3))))), (a_11, .inl (cy 7, 200, .inr (.inr (.inr (.inr ((fun _ => none)))))))] _ := hP
      have hD : va_D A [(a0, .inr (5, [.ref a_1, .ref a_5, .ref a_7, .ref a_9, .ref a_11, .ref a_14, .int 0, .int 1, .int 0, .int 0, .int 0, .int 0])), (a_1, .inr (2, [.ref z_3, .int 0, .ref z_4, .int 0])), (a_5, .inl (cy 4, 12, .inr (.inr (.inr (.inr g1))))), (a_7, .inl (cy 5, 12, .inr (.inr (.inr (.inr g2))))), (a_9, .inl (cy 6, 10, .inr (.inr (.inr (.inr g3))))), (a_11, .inl (cy 7, 200, .inr (.inr (.inr (.inr ((fun _ => none)))))))] := hD
      have hl : lv_has ls 3 [(2, .int (nI i)), (0, .ref a0)] := hl
      refine lv_iload_n hx hb dX5_init_121 rfl (lv_at hl 0 rfl) ?_
      refine lv_bipush (v := 10) hx hb dX5_init_122 (by decide) ?_
      refine lv_icmp_ge (tgt := 146) hx hb dX5_init_124 (by decide) (fun c_24 => absurd c_24 (show ¬ (10 : Int32) ≤ nI i from nI_ge hi (by decide))) (fun _ => ?_)
      refine lv_aload_n hx hb dX5_init_127 rfl (lv_at hl 1 rfl) ?_
      refine va_get (D := (dC, dI)) (ci := 5) (v := .ref a_9) (C := RX5) (T := TX5) (N := 12) hx hb hts tl_X5 hown hK hP 0 rfl rfl 3 (by decide) (hts _ tw_363) (fun _ h9 => h9) rfl dX5_init_128 ?_
      refine lv_iload_n hx hb dX5_init_131 rfl (lv_at hl 0 rfl) ?_
      have h8_a_25 : tp_dv 12 tyX0 [.int 0, .int 0, .int 0, .int 0, .int 0, .int 0, .int 0, .int 0, .int 0, .int 0, .int 0, .int 0] = true := by decide +kernel
      refine va_new (ci := 0) (fs := [.int 0, .int 0, .int 0, .int 0, .int 0, .int 0, .int 0, .int 0, .int 0, .int 0, .int 0, .int 0]) (C := RX0) (T := TX0) (N := 12) hx hb hts tl_X0 tyX0 tyX0_ok hown (hts _ tw_197) (hts _ tw_243) (hts _ tw_46) hK hP hD hS hA rfl (fun j hj => by exact tp_dv_ok h8_a_25 j hj) (by show ((0 + 1 + 158 + 1 + 1 + 1 + 1 + 1 + 201) + 6 * 12) + 1 * i + 1 ≤ 847; omega) (by show ((0 + 4 + 2676 + 12 + 12 + 10 + 200 + 1 + 400) + 220 * 12) + 12 * i + 12 ≤ 10875; omega) dX5_init_132 (fun a_25 H hP hD hS => ?_)
      have hP : va_P (dC, dI) vwCl [(a0, .inr (5, [.ref a_1, .ref a_5, .ref a_7, .ref a_9, .ref a_11, .ref a_14, .int 0, .int 1, .int 0, .int 0, .int 0, .int 0])), (a_1, .inr (2, [.ref z_3, .int 0, .ref z_4, .int 0])), (a_5, .inl (cy 4, 12, .inr (.inr (.inr (.inr g1))))), (a_7, .inl (cy 5, 12, .inr (.inr (.inr (.inr g2))))), (a_9, .inl (cy 6, 10, .inr (.inr (.inr (.inr g3))))), (a_11, .inl (cy 7, 200, .inr (.inr (.inr (.inr ((fun _ => none))))))), (a_25, .inr (0, [.int 0, .int 0, .int 0, .int 0, .int 0, .int 0, .int 0, .int 0, .int 0, .int 0, .int 0, .int 0]))] _ := hP
      have hD : va_D A [(a0, .inr (5, [.ref a_1, .ref a_5, .ref a_7, .ref a_9, .ref a_11, .ref a_14, .int 0, .int 1, .int 0, .int 0, .int 0, .int 0])), (a_1, .inr (2, [.ref z_3, .int 0, .ref z_4, .int 0])), (a_5, .inl (cy 4, 12, .inr (.inr (.inr (.inr g1))))), (a_7, .inl (cy 5, 12, .inr (.inr (.inr (.inr g2))))), (a_9, .inl (cy 6, 10, .inr (.inr (.inr (.inr g3))))), (a_11, .inl (cy 7, 200, .inr (.inr (.inr (.inr ((fun _ => none))))))), (a_25, .inr (0, [.int 0, .int 0, .int 0, .int 0, .int 0, .int 0, .int 0, .int 0, .int 0, .int 0, .int 0, .int 0]))] := hD
      refine lv_dup hx hb dX5_init_135 rfl ?_
      have hFc := va_free (wc := [(a_25, .inr (0, [.int 0, .int 0, .int 0, .int 0, .int 0, .int 0, .int 0, .int 0, .int 0, .int 0, .int 0, .int 0]))]) hD hS hA [6] rfl
      refine va_callv (va_runIN (As := []) (rest := [.ref a_25, .int (nI i), .ref a_9]) ⟨hx, hb, hml, hown, hts⟩ (tm_Flow l hst dC dI cy a_25 H.size) ⟨tp_cnB 0 hts (te_m3 hE) tw_46 tw_246 rfl rfl (by decide +kernel) ⟨Nat.le_of_ble_eq_true rfl, Nat.le_of_ble_eq_true rfl⟩, rfl, hts _ tw_245⟩ ⟨tp_blind, fun U hU hW => ⟨rfl, tp_pay hK hP hD hE hZ hS [6] (by decide) rfl hFc U hU hW⟩⟩ rfl rfl hl.1 rfl (lv_room (Nat.le_of_ble_eq_true rfl)) dX5_init_136 ⟨(by show ((0 + 1 + 158 + 1 + 1 + 1 + 1 + 1 + 201) + 6 * 12) + 1 * i + 1 + 0 ≤ 847; omega), (by show ((0 + 4 + 2676 + 12 + 12 + 10 + 200 + 1 + 400) + 220 * 12) + 12 * i + 12 + 0 ≤ 10875; omega)⟩) hS (fun q _ h => hFc q h) hFc (fun u t H1 locs ht hvm hw hB hz1 hk1 hS => ?_)
      obtain ⟨hP1, hD1⟩ := hB
      rw [ht] at hP1
      obtain ⟨hP, hD⟩ := va_join (wr := [(a0, .inr (5, [.ref a_1, .ref a_5, .ref a_7, .ref a_9, .ref a_11, .ref a_14, .int 0, .int 1, .int 0, .int 0, .int 0, .int 0])), (a_1, .inr (2, [.ref z_3, .int 0, .ref z_4, .int 0])), (a_5, .inl (cy 4, 12, .inr (.inr (.inr (.inr g1))))), (a_7, .inl (cy 5, 12, .inr (.inr (.inr (.inr g2))))), (a_9, .inl (cy 6, 10, .inr (.inr (.inr (.inr g3))))), (a_11, .inl (cy 7, 200, .inr (.inr (.inr (.inr ((fun _ => none)))))))]) (w1 := [(a_25, .inr (0, [.int 0, .int 0, .int 0, .int 0, .int 1, .int 0, .int 0, .int 0, .int 0, .int 0, .int 0, .int 0]))]) hP hD [6] [0, 1, 2, 3, 4, 5] rfl rfl (by decide) (by decide) hk1 hFc hP1 hD1
      generalize H1 = H at hP hS ⊢
      have hP : va_P (dC, dI) vwCl [(a0, .inr (5, [.ref a_1, .ref a_5, .ref a_7, .ref a_9, .ref a_11, .ref a_14, .int 0, .int 1, .int 0, .int 0, .int 0, .int 0])), (a_1, .inr (2, [.ref z_3, .int 0, .ref z_4, .int 0])), (a_5, .inl (cy 4, 12, .inr (.inr (.inr (.inr g1))))), (a_7, .inl (cy 5, 12, .inr (.inr (.inr (.inr g2))))), (a_9, .inl (cy 6, 10, .inr (.inr (.inr (.inr g3))))), (a_11, .inl (cy 7, 200, .inr (.inr (.inr (.inr ((fun _ => none))))))), (a_25, .inr (0, [.int 0, .int 0, .int 0, .int 0, .int 1, .int 0, .int 0, .int 0, .int 0, .int 0, .int 0, .int 0]))] _ := hP
      have hD : va_D A [(a0, .inr (5, [.ref a_1, .ref a_5, .ref a_7, .ref a_9, .ref a_11, .ref a_14, .int 0, .int 1, .int 0, .int 0, .int 0, .int 0])), (a_1, .inr (2, [.ref z_3, .int 0, .ref z_4, .int 0])), (a_5, .inl (cy 4, 12, .inr (.inr (.inr (.inr g1))))), (a_7, .inl (cy 5, 12, .inr (.inr (.inr (.inr g2))))), (a_9, .inl (cy 6, 10, .inr (.inr (.inr (.inr g3))))), (a_11, .inl (cy 7, 200, .inr (.inr (.inr (.inr ((fun _ => none))))))), (a_25, .inr (0, [.int 0, .int 0, .int 0, .int 0, .int 1, .int 0, .int 0, .int 0, .int 0, .int 0, .int 0, .int 0]))] := hD
      refine va_astq hx hb hK hP hD hS 4 6 6 0 rfl rfl rfl rfl (vp_in_nI hi (by decide)) dX5_init_139 (fun H locs hP hD hS => ?_)
      have hP : va_P (dC, dI) vwCl [(a0, .inr (5, [.ref a_1, .ref a_5, .ref a_7, .ref a_9, .ref a_11, .ref a_14, .int 0, .int 1, .int 0, .int 0, .int 0, .int 0])), (a_1, .inr (2, [.ref z_3, .int 0, .ref z_4, .int 0])), (a_5, .inl (cy 4, 12, .inr (.inr (.inr (.inr g1))))), (a_7, .inl (cy 5, 12, .inr (.inr (.inr (.inr g2))))), (a_9, .inl (cy 6, 10, .inr (.inr (.inr (.inr (va_up g3 (nI i : Int32).toNatClampNeg (some a_25))))))), (a_11, .inl (cy 7, 200, .inr (.inr (.inr (.inr ((fun _ => none))))))), (a_25, .inr (0, [.int 0, .int 0, .int 0, .int 0, .int 1, .int 0, .int 0, .int 0, .int 0, .int 0, .int 0, .int 0]))] _ := hP
      have hD : va_D A [(a0, .inr (5, [.ref a_1, .ref a_5, .ref a_7, .ref a_9, .ref a_11, .ref a_14, .int 0, .int 1, .int 0, .int 0, .int 0, .int 0])), (a_1, .inr (2, [.ref z_3, .int 0, .ref z_4, .int 0])), (a_5, .inl (cy 4, 12, .inr (.inr (.inr (.inr g1))))), (a_7, .inl (cy 5, 12, .inr (.inr (.inr (.inr g2))))), (a_9, .inl (cy 6, 10, .inr (.inr (.inr (.inr (va_up g3 (nI i : Int32).toNatClampNeg (some a_25))))))), (a_11, .inl (cy 7, 200, .inr (.inr (.inr (.inr ((fun _ => none))))))), (a_25, .inr (0, [.int 0, .int 0, .int 0, .int 0, .int 1, .int 0, .int 0, .int 0, .int 0, .int 0, .int 0, .int 0]))] := hD
      refine lv_iinc (v := nI (i + 1)) (lv' := [(2, .int (nI (i + 1))), (0, .ref a0)]) hx hb dX5_init_140 hl (k := 0) rfl (nI_1 i) (by decide) rfl (fun ls hl => ?_)
      refine lv_goto (tgt := 121) hx hb dX5_init_143 (by decide) ?_
      refine W.widen (k := ((0 + 1 + 158 + 1 + 1 + 1 + 1 + 1 + 201) + 6 * 12) + 1 * (i + 1)) (n := ((0 + 4 + 2676 + 12 + 12 + 10 + 200 + 1 + 400) + 220 * 12) + 12 * (i + 1)) (by omega) (by omega) ?_
      exact ih (va_up g3 (nI i : Int32).toNatClampNeg (some a_25)) _ _ ls ⟨hP.sub [0, 1, 2, 3, 4, 5] rfl, hD.sub [0, 1, 2, 3, 4, 5] (by decide) rfl, hS, lv_sub hl [0, 1] rfl⟩
  · rintro i ⟨g1, g2⟩ H locs ls hi ⟨hP, hD, hS, hl⟩ ih
    have hP : va_P (dC, dI) vwCl [(a0, .inr (5, [.ref a_1, .ref a_5, .ref a_7, .ref a_9, .ref a_11, .ref a_14, .int 0, .int 1, .int 0, .int 0, .int 0, .int 0])), (a_1, .inr (2, [.ref z_3, .int 0, .ref z_4, .int 0])), (a_5, .inl (cy 4, 12, .inr (.inr (.inr (.inr g1))))), (a_7, .inl (cy 5, 12, .inr (.inr (.inr (.inr g2))))), (a_9, .inl (cy 6, 10, .inr (.inr (.inr (.inr ((fun _ => none))))))), (a_11, .inl (cy 7, 200, .inr (.inr (.inr (.inr ((fun _ => none)))))))] _ := hP
    have hD : va_D A [(a0, .inr (5, [.ref a_1, .ref a_5, .ref a_7, .ref a_9, .ref a_11, .ref a_14, .int 0, .int 1, .int 0, .int 0, .int 0, .int 0])), (a_1, .inr (2, [.ref z_3, .int 0, .ref z_4, .int 0])), (a_5, .inl (cy 4, 12, .inr (.inr (.inr (.inr g1))))), (a_7, .inl (cy 5, 12, .inr (.inr (.inr (.inr g2))))), (a_9, .inl (cy 6, 10, .inr (.inr (.inr (.inr ((fun _ => none))))))), (a_11, .inl (cy 7, 200, .inr (.inr (.inr (.inr ((fun _ => none)))))))] := hD
    have hl : lv_has ls 3 [(2, .int (nI i)), (0, .ref a0)] := hl
    refine lv_iload_n hx hb dX5_init_78 rfl (lv_at hl 0 rfl) ?_
    refine lv_bipush (v := 12) hx hb dX5_init_79 (by decide) ?_
    refine lv_icmp_ge (tgt := 119) hx hb dX5_init_81 (by decide) (fun c_27 => absurd c_27 (show ¬ (12 : Int32) ≤ nI i from nI_ge hi (by decide))) (fun _ => ?_)
    refine lv_aload_n hx hb dX5_init_84 rfl (lv_at hl 1 rfl) ?_
    refine va_get (D := (dC, dI)) (ci := 5) (v := .ref a_5) (C := RX5) (T := TX5) (N := 12) hx hb hts tl_X5 hown hK hP 0 rfl rfl 1 (by decide) (hts _ tw_359) (fun _ h9 => h9) rfl dX5_init_85 ?_
    refine lv_iload_n hx hb dX5_init_88 rfl (lv_at hl 0 rfl) ?_
    have h8_a_28 : tp_dv 6 tyX4 [.null, .null, .null, .int 0, .int 0, .int 0] = true := by decide +kernel
    refine va_new (ci := 4) (fs := [.null, .null, .null, .int 0, .int 0, .int 0]) (C := RX4) (T := TX4) (N := 6) hx hb hts tl_X4 tyX4 tyX4_ok hown (hts _ tw_193) (hts _ tw_214) (hts _ tw_45) hK hP hD hS hA rfl (fun j hj => by exact tp_dv_ok h8_a_28 j hj) (by show (0 + 1 + 158 + 1 + 1 + 1 + 1 + 1 + 201) + 6 * i + 1 ≤ 847; omega) (by show (0 + 4 + 2676 + 12 + 12 + 10 + 200 + 1 + 400) + 220 * i + 6 ≤ 10875; omega) dX5_init_89 (fun a_28 H hP hD hS => ?_)
    have hP : va_P (dC, dI) vwCl [(a0, .inr (5, [.ref a_1, .ref a_5, .ref a_7, .ref a_9, .ref a_11, .ref a_14, .int 0, .int 1, .int 0, .int 0, .int 0, .int 0])), (a_1, .inr (2, [.ref z_3, .int 0, .ref z_4, .int 0])), (a_5, .inl (cy 4, 12, .inr (.inr (.inr (.inr g1))))), (a_7, .inl (cy 5, 12, .inr (.inr (.inr (.inr g2))))), (a_9, .inl (cy 6, 10, .inr (.inr (.inr (.inr ((fun _ => none))))))), (a_11, .inl (cy 7, 200, .inr (.inr (.inr (.inr ((fun _ => none))))))), (a_28, .inr (4, [.null, .null, .null, .int 0, .int 0, .int 0]))] _ := hP
    have hD : va_D A [(a0, .inr (5, [.ref a_1, .ref a_5, .ref a_7, .ref a_9, .ref a_11, .ref a_14, .int 0, .int 1, .int 0, .int 0, .int 0, .int 0])), (a_1, .inr (2, [.ref z_3, .int 0, .ref z_4, .int 0])), (a_5, .inl (cy 4, 12, .inr (.inr (.inr (.inr g1))))), (a_7, .inl (cy 5, 12, .inr (.inr (.inr (.inr g2))))), (a_9, .inl (cy 6, 10, .inr (.inr (.inr (.inr ((fun _ => none))))))), (a_11, .inl (cy 7, 200, .inr (.inr (.inr (.inr ((fun _ => none))))))), (a_28, .inr (4, [.null, .null, .null, .int 0, .int 0, .int 0]))] := hD
    refine lv_dup hx hb dX5_init_92 rfl ?_
    have hFc := va_free (wc := [(a_28, .inr (4, [.null, .null, .null, .int 0, .int 0, .int 0]))]) hD hS hA [6] rfl
    refine va_callv (va_runIN (As := []) (rest := [.ref a_28, .int (nI i), .ref a_5]) ⟨hx, hb, hml, hown, hts⟩ (tm_Signal l hst dC dI cy a_28 H.size) ⟨tp_cnB 0 hts (te_m2 hE) tw_45 tw_217 rfl rfl (by decide +kernel) ⟨Nat.le_of_ble_eq_true rfl, Nat.le_of_ble_eq_true rfl⟩, rfl, hts _ tw_216⟩ ⟨tp_blind, fun U hU hW => ⟨rfl, tp_pay hK hP hD hE hZ hS [6] (by decide) rfl hFc U hU hW⟩⟩ rfl rfl hl.1 rfl (lv_room (Nat.le_of_ble_eq_true rfl)) dX5_init_93 ⟨(by show (0 + 1 + 158 + 1 + 1 + 1 + 1 + 1 + 201) + 6 * i + 1 + 3 ≤ 847; omega), (by show (0 + 4 + 2676 + 12 + 12 + 10 + 200 + 1 + 400) + 220 * i + 6 + 12 ≤ 10875; omega)⟩) hS (fun q _ h => hFc q h) hFc (fun u t H1 locs ht hvm hw hB hz1 hk1 hS => ?_)
    obtain ⟨z_30, z_31, z_32, hP1, hD1⟩ := hB
    rw [ht] at hP1
    obtain ⟨hP, hD⟩ := va_join (wr := [(a0, .inr (5, [.ref a_1, .ref a_5, .ref a_7, .ref a_9, .ref a_11, .ref a_14, .int 0, .int 1, .int 0, .int 0, .int 0, .int 0])), (a_1, .inr (2, [.ref z_3, .int 0, .ref z_4, .int 0])), (a_5, .inl (cy 4, 12, .inr (.inr (.inr (.inr g1))))), (a_7, .inl (cy 5, 12, .inr (.inr (.inr (.inr g2))))), (a_9, .inl (cy 6, 10, .inr (.inr (.inr (.inr ((fun _ => none))))))), (a_11, .inl (cy 7, 200, .inr (.inr (.inr (.inr ((fun _ => none)))))))]) (w1 := [(a_28, .inr (4, [.ref z_30, .ref z_31, .ref z_32, .int 0, .int ((-1)), .int 0]))]) hP hD [6] [0, 1, 2, 3, 4, 5] rfl rfl (by decide) (by decide) hk1 hFc hP1 hD1
    generalize H1 = H at hP hS ⊢
    have hP : va_P (dC, dI) vwCl [(a0, .inr (5, [.ref a_1, .ref a_5, .ref a_7, .ref a_9, .ref a_11, .ref a_14, .int 0, .int 1, .int 0, .int 0, .int 0, .int 0])), (a_1, .inr (2, [.ref z_3, .int 0, .ref z_4, .int 0])), (a_5, .inl (cy 4, 12, .inr (.inr (.inr (.inr g1))))), (a_7, .inl (cy 5, 12, .inr (.inr (.inr (.inr g2))))), (a_9, .inl (cy 6, 10, .inr (.inr (.inr (.inr ((fun _ => none))))))), (a_11, .inl (cy 7, 200, .inr (.inr (.inr (.inr ((fun _ => none))))))), (a_28, .inr (4, [.ref z_30, .ref z_31, .ref z_32, .int 0, .int ((-1)), .int 0]))] _ := hP
    have hD : va_D A [(a0, .inr (5, [.ref a_1, .ref a_5, .ref a_7, .ref a_9, .ref a_11, .ref a_14, .int 0, .int 1, .int 0, .int 0, .int 0, .int 0])), (a_1, .inr (2, [.ref z_3, .int 0, .ref z_4, .int 0])), (a_5, .inl (cy 4, 12, .inr (.inr (.inr (.inr g1))))), (a_7, .inl (cy 5, 12, .inr (.inr (.inr (.inr g2))))), (a_9, .inl (cy 6, 10, .inr (.inr (.inr (.inr ((fun _ => none))))))), (a_11, .inl (cy 7, 200, .inr (.inr (.inr (.inr ((fun _ => none))))))), (a_28, .inr (4, [.ref z_30, .ref z_31, .ref z_32, .int 0, .int ((-1)), .int 0]))] := hD
    refine va_astq hx hb hK hP hD hS 2 4 6 4 rfl rfl rfl rfl (vp_in_nI hi (by decide)) dX5_init_96 (fun H locs hP hD hS => ?_)
    have hP : va_P (dC, dI) vwCl [(a0, .inr (5, [.ref a_1, .ref a_5, .ref a_7, .ref a_9, .ref a_11, .ref a_14, .int 0, .int 1, .int 0, .int 0, .int 0, .int 0])), (a_1, .inr (2, [.ref z_3, .int 0, .ref z_4, .int 0])), (a_5, .inl (cy 4, 12, .inr (.inr (.inr (.inr (va_up g1 (nI i : Int32).toNatClampNeg (some a_28))))))), (a_7, .inl (cy 5, 12, .inr (.inr (.inr (.inr g2))))), (a_9, .inl (cy 6, 10, .inr (.inr (.inr (.inr ((fun _ => none))))))), (a_11, .inl (cy 7, 200, .inr (.inr (.inr (.inr ((fun _ => none))))))), (a_28, .inr (4, [.ref z_30, .ref z_31, .ref z_32, .int 0, .int ((-1)), .int 0]))] _ := hP
    have hD : va_D A [(a0, .inr (5, [.ref a_1, .ref a_5, .ref a_7, .ref a_9, .ref a_11, .ref a_14, .int 0, .int 1, .int 0, .int 0, .int 0, .int 0])), (a_1, .inr (2, [.ref z_3, .int 0, .ref z_4, .int 0])), (a_5, .inl (cy 4, 12, .inr (.inr (.inr (.inr (va_up g1 (nI i : Int32).toNatClampNeg (some a_28))))))), (a_7, .inl (cy 5, 12, .inr (.inr (.inr (.inr g2))))), (a_9, .inl (cy 6, 10, .inr (.inr (.inr (.inr ((fun _ => none))))))), (a_11, .inl (cy 7, 200, .inr (.inr (.inr (.inr ((fun _ => none))))))), (a_28, .inr (4, [.ref z_30, .ref z_31, .ref z_32, .int 0, .int ((-1)), .int 0]))] := hD
    refine lv_aload_n hx hb dX5_init_97 rfl (lv_at hl 1 rfl) ?_
    refine va_get (D := (dC, dI)) (ci := 5) (v := .ref a_7) (C := RX5) (T := TX5) (N := 12) hx hb hts tl_X5 hown hK hP 0 rfl rfl 2 (by decide) (hts _ tw_361) (fun _ h9 => h9) rfl dX5_init_98 ?_
    refine lv_iload_n hx hb dX5_init_101 rfl (lv_at hl 0 rfl) ?_
    have h8_a_33 : tp_dv 2 tyX3 [.null, .int 0] = true := by decide +kernel
    refine va_new (ci := 3) (fs := [.null, .int 0]) (C := RX3) (T := TX3) (N := 2) hx hb hts tl_X3 tyX3 tyX3_ok hown (hts _ tw_195) (hts _ tw_88) (hts _ tw_42) hK hP hD hS hA rfl (fun j hj => by exact tp_dv_ok h8_a_33 j hj) (by show (0 + 1 + 158 + 1 + 1 + 1 + 1 + 1 + 201) + 6 * i + 1 + 3 + 1 ≤ 847; omega) (by show (0 + 4 + 2676 + 12 + 12 + 10 + 200 + 1 + 400) + 220 * i + 6 + 12 + 2 ≤ 10875; omega) dX5_init_102 (fun a_33 H hP hD hS => ?_)
    have hP : va_P (dC, dI) vwCl [(a0, .inr (5, [.ref a_1, .ref a_5, .ref a_7, .ref a_9, .ref a_11, .ref a_14, .int 0, .int 1, .int 0, .int 0, .int 0, .int 0])), (a_1, .inr (2, [.ref z_3, .int 0, .ref z_4, .int 0])), (a_5, .inl (cy 4, 12, .inr (.inr (.inr (.inr (va_up g1 (nI i : Int32).toNatClampNeg (some a_28))))))), (a_7, .inl (cy 5, 12, .inr (.inr (.inr (.inr g2))))), (a_9, .inl (cy 6, 10, .inr (.inr (.inr (.inr ((fun _ => none))))))), (a_11, .inl (cy 7, 200, .inr (.inr (.inr (.inr ((fun _ => none))))))), (a_28, .inr (4, [.ref z_30, .ref z_31, .ref z_32, .int 0, .int ((-1)), .int 0])), (a_33, .inr (3, [.null, .int 0]))] _ := hP
    have hD : va_D A [(a0, .inr (5, [.ref a_1, .ref a_5, .ref a_7, .ref a_9, .ref a_11, .ref a_14, .int 0, .int 1, .int 0, .int 0, .int 0, .int 0])), (a_1, .inr (2, [.ref z_3, .int 0, .ref z_4, .int 0])), (a_5, .inl (cy 4, 12, .inr (.inr (.inr (.inr (va_up g1 (nI i : Int32).toNatClampNeg (some a_28))))))), (a_7, .inl (cy 5, 12, .inr (.inr (.inr (.inr g2))))), (a_9, .inl (cy 6, 10, .inr (.inr (.inr (.inr ((fun _ => none))))))), (a_11, .inl (cy 7, 200, .inr (.inr (.inr (.inr ((fun _ => none))))))), (a_28, .inr (4, [.ref z_30, .ref z_31, .ref z_32, .int 0, .int ((-1)), .int 0])), (a_33, .inr (3, [.null, .int 0]))] := hD
    refine lv_dup hx hb dX5_init_105 rfl ?_
    refine lv_sipush (v := 200) hx hb dX5_init_106 (by decide) ?_
    have hFc := va_free (wc := [(a_33, .inr (3, [.null, .int 0]))]) hD hS hA [7] rfl
    refine va_callv (va_runI (As := [.int 200]) (rest := [.ref a_33, .int (nI i), .ref a_7]) ⟨hx, hb, hml, hown, hts⟩ (tm_Row_200 l hst dC dI cy a_33 H.size) (tp_cwI 1 hts tw_242 tw_90 tw_42 tw_91 rfl rfl rfl (by decide +kernel) ⟨Nat.le_of_ble_eq_true rfl, Nat.le_of_ble_eq_true rfl⟩) ⟨tp_blind, fun U hU hW => ⟨rfl, tp_pay hK hP hD hE hZ hS [7] (by decide) rfl hFc U hU hW⟩⟩ rfl rfl hl.1 rfl (lv_room (Nat.le_of_ble_eq_true rfl)) dX5_init_109 ⟨(by show (0 + 1 + 158 + 1 + 1 + 1 + 1 + 1 + 201) + 6 * i + 1 + 3 + 1 + 1 ≤ 847; omega), (by show (0 + 4 + 2676 + 12 + 12 + 10 + 200 + 1 + 400) + 220 * i + 6 + 12 + 2 + 200 ≤ 10875; omega)⟩) hS (fun q _ h => hFc q h) hFc (fun u t H1 locs ht hvm hw hB hz1 hk1 hS => ?_)
    obtain ⟨z_35, hP1, hD1⟩ := hB
    rw [ht] at hP1
    obtain ⟨hP, hD⟩ := va_join (wr := [(a0, .inr (5, [.ref a_1, .ref a_5, .ref a_7, .ref a_9, .ref a_11, .ref a_14, .int 0, .int 1, .int 0, .int 0, .int 0, .int 0])), (a_1, .inr (2, [.ref z_3, .int 0, .ref z_4, .int 0])), (a_5, .inl (cy 4, 12, .inr (.inr (.inr (.inr (va_up g1 (nI i : Int32).toNatClampNeg (some a_28))))))), (a_7, .inl (cy 5, 12, .inr (.inr (.inr (.inr g2))))), (a_9, .inl (cy 6, 10, .inr (.inr (.inr (.inr ((fun _ => none))))))), (a_11, .inl (cy 7, 200, .inr (.inr (.inr (.inr ((fun _ => none))))))), (a_28, .inr (4, [.ref z_30, .ref z_31, .ref z_32, .int 0, .int ((-1)), .int 0]))]) (w1 := [(a_33, .inr (3, [.ref z_35, .int 0]))]) hP hD [7] [0, 1, 2, 3, 4, 5, 6] rfl rfl (by decide) (by decide) hk1 hFc hP1 hD1
    generalize H1 = H at hP hS ⊢
    have hP : va_P (dC, dI) vwCl [(a0, .inr (5, [.ref a_1, .ref a_5, .ref a_7, .ref a_9, .ref a_11, .ref a_14, .int 0, .int 1, .int 0, .int 0, .int 0, .int 0])), (a_1, .inr (2, [.ref z_3, .int 0, .ref z_4, .int 0])), (a_5, .inl (cy 4, 12, .inr (.inr (.inr (.inr (va_up g1 (nI i : Int32).toNatClampNeg (some a_28))))))), (a_7, .inl (cy 5, 12, .inr (.inr (.inr (.inr g2))))), (a_9, .inl (cy 6, 10, .inr (.inr (.inr (.inr ((fun _ => none))))))), (a_11, .inl (cy 7, 200, .inr (.inr (.inr (.inr ((fun _ => none))))))), (a_28, .inr (4, [.ref z_30, .ref z_31, .ref z_32, .int 0, .int ((-1)), .int 0])), (a_33, .inr (3, [.ref z_35, .int 0]))] _ := hP
    have hD : va_D A [(a0, .inr (5, [.ref a_1, .ref a_5, .ref a_7, .ref a_9, .ref a_11, .ref a_14, .int 0, .int 1, .int 0, .int 0, .int 0, .int 0])), (a_1, .inr (2, [.ref z_3, .int 0, .ref z_4, .int 0])), (a_5, .inl (cy 4, 12, .inr (.inr (.inr (.inr (va_up g1 (nI i : Int32).toNatClampNeg (some a_28))))))), (a_7, .inl (cy 5, 12, .inr (.inr (.inr (.inr g2))))), (a_9, .inl (cy 6, 10, .inr (.inr (.inr (.inr ((fun _ => none))))))), (a_11, .inl (cy 7, 200, .inr (.inr (.inr (.inr ((fun _ => none))))))), (a_28, .inr (4, [.ref z_30, .ref z_31, .ref z_32, .int 0, .int ((-1)), .int 0])), (a_33, .inr (3, [.ref z_35, .int 0]))] := hD
    refine va_astq hx hb hK hP hD hS 3 5 7 3 rfl rfl rfl rfl (vp_in_nI hi (by decide)) dX5_init_112 (fun H locs hP hD hS => ?_)
    have hP : va_P (dC, dI) vwCl [(a0, .inr (5, [.ref a_1, .ref a_5, .ref a_7, .ref a_9, .ref a_11, .ref a_14, .int 0, .int 1, .int 0, .int 0, .int 0, .int 0])), (a_1, .inr (2, [.ref z_3, .int 0, .ref z_4, .int 0])), (a_5, .inl (cy 4, 12, .inr (.inr (.inr (.inr (va_up g1 (nI i : Int32).toNatClampNeg (some a_28))))))), (a_7, .inl (cy 5, 12, .inr (.inr (.inr (.inr (va_up g2 (nI i : Int32).toNatClampNeg (some a_33))))))), (a_9, .inl (cy 6, 10, .inr (.inr (.inr (.inr ((fun _ => none))))))), (a_11, .inl (cy 7, 200, .inr (.inr (.inr (.inr ((fun _ => none))))))), (a_28, .inr (4, [.ref z_30, .ref z_31, .ref z_32, .int 0, .int ((-1)), .int 0])), (a_33, .inr (3, [.ref z_35, .int 0]))] _ := hP
    have hD : va_D A [(a0, .inr (5, [.ref a_1, .ref a_5, .ref a_7, .ref a_9, .ref a_11, .ref a_14, .int 0, .int 1, .int 0, .int 0, .int 0, .int 0])), (a_1, .inr (2, [.ref z_3, .int 0, .ref z_4, .int 0])), (a_5, .inl (cy 4, 12, .inr (.inr (.inr (.inr (va_up g1 (nI i : Int32).toNatClampNeg (some a_28))))))), (a_7, .inl (cy 5, 12, .inr (.inr (.inr (.inr (va_up g2 (nI i : Int32).toNatClampNeg (some a_33))))))), (a_9, .inl (cy 6, 10, .inr (.inr (.inr (.inr ((fun _ => none))))))), (a_11, .inl (cy 7, 200, .inr (.inr (.inr (.inr ((fun _ => none))))))), (a_28, .inr (4, [.ref z_30, .ref z_31, .ref z_32, .int 0, .int ((-1)), .int 0])), (a_33, .inr (3, [.ref z_35, .int 0]))] := hD
    refine lv_iinc (v := nI (i + 1)) (lv' := [(2, .int (nI (i + 1))), (0, .ref a0)]) hx hb dX5_init_113 hl (k := 0) rfl (nI_1 i) (by decide) rfl (fun ls hl => ?_)
    refine lv_goto (tgt := 78) hx hb dX5_init_116 (by decide) ?_
    refine W.widen (k := (0 + 1 + 158 + 1 + 1 + 1 + 1 + 1 + 201) + 6 * (i + 1)) (n := (0 + 4 + 2676 + 12 + 12 + 10 + 200 + 1 + 400) + 220 * (i + 1)) (by omega) (by omega) ?_
    exact ih (va_up g1 (nI i : Int32).toNatClampNeg (some a_28), va_up g2 (nI i : Int32).toNatClampNeg (some a_33)) _ _ ls ⟨hP.sub [0, 1, 2, 3, 4, 5] rfl, hD.sub [0, 1, 2, 3, 4, 5] (by decide) rfl, hS, lv_sub hl [0, 1] rfl⟩
set_option maxRecDepth 100000 in
set_option maxHeartbeats 4000000 in
/-- Traffic(false) -/
theorem tm_Traffic_0 (l : Launch) (hst : l.stackTraces = false) (dC : Nat → ClassId) (dI : Nat → Nat → Nat) (cy : Nat → ClassId) (a0 : Nat) (sz : Nat) : Met l yX5_init (tp_w yX5_init cX5_init 3 none) ({ frames := 4, cells := 645, slots := 10474, locals := 76 }) (va_Pc [.ref a0, .int 0] (tp_Pre dC dI cy [(a0, .inr (5, [.null, .null, .null, .null, .null, .null, .int 0, .int 0, .int 0, .int 0, .int 0, .int 0]))] sz)) (va_Qv (fun _ : Unit => True) (fun (_ : Unit) (t : State) => ∃ (q0 : Nat), ∃ (q1 : Nat), ∃ (q2 : Nat), ∃ (q3 : Nat), ∃ (q4 : Nat), tp_Post dC dI (va_A [(a0, .inr (5, [.null, .null, .null, .null, .null, .null, .int 0, .int 0, .int 0, .int 0, .int 0, .int 0]))] sz) [(a0, .inr (5, [.ref q0, .ref q1, .ref q2, .ref q3, .ref q4, .null, .int 0, .int 1, .int 0, .int 0, .int 0, .int 0]))] t) (va_A [(a0, .inr (5, [.null, .null, .null, .null, .null, .null, .int 0, .int 0, .int 0, .int 0, .int 0, .int 0]))] sz)) 645 10474 (va_A [(a0, .inr (5, [.null, .null, .null, .null, .null, .null, .int 0, .int 0, .int 0, .int 0, .int 0, .int 0]))] sz) := by
  refine Met.ofW (cc := cX5_init) (maxL := 3) (ret := none) (by decide) rfl ?_
  intro p e s m args below meth c s₁ B hml hv
  obtain ⟨rfl, hsz, hP, hK, hD0, hE, hZ⟩ := hv
  have hx := B.exec
  have hb := B.bytes
  have hr := B.returns
  have hts0 := atoms_spec (ws := tp_w yX5_init cX5_init 3 none) B.pre
  have hts : ∀ w ∈ tp_all, w.before _ s = true := fun w h => hts0 w (List.mem_cons_of_mem _ h)
  have hown : s.vm.findClass RX5 = some m.cls := findClass_of_methodNamed B.named
  have hlocks := B.notSynchronized
  have hin : meth.name = "<init>" := (name_of_methodNamed B.named B.method).1
  subst hsz
  have hD := hD0.self (sz := s.heap.size)
  generalize hAe : va_A [(a0, .inr (5, [.null, .null, .null, .null, .null, .null, .int 0, .int 0, .int 0, .int 0, .int 0, .int 0]))] s.heap.size = A at hD hZ ⊢
  have hA : ∀ q : Nat, s.heap.size ≤ q → A q := fun q h => by rw [← hAe]; exact Or.inr h
  have hS : va_S A s.heap s.heap [] := va_S.rf
  have hl9 := lv_entry ([.ref a0, .int 0]) (n := 3) (Nat.le_of_ble_eq_true rfl)
  rw [lg_entry_eq]
  generalize (lg_sl ([.ref a0, .int 0]) ++ List.replicate (3 - (lg_sl ([.ref a0, .int 0])).length) Slot.unset).toArray = ls at hl9 ⊢
  have hl : lv_has ls 3 [(0, .ref a0), (1, .int 0)] := hl9
  refine lv_aload_n hx hb dX5_init_0 rfl (lv_at hl 0 rfl) ?_
  refine W.objInit hx hb hown (hts _ tw_71) (hts _ tw_64) (hts _ tw_65) rfl (by rw [hml]; exact hl.1) rfl dX5_init_1 (Nat.le_of_ble_eq_true rfl) (Nat.le_of_ble_eq_true rfl) ?_
  refine W.eq (g2 := F0 m 4 ls []) rfl ?_
  refine lv_aload_n hx hb dX5_init_4 rfl (lv_at hl 0 rfl) ?_
  have h8_a_1 : tp_dv 4 tyX2 [.null, .int 0, .null, .int 0] = true := by decide +kernel
  refine va_new (ci := 2) (fs := [.null, .int 0, .null, .int 0]) (C := RX2) (T := TX2) (N := 4) hx hb hts tl_X2 tyX2 tyX2_ok hown (hts _ tw_72) (hts _ tw_73) (hts _ tw_40) hK hP hD hS hA rfl (fun j hj => by exact tp_dv_ok h8_a_1 j hj) (Nat.le_of_ble_eq_true rfl) (Nat.le_of_ble_eq_true rfl) dX5_init_5 (fun a_1 H hP hD hS => ?_)
  have hP : va_P (dC, dI) vwCl [(a0, .inr (5, [.null, .null, .null, .null, .null, .null, .int 0, .int 0, .int 0, .int 0, .int 0, .int 0])), (a_1, .inr (2, [.null, .int 0, .null, .int 0]))] _ := hP
  have hD : va_D A [(a0, .inr (5, [.null, .null, .null, .null, .null, .null, .int 0, .int 0, .int 0, .int 0, .int 0, .int 0])), (a_1, .inr (2, [.null, .int 0, .null, .int 0]))] := hD
  refine lv_dup hx hb dX5_init_8 rfl ?_
  have hFc := va_free (wc := [(a_1, .inr (2, [.null, .int 0, .null, .int 0]))]) hD hS hA [1] rfl
  refine va_callv (va_runI (As := []) (rest := [.ref a_1, .ref a0]) ⟨hx, hb, hml, hown, hts⟩ (tm_Roads l hst dC dI cy a_1 H.size) (tp_cwI 0 hts tw_74 tw_75 tw_40 tw_76 rfl rfl rfl (by decide +kernel) ⟨Nat.le_of_ble_eq_true rfl, Nat.le_of_ble_eq_true rfl⟩) ⟨tp_blind, fun U hU hW => ⟨rfl, tp_pay hK hP hD hE hZ hS [1] (by decide) rfl hFc U hU hW⟩⟩ rfl rfl hl.1 rfl (lv_room (Nat.le_of_ble_eq_true rfl)) dX5_init_9 ⟨(Nat.le_of_ble_eq_true rfl), (Nat.le_of_ble_eq_true rfl)⟩) hS (fun q _ h => hFc q h) hFc (fun u t H1 locs ht hvm hw hB hz1 hk1 hS => ?_)
  obtain ⟨z_3, z_4, hP1, hD1⟩ := hB
  rw [ht] at hP1
  obtain ⟨hP, hD⟩ := va_join (wr := [(a0, .inr (5, [.null, .null, .null, .null, .null, .null, .int 0, .int 0, .int 0, .int 0, .int 0, .int 0]))]) (w1 := [(a_1, .inr (2, [.ref z_3, .int 0, .ref z_4, .int 0]))]) hP hD [1] [0] rfl rfl (by decide) (by decide) hk1 hFc hP1 hD1
  generalize H1 = H at hP hS ⊢
  have hP : va_P (dC, dI) vwCl [(a0, .inr (5, [.null, .null, .null, .null, .null, .null, .int 0, .int 0, .int 0, .int 0, .int 0, .int 0])), (a_1, .inr (2, [.ref z_3, .int 0, .ref z_4, .int 0]))] _ := hP
  have hD : va_D A [(a0, .inr (5, [.null, .null, .null, .null, .null, .null, .int 0, .int 0, .int 0, .int 0, .int 0, .int 0])), (a_1, .inr (2, [.ref z_3, .int 0, .ref z_4, .int 0]))] := hD
  refine va_putF (D := (dC, dI)) (ci := 5) (v := .ref a_1) (ty := (.object "Turnpike$Roads")) (C := RX5) (T := TX5) (N := 12) hx hb hts tl_X5 tyX5 tyX5_ok nmX5 hown hK hP hD hS 0 rfl rfl 0 (by decide) (hts _ tw_357) (fun _ h9 => h9) rfl hin rfl (by decide +kernel) rfl rfl (Nat.le_of_ble_eq_true rfl) dX5_init_12 (fun H locs hP hD hS => ?_)
  have hP : va_P (dC, dI) vwCl [(a0, .inr (5, [.ref a_1, .null, .null, .null, .null, .null, .int 0, .int 0, .int 0, .int 0, .int 0, .int 0])), (a_1, .inr (2, [.ref z_3, .int 0, .ref z_4, .int 0]))] _ := hP
  have hD : va_D A [(a0, .inr (5, [.ref a_1, .null, .null, .null, .null, .null, .int 0, .int 0, .int 0, .int 0, .int 0, .int 0])), (a_1, .inr (2, [.ref z_3, .int 0, .ref z_4, .int 0]))] := hD
  refine lv_aload_n hx hb dX5_init_15 rfl (lv_at hl 0 rfl) ?_
  refine lv_bipush (v := 12) hx hb dX5_init_16 (by decide) ?_
  refine va_newq hx hb (C := RX4) (N' := 12) hown (hts _ tw_193) (hE.2.2.1 _ (List.mem_of_getElem? (i := 1) rfl)) hK hP hD hS hA (by decide) (by decide) (Nat.le_of_ble_eq_true rfl) (Nat.le_of_ble_eq_true rfl) (Nat.le_of_ble_eq_true rfl) dX5_init_18 (fun a_5 k_6 H hK9 hP hD hS => ?_)
  obtain rfl : k_6 = cy 4 := tp_one hK9 10 4 rfl rfl
  have hP : va_P (dC, dI) vwCl [(a0, .inr (5, [.ref a_1, .null, .null, .null, .null, .null, .int 0, .int 0, .int 0, .int 0, .int 0, .int 0])), (a_1, .inr (2, [.ref z_3, .int 0, .ref z_4, .int 0])), (a_5, .inl (cy 4, 12, .inr (.inr (.inr (.inr ((fun _ => none)))))))] _ := hP
  have hD : va_D A [(a0, .inr (5, [.ref a_1, .null, .null, .null, .null, .null, .int 0, .int 0, .int 0, .int 0, .int 0, .int 0])), (a_1, .inr (2, [.ref z_3, .int 0, .ref z_4, .int 0])), (a_5, .inl (cy 4, 12, .inr (.inr (.inr (.inr ((fun _ => none)))))))] := hD
  refine va_putF (D := (dC, dI)) (ci := 5) (v := .ref a_5) (ty := (.array (.object "Turnpike$Signal"))) (C := RX5) (T := TX5) (N := 12) hx hb hts tl_X5 tyX5 tyX5_ok nmX5 hown hK hP hD hS 0 rfl rfl 1 (by decide) (hts _ tw_359) (fun _ h9 => h9) rfl hin rfl (by decide +kernel) rfl rfl (Nat.le_of_ble_eq_true rfl) dX5_init_21 (fun H locs hP hD hS => ?_)
  have hP : va_P (dC, dI) vwCl [(a0, .inr (5, [.ref a_1, .ref a_5, .null, .null, .null, .null, .int 0, .int 0, .int 0, .int 0, .int 0, .int 0])), (a_1, .inr (2, [.ref z_3, .int 0, .ref z_4, .int 0])), (a_5, .inl (cy 4, 12, .inr (.inr (.inr (.inr ((fun _ => none)))))))] _ := hP
  have hD : va_D A [(a0, .inr (5, [.ref a_1, .ref a_5, .null, .null, .null, .null, .int 0, .int 0, .int 0, .int 0, .int 0, .int 0])), (a_1, .inr (2, [.ref z_3, .int 0, .ref z_4, .int 0])), (a_5, .inl (cy 4, 12, .inr (.inr (.inr (.inr ((fun _ => none)))))))] := hD
  refine lv_aload_n hx hb dX5_init_24 rfl (lv_at hl 0 rfl) ?_
  refine lv_bipush (v := 12) hx hb dX5_init_25 (by decide) ?_
  refine va_newq hx hb (C := RX3) (N' := 12) hown (hts _ tw_195) (hE.2.2.1 _ (List.mem_of_getElem? (i := 2) rfl)) hK hP hD hS hA (by decide) (by decide) (Nat.le_of_ble_eq_true rfl) (Nat.le_of_ble_eq_true rfl) (Nat.le_of_ble_eq_true rfl) dX5_init_27 (fun a_7 k_8 H hK9 hP hD hS => ?_)
  obtain rfl : k_8 = cy 5 := tp_one hK9 10 5 rfl rfl
  have hP : va_P (dC, dI) vwCl [(a0, .inr (5, [.ref a_1, .ref a_5, .null, .null, .null, .null, .int 0, .int 0, .int 0, .int 0, .int 0, .int 0])), (a_1, .inr (2, [.ref z_3, .int 0, .ref z_4, .int 0])), (a_5, .inl (cy 4, 12, .inr (.inr (.inr (.inr ((fun _ => none))))))), (a_7, .inl (cy 5, 12, .inr (.inr (.inr (.inr ((fun _ => none)))))))] _ := hP
  have hD : va_D A [(a0, .inr (5, [.ref a_1, .ref a_5, .null, .null, .null, .null, .int 0, .int 0, .int 0, .int 0, .int 0, .int 0])), (a_1, .inr (2, [.ref z_3, .int 0, .ref z_4, .int 0])), (a_5, .inl (cy 4, 12, .inr (.inr (.inr (.inr ((fun _ => none))))))), (a_7, .inl (cy 5, 12, .inr (.inr (.inr (.inr ((fun _ => none)))))))] := hD
  refine va_putF (D := (dC, dI)) (ci := 5) (v := .ref a_7) (ty := (.array (.object "Turnpike$Row"))) (C := RX5) (T := TX5) (N := 12) hx hb hts tl_X5 tyX5 tyX5_ok nmX5 hown hK hP hD hS 0 rfl rfl 2 (by decide) (hts _ tw_361) (fun _ h9 => h9) rfl hin rfl (by decide +kernel) rfl rfl (Nat.le_of_ble_eq_true rfl) dX5_init_30 (fun H locs hP hD hS => ?_)
  have hP : va_P (dC, dI) vwCl [(a0, .inr (5, [.ref a_1, .ref a_5, .ref a_7, .null, .null, .null, .int 0, .int 0, .int 0, .int 0, .int 0, .int 0])), (a_1, .inr (2, [.ref z_3, .int 0, .ref z_4, .int 0])), (a_5, .inl (cy 4, 12, .inr (.inr (.inr (.inr ((fun _ => none))))))), (a_7, .inl (cy 5, 12, .inr (.inr (.inr (.inr ((fun _ => none)))))))] _ := hP
  have hD : va_D A [(a0, .inr (5, [.ref a_1, .ref a_5, .ref a_7, .null, .null, .null, .int 0, .int 0, .int 0, .int 0, .int 0, .int 0])), (a_1, .inr (2, [.ref z_3, .int 0, .ref z_4, .int 0])), (a_5, .inl (cy 4, 12, .inr (.inr (.inr (.inr ((fun _ => none))))))), (a_7, .inl (cy 5, 12, .inr (.inr (.inr (.inr ((fun _ => none)))))))] := hD
  refine lv_aload_n hx hb dX5_init_33 rfl (lv_at hl 0 rfl) ?_
  refine lv_bipush (v := 10) hx hb dX5_init_34 (by decide) ?_
  refine va_newq hx hb (C := RX0) (N' := 10) hown (hts _ tw_197) (hE.2.2.1 _ (List.mem_of_getElem? (i := 3) rfl)) hK hP hD hS hA (by decide) (by decide) (Nat.le_of_ble_eq_true rfl) (Nat.le_of_ble_eq_true rfl) (Nat.le_of_ble_eq_true rfl) dX5_init_36 (fun a_9 k_10 H hK9 hP hD hS => ?_)
  obtain rfl : k_10 = cy 6 := tp_one hK9 10 6 rfl rfl
  have hP : va_P (dC, dI) vwCl [(a0, .inr (5, [.ref a_1, .ref a_5, .ref a_7, .null, .null, .null, .int 0, .int 0, .int 0, .int 0, .int 0, .int 0])), (a_1, .inr (2, [.ref z_3, .int 0, .ref z_4, .int 0])), (a_5, .inl (cy 4, 12, .inr (.inr (.inr (.inr ((fun _ => none))))))), (a_7, .inl (cy 5, 12, .inr (.inr (.inr (.inr ((fun _ => none))))))), (a_9, .inl (cy 6, 10, .inr (.inr (.inr (.inr ((fun _ => none)))))))] _ := hP
  have hD : va_D A [(a0, .inr (5, [.ref a_1, .ref a_5, .ref a_7, .null, .null, .null, .int 0, .int 0, .int 0, .int 0, .int 0, .int 0])), (a_1, .inr (2, [.ref z_3, .int 0, .ref z_4, .int 0])), (a_5, .inl (cy 4, 12, .inr (.inr (.inr (.inr ((fun _ => none))))))), (a_7, .inl (cy 5, 12, .inr (.inr (.inr (.inr ((fun _ => none))))))), (a_9, .inl (cy 6, 10, .inr (.inr (.inr (.inr ((fun _ => none)))))))] := hD
  refine va_putF (D := (dC, dI)) (ci := 5) (v := .ref a_9) (ty := (.array (.object "Turnpike$Flow"))) (C := RX5) (T := TX5) (N := 12) hx hb hts tl_X5 tyX5 tyX5_ok nmX5 hown hK hP hD hS 0 rfl rfl 3 (by decide) (hts _ tw_363) (fun _ h9 => h9) rfl hin rfl (by decide +kernel) rfl rfl (Nat.le_of_ble_eq_true rfl) dX5_init_39 (fun H locs hP hD hS => ?_)
  have hP : va_P (dC, dI) vwCl [(a0, .inr (5, [.ref a_1, .ref a_5, .ref a_7, .ref a_9, .null, .null, .int 0, .int 0, .int 0, .int 0, .int 0, .int 0])), (a_1, .inr (2, [.ref z_3, .int 0, .ref z_4, .int 0])), (a_5, .inl (cy 4, 12, .inr (.inr (.inr (.inr ((fun _ => none))))))), (a_7, .inl (cy 5, 12, .inr (.inr (.inr (.inr ((fun _ => none))))))), (a_9, .inl (cy 6, 10, .inr (.inr (.inr (.inr ((fun _ => none)))))))] _ := hP
  have hD : va_D A [(a0, .inr (5, [.ref a_1, .ref a_5, .ref a_7, .ref a_9, .null, .null, .int 0, .int 0, .int 0, .int 0, .int 0, .int 0])), (a_1, .inr (2, [.ref z_3, .int 0, .ref z_4, .int 0])), (a_5, .inl (cy 4, 12, .inr (.inr (.inr (.inr ((fun _ => none))))))), (a_7, .inl (cy 5, 12, .inr (.inr (.inr (.inr ((fun _ => none))))))), (a_9, .inl (cy 6, 10, .inr (.inr (.inr (.inr ((fun _ => none)))))))] := hD
  refine lv_aload_n hx hb dX5_init_42 rfl (lv_at hl 0 rfl) ?_
  refine lv_sipush (v := 200) hx hb dX5_init_43 (by decide) ?_
  refine va_newq hx hb (C := RX7) (N' := 200) hown (hts _ tw_199) (hE.2.2.1 _ (List.mem_of_getElem? (i := 4) rfl)) hK hP hD hS hA (by decide) (by decide) (Nat.le_of_ble_eq_true rfl) (Nat.le_of_ble_eq_true rfl) (Nat.le_of_ble_eq_true rfl) dX5_init_46 (fun a_11 k_12 H hK9 hP hD hS => ?_)
  obtain rfl : k_12 = cy 7 := tp_one hK9 10 7 rfl rfl
  have hP : va_P (dC, dI) vwCl [(a0, .inr (5, [.ref a_1, .ref a_5, .ref a_7, .ref a_9, .null, .null, .int 0, .int 0, .int 0, .int 0, .int 0, .int 0])), (a_1, .inr (2, [.ref z_3, .int 0, .ref z_4, .int 0])), (a_5, .inl (cy 4, 12, .inr (.inr (.inr (.inr ((fun _ => none))))))), (a_7, .inl (cy 5, 12, .inr (.inr (.inr (.inr ((fun _ => none))))))), (a_9, .inl (cy 6, 10, .inr (.inr (.inr (.inr ((fun _ => none))))))), (a_11, .inl (cy 7, 200, .inr (.inr (.inr (.inr ((fun _ => none)))))))] _ := hP
  have hD : va_D A [(a0, .inr (5, [.ref a_1, .ref a_5, .ref a_7, .ref a_9, .null, .null, .int 0, .int 0, .int 0, .int 0, .int 0, .int 0])), (a_1, .inr (2, [.ref z_3, .int 0, .ref z_4, .int 0])), (a_5, .inl (cy 4, 12, .inr (.inr (.inr (.inr ((fun _ => none))))))), (a_7, .inl (cy 5, 12, .inr (.inr (.inr (.inr ((fun _ => none))))))), (a_9, .inl (cy 6, 10, .inr (.inr (.inr (.inr ((fun _ => none))))))), (a_11, .inl (cy 7, 200, .inr (.inr (.inr (.inr ((fun _ => none)))))))] := hD
  refine va_putF (D := (dC, dI)) (ci := 5) (v := .ref a_11) (ty := (.array (.object "Turnpike$Vehicle"))) (C := RX5) (T := TX5) (N := 12) hx hb hts tl_X5 tyX5 tyX5_ok nmX5 hown hK hP hD hS 0 rfl rfl 4 (by decide) (hts _ tw_365) (fun _ h9 => h9) rfl hin rfl (by decide +kernel) rfl rfl (Nat.le_of_ble_eq_true rfl) dX5_init_49 (fun H locs hP hD hS => ?_)
  have hP : va_P (dC, dI) vwCl [(a0, .inr (5, [.ref a_1, .ref a_5, .ref a_7, .ref a_9, .ref a_11, .null, .int 0, .int 0, .int 0, .int 0, .int 0, .int 0])), (a_1, .inr (2, [.ref z_3, .int 0, .ref z_4, .int 0])), (a_5, .inl (cy 4, 12, .inr (.inr (.inr (.inr ((fun _ => none))))))), (a_7, .inl (cy 5, 12, .inr (.inr (.inr (.inr ((fun _ => none))))))), (a_9, .inl (cy 6, 10, .inr (.inr (.inr (.inr ((fun _ => none))))))), (a_11, .inl (cy 7, 200, .inr (.inr (.inr (.inr ((fun _ => none)))))))] _ := hP
  have hD : va_D A [(a0, .inr (5, [.ref a_1, .ref a_5, .ref a_7, .ref a_9, .ref a_11, .null, .int 0, .int 0, .int 0, .int 0, .int 0, .int 0])), (a_1, .inr (2, [.ref z_3, .int 0, .ref z_4, .int 0])), (a_5, .inl (cy 4, 12, .inr (.inr (.inr (.inr ((fun _ => none))))))), (a_7, .inl (cy 5, 12, .inr (.inr (.inr (.inr ((fun _ => none))))))), (a_9, .inl (cy 6, 10, .inr (.inr (.inr (.inr ((fun _ => none))))))), (a_11, .inl (cy 7, 200, .inr (.inr (.inr (.inr ((fun _ => none)))))))] := hD
  refine lv_aload_n hx hb dX5_init_52 rfl (lv_at hl 0 rfl) ?_
  refine lv_iconst (v := 1) hx hb dX5_init_53 (by decide) ?_
  refine va_put (D := (dC, dI)) (ci := 5) (v := .int 1) (ty := .int) (C := RX5) (T := TX5) (N := 12) hx hb hts tl_X5 tyX5 tyX5_ok nmX5 hown hK hP hD hS 0 rfl rfl 7 (by decide) (hts _ tw_371) (fun _ h9 => h9) rfl (by decide +kernel) rfl rfl (Nat.le_of_ble_eq_true rfl) dX5_init_54 (fun H locs hP hD hS => ?_)
  have hP : va_P (dC, dI) vwCl [(a0, .inr (5, [.ref a_1, .ref a_5, .ref a_7, .ref a_9, .ref a_11, .null, .int 0, .int 1, .int 0, .int 0, .int 0, .int 0])), (a_1, .inr (2, [.ref z_3, .int 0, .ref z_4, .int 0])), (a_5, .inl (cy 4, 12, .inr (.inr (.inr (.inr ((fun _ => none))))))), (a_7, .inl (cy 5, 12, .inr (.inr (.inr (.inr ((fun _ => none))))))), (a_9, .inl (cy 6, 10, .inr (.inr (.inr (.inr ((fun _ => none))))))), (a_11, .inl (cy 7, 200, .inr (.inr (.inr (.inr ((fun _ => none)))))))] _ := hP
  have hD : va_D A [(a0, .inr (5, [.ref a_1, .ref a_5, .ref a_7, .ref a_9, .ref a_11, .null, .int 0, .int 1, .int 0, .int 0, .int 0, .int 0])), (a_1, .inr (2, [.ref z_3, .int 0, .ref z_4, .int 0])), (a_5, .inl (cy 4, 12, .inr (.inr (.inr (.inr ((fun _ => none))))))), (a_7, .inl (cy 5, 12, .inr (.inr (.inr (.inr ((fun _ => none))))))), (a_9, .inl (cy 6, 10, .inr (.inr (.inr (.inr ((fun _ => none))))))), (a_11, .inl (cy 7, 200, .inr (.inr (.inr (.inr ((fun _ => none)))))))] := hD
  refine lv_aload_n hx hb dX5_init_57 rfl (lv_at hl 0 rfl) ?_
  refine lv_iload_n hx hb dX5_init_58 rfl (lv_at hl 1 rfl) ?_
  refine lv_if_eq (tgt := 72) hx hb dX5_init_59 (by decide) (fun _ => ?_) (fun c_13 => absurd (by decide) c_13)
  refine lv_null hx hb dX5_init_72 ?_
  refine va_putF (D := (dC, dI)) (ci := 5) (v := .null) (ty := (.object "Turnpike$Trails")) (C := RX5) (T := TX5) (N := 12) hx hb hts tl_X5 tyX5 tyX5_ok nmX5 hown hK hP hD hS 0 rfl rfl 5 (by decide) (hts _ tw_367) (fun _ h9 => h9) rfl hin rfl (by decide +kernel) rfl rfl (Nat.le_of_ble_eq_true rfl) dX5_init_73 (fun H locs hP hD hS => ?_)
  have hP : va_P (dC, dI) vwCl [(a0, .inr (5, [.ref a_1, .ref a_5, .ref a_7, .ref a_9, .ref a_11, .null, .int 0, .int 1, .int 0, .int 0, .int 0, .int 0])), (a_1, .inr (2, [.ref z_3, .int 0, .ref z_4, .int 0])), (a_5, .inl (cy 4, 12, .inr (.inr (.inr (.inr ((fun _ => none))))))), (a_7, .inl (cy 5, 12, .inr (.inr (.inr (.inr ((fun _ => none))))))), (a_9, .inl (cy 6, 10, .inr (.inr (.inr (.inr ((fun _ => none))))))), (a_11, .inl (cy 7, 200, .inr (.inr (.inr (.inr ((fun _ => none)))))))] _ := hP
  have hD : va_D A [(a0, .inr (5, [.ref a_1, .ref a_5, .ref a_7, .ref a_9, .ref a_11, .null, .int 0, .int 1, .int 0, .int 0, .int 0, .int 0])), (a_1, .inr (2, [.ref z_3, .int 0, .ref z_4, .int 0])), (a_5, .inl (cy 4, 12, .inr (.inr (.inr (.inr ((fun _ => none))))))), (a_7, .inl (cy 5, 12, .inr (.inr (.inr (.inr ((fun _ => none))))))), (a_9, .inl (cy 6, 10, .inr (.inr (.inr (.inr ((fun _ => none))))))), (a_11, .inl (cy 7, 200, .inr (.inr (.inr (.inr ((fun _ => none)))))))] := hD
  refine lv_iconst (v := 0) hx hb dX5_init_76 (by decide) ?_
  refine lv_istore_n (lv' := [(2, .int 0), (0, .ref a0), (1, .int 0)]) hx hb dX5_init_77 rfl hl (by decide) rfl (fun ls hl => ?_)
  refine W.widen (k := (0 + 1 + 158 + 1 + 1 + 1 + 1) + 6 * 0) (n := (0 + 4 + 2676 + 12 + 12 + 10 + 200) + 220 * 0) (Nat.le_refl _) (Nat.le_refl _) ?_
  refine tp_for 12 (0 + 1 + 158 + 1 + 1 + 1 + 1) 6 (0 + 4 + 2676 + 12 + 12 + 10 + 200) 220 (fun (i : Nat) (x : (Nat → Option Nat) × (Nat → Option Nat)) (H : Heap) (locs : List Loc) (ls : Array Slot) => va_P (dC, dI) vwCl [(a0, .inr (5, [.ref a_1, .ref a_5, .ref a_7, .ref a_9, .ref a_11, .null, .int 0, .int 1, .int 0, .int 0, .int 0, .int 0])), (a_1, .inr (2, [.ref z_3, .int 0, .ref z_4, .int 0])), (a_5, .inl (cy 4, 12, .inr (.inr (.inr (.inr x.1))))), (a_7, .inl (cy 5, 12, .inr (.inr (.inr (.inr x.2))))), (a_9, .inl (cy 6, 10, .inr (.inr (.inr (.inr ((fun _ => none))))))), (a_11, .inl (cy 7, 200, .inr (.inr (.inr (.inr ((fun _ => none)))))))] H ∧ va_D A [(a0, .inr (5, [.ref a_1, .ref a_5, .ref a_7, .ref a_9, .ref a_11, .null, .int 0, .int 1, .int 0, .int 0, .int 0, .int 0])), (a_1, .inr (2, [.ref z_3, .int 0, .ref z_4, .int 0])), (a_5, .inl (cy 4, 12, .inr (.inr (.inr (.inr x.1))))), (a_7, .inl (cy 5, 12, .inr (.inr (.inr (.inr x.2))))), (a_9, .inl (cy 6, 10, .inr (.inr (.inr (.inr ((fun _ => none))))))), (a_11, .inl (cy 7, 200, .inr (.inr (.inr (.inr ((fun _ => none)))))))] ∧ va_S A s.heap H locs ∧ lv_has ls 3 [(2, .int (nI i)), (0, .ref a0)]) ?_ ?_ 12 0 rfl ((fun _ => none), (fun _ => none)) _ _ ls ⟨hP.sub [0, 1, 2, 3, 4, 5] rfl, hD.sub [0, 1, 2, 3, 4, 5] (by decide) rfl, hS, lv_sub hl [0, 1] rfl⟩
  · rintro ⟨g1, g2⟩ H locs ls ⟨hP, hD, hS, hl⟩
    have hP : va_P (dC, dI) vwCl [(a0, .inr (5, [.ref a_1, .ref a_5, .ref a_7, .ref a_9, .ref a_11, .null, .int 0, .int 1, .int 0, .int 0, .int 0, .int 0])), (a_1, .inr (2, [.ref z_3, .int 0, .ref z_4, .int 0])), (a_5, .inl (cy 4, 12, .inr (.inr (.inr (.inr g1))))), (a_7, .inl (cy 5, 12, .inr (.inr (.inr (.inr g2))))), (a_9, .inl (cy 6, 10, .inr (.inr (.inr (.inr ((fun _ => none))))))), (a_11, .inl (cy 7, 200, .inr (.inr (.inr (.inr ((fun _ => none)))))))] _ := hP
    have hD : va_D A [(a0, .inr (5, [.ref a_1, .ref a_5, .ref a_7, .ref a_9, .ref a_11, .null, .int 0, .int 1, .int 0, .int 0, .int 0, .int 0])), (a_1, .inr (2, [.ref z_3, .int 0, .ref z_4, .int 0])), (a_5, .inl (cy 4, 12, .inr (.inr (.inr (.inr g1))))), (a_7, .inl (cy 5, 12, .inr (.inr (.inr (.inr g2))))), (a_9, .inl (cy 6, 10, .inr (.inr (.inr (.inr ((fun _ => none))))))), (a_11, .inl (cy 7, 200, .inr (.inr (.inr (.inr ((fun _ => none)))))))] := hD
    have hl : lv_has ls 3 [(2, .int (nI 12)), (0, .ref a0)] := hl
    refine lv_iload_n hx hb dX5_init_78 rfl (lv_at hl 0 rfl) ?_
    refine lv_bipush (v := 12) hx hb dX5_init_79 (by decide) ?_
    refine lv_icmp_ge (tgt := 119) hx hb dX5_init_81 (by decide) (fun _ => ?_) (fun c_14 => absurd (by decide) c_14)
    refine lv_iconst (v := 0) hx hb dX5_init_119 (by decide) ?_
    refine lv_istore_n (lv' := [(2, .int 0), (0, .ref a0)]) hx hb dX5_init_120 rfl hl (by decide) rfl (fun ls hl => ?_)
    refine W.widen (k := ((0 + 1 + 158 + 1 + 1 + 1 + 1) + 6 * 12) + 1 * 0) (n := ((0 + 4 + 2676 + 12 + 12 + 10 + 200) + 220 * 12) + 12 * 0) (Nat.le_refl _) (Nat.le_refl _) ?_
    refine tp_for 10 ((0 + 1 + 158 + 1 + 1 + 1 + 1) + 6 * 12) 1 ((0 + 4 + 2676 + 12 + 12 + 10 + 200) + 220 * 12) 12 (fun (i : Nat) (x : (Nat → Option Nat)) (H : Heap) (locs : List Loc) (ls : Array Slot) => va_P (dC, dI) vwCl [(a0, .inr (5, [.ref a_1, .ref a_5, .ref a_7, .ref a_9, .ref a_11, .null, .int 0, .int 1, .int 0, .int 0, .int 0, .int 0])), (a_1, .inr (2, [.ref z_3, .int 0, .ref z_4, .int 0])), (a_5, .inl (cy 4, 12, .inr (.inr (.inr (.inr g1))))), (a_7, .inl (cy 5, 12, .inr (.inr (.inr (.inr g2))))), (a_9, .inl (cy 6, 10, .inr (.inr (.inr (.inr x))))), (a_11, .inl (cy 7, 200, .inr (.inr (.inr (.inr ((fun _ => none)))))))] H ∧ va_D A [(a0, .inr (5, [.ref a_1, .ref a_5, .ref a_7, .ref a_9, .ref a_11, .null, .int 0, .int 1, .int 0, .int 0, .int 0, .int 0])), (a_1, .inr (2, [.ref z_3, .int 0, .ref z_4, .int 0])), (a_5, .inl (cy 4, 12, .inr (.inr (.inr (.inr g1))))), (a_7, .inl (cy 5, 12, .inr (.inr (.inr (.inr g2))))), (a_9, .inl (cy 6, 10, .inr (.inr (.inr (.inr x))))), (a_11, .inl (cy 7, 200, .inr (.inr (.inr (.inr ((fun _ => none)))))))] ∧ va_S A s.heap H locs ∧ lv_has ls 3 [(2, .int (nI i)), (0, .ref a0)]) ?_ ?_ 10 0 rfl ((fun _ => none)) _ _ ls ⟨hP.sub [0, 1, 2, 3, 4, 5] rfl, hD.sub [0, 1, 2, 3, 4, 5] (by decide) rfl, hS, lv_sub hl [0, 1] rfl⟩
    · rintro g3 H locs ls ⟨hP, hD, hS, hl⟩
      have hP : va_P (dC, dI) vwCl [(a0, .inr (5, [.ref a_1, .ref a_5, .ref a_7, .ref a_9, .ref a_11, .null, .int 0, .int 1, .int 0, .int 0, .int 0, .int 0])), (a_1, .inr (2, [.ref z_3, .int 0, .ref z_4, .int 0])), (a_5, .inl (cy 4, 12, .inr (.inr (.inr (.inr g1))))), (a_7, .inl (cy 5, 12, .inr (.inr (.inr (.inr g2))))), (a_9, .inl (cy 6, 10, .inr (.inr (.inr (.inr g3))))), (a_11, .inl (cy 7, 200, .inr (.inr (.inr (.inr ((fun _ => none)))))))] _ := hP
      have hD : va_D A [(a0, .inr (5, [.ref a_1, .ref a_5, .ref a_7, .ref a_9, .ref a_11, .null, .int 0, .int 1, .int 0, .int 0, .int 0, .int 0])), (a_1, .inr (2, [.ref z_3, .int 0, .ref z_4, .int 0])), (a_5, .inl (cy 4, 12, .inr (.inr (.inr (.inr g1))))), (a_7, .inl (cy 5, 12, .inr (.inr (.inr (.inr g2))))), (a_9, .inl (cy 6, 10, .inr (.inr (.inr (.inr g3))))), (a_11, .inl (cy 7, 200, .inr (.inr (.inr (.inr ((fun _ => none)))))))] := hD
      have hl : lv_has ls 3 [(2, .int (nI 10)), (0, .ref a0)] := hl
      refine lv_iload_n hx hb dX5_init_121 rfl (lv_at hl 0 rfl) ?_
      refine lv_bipush (v := 10) hx hb dX5_init_122 (by decide) ?_
      refine lv_icmp_ge (tgt := 146) hx hb dX5_init_124 (by decide) (fun _ => ?_) (fun c_15 => absurd (by decide) c_15)
      refine lv_iconst (v := 0) hx hb dX5_init_146 (by decide) ?_
      refine lv_istore_n (lv' := [(2, .int 0), (0, .ref a0)]) hx hb dX5_init_147 rfl hl (by decide) rfl (fun ls hl => ?_)
      refine W.widen (k := (((0 + 1 + 158 + 1 + 1 + 1 + 1) + 6 * 12) + 1 * 10) + 2 * 0) (n := (((0 + 4 + 2676 + 12 + 12 + 10 + 200) + 220 * 12) + 12 * 10) + 24 * 0) (Nat.le_refl _) (Nat.le_refl _) ?_
      refine tp_for 200 (((0 + 1 + 158 + 1 + 1 + 1 + 1) + 6 * 12) + 1 * 10) 2 (((0 + 4 + 2676 + 12 + 12 + 10 + 200) + 220 * 12) + 12 * 10) 24 (fun (i : Nat) (x : (Nat → Option Nat)) (H : Heap) (locs : List Loc) (ls : Array Slot) => va_P (dC, dI) vwCl [(a0, .inr (5, [.ref a_1, .ref a_5, .ref a_7, .ref a_9, .ref a_11, .null, .int 0, .int 1, .int 0, .int 0, .int 0, .int 0])), (a_1, .inr (2, [.ref z_3, .int 0, .ref z_4, .int 0])), (a_5, .inl (cy 4, 12, .inr (.inr (.inr (.inr g1))))), (a_7, .inl (cy 5, 12, .inr (.inr (.inr (.inr g2))))), (a_9, .inl (cy 6, 10, .inr (.inr (.inr (.inr g3))))), (a_11, .inl (cy 7, 200, .inr (.inr (.inr (.inr x)))))] H ∧ va_D A [(a0, .inr (5, [.ref a_1, .ref a_5, .ref a_7, .ref a_9, .ref a_11, .null, .int 0, .int 1, .int 0, .int 0, .int 0, .int 0])), (a_1, .inr (2, [.ref z_3, .int 0, .ref z_4, .int 0])), (a_5, .inl (cy 4, 12, .inr (.inr (.inr (.inr g1))))), (a_7, .inl (cy 5, 12, .inr (.inr (.inr (.inr g2))))), (a_9, .inl (cy 6, 10, .inr (.inr (.inr (.inr g3))))), (a_11, .inl (cy 7, 200, .inr (.inr (.inr (.inr x)))))] ∧ va_S A s.heap H locs ∧ lv_has ls 3 [(2, .int (nI i)), (0, .ref a0)]) ?_ ?_ 200 0 rfl ((fun _ => none)) _ _ ls ⟨hP.sub [0, 1, 2, 3, 4, 5] rfl, hD.sub [0, 1, 2, 3, 4, 5] (by decide) rfl, hS, lv_sub hl [0, 1] rfl⟩
      · rintro g4 H locs ls ⟨hP, hD, hS, hl⟩
        have hP : va_P (dC, dI) vwCl [(a0, .inr (5, [.ref a_1, .ref a_5, .ref a_7, .ref a_9, .ref a_11, .null, .int 0, .int 1, .int 0, .int 0, .int 0, .int 0])), (a_1, .inr (2, [.ref z_3, .int 0, .ref z_4, .int 0])), (a_5, .inl (cy 4, 12, .inr (.inr (.inr (.inr g1))))), (a_7, .inl (cy 5, 12, .inr (.inr (.inr (.inr g2))))), (a_9, .inl (cy 6, 10, .inr (.inr (.inr (.inr g3))))), (a_11, .inl (cy 7, 200, .inr (.inr (.inr (.inr g4)))))] _ := hP
        have hD : va_D A [(a0, .inr (5, [.ref a_1, .ref a_5, .ref a_7, .ref a_9, .ref a_11, .null, .int 0, .int 1, .int 0, .int 0, .int 0, .int 0])), (a_1, .inr (2, [.ref z_3, .int 0, .ref z_4, .int 0])), (a_5, .inl (cy 4, 12, .inr (.inr (.inr (.inr g1))))), (a_7, .inl (cy 5, 12, .inr (.inr (.inr (.inr g2))))), (a_9, .inl (cy 6, 10, .inr (.inr (.inr (.inr g3))))), (a_11, .inl (cy 7, 200, .inr (.inr (.inr (.inr g4)))))] := hD
        have hl : lv_has ls 3 [(2, .int (nI 200)), (0, .ref a0)] := hl
        refine lv_iload_n hx hb dX5_init_148 rfl (lv_at hl 0 rfl) ?_
        refine lv_sipush (v := 200) hx hb dX5_init_149 (by decide) ?_
        refine lv_icmp_ge (tgt := 174) hx hb dX5_init_152 (by decide) (fun _ => ?_) (fun c_16 => absurd (by decide) c_16)
        refine W.widen (k := 645) (n := 10474) (by show (((0 + 1 + 158 + 1 + 1 + 1 + 1) + 6 * 12) + 1 * 10) + 2 * 200 + 0 ≤ 645; omega) (by show (((0 + 4 + 2676 + 12 + 12 + 10 + 200) + 220 * 12) + 12 * 10) + 24 * 200 + 0 ≤ 10474; omega) ?_
        have hP9 := hP.sub (ws' := [(a0, .inr (5, [.ref a_1, .ref a_5, .ref a_7, .ref a_9, .ref a_11, .null, .int 0, .int 1, .int 0, .int 0, .int 0, .int 0]))]) [0] rfl
        have hD9 := hD.sub (ws' := [(a0, .inr (5, [.ref a_1, .ref a_5, .ref a_7, .ref a_9, .ref a_11, .null, .int 0, .int 1, .int 0, .int 0, .int 0, .int 0]))]) [0] (by decide) rfl
        exact W.vret hx hb hr (fun t ht hW => ⟨⟨(), rfl, trivial, ⟨a_1, a_5, a_7, a_9, a_11, by rw [ht]; exact hP9, hD9⟩⟩, hS.F ht⟩) hS.2.2 dX5_init_174
      · rintro i g4 H locs ls hi ⟨hP, hD, hS, hl⟩ ih
        have hP : va_P (dC, dI) vwCl [(a0, .inr (5, [.ref a_1, .ref a_5, .ref a_7, .ref a_9, .ref a_11, .null, .int 0, .int 1, .int 0, .int 0, .int 0, .int 0])), (a_1, .inr (2, [.ref z_3, .int 0, .ref z_4, .int 0])), (a_5, .inl (cy 4, 12, .inr (.inr (.inr (.inr g1))))), (a_7, .inl (cy 5, 12, .inr (.inr (.inr (.inr g2))))), (a_9, .inl (cy 6, 10, .inr (.inr (.inr (.inr g3))))), (a_11, .inl (cy 7, 200, .inr (.inr (.inr (.inr g4)))))] _ := hP
        have hD : va_D A [(a0, .inr (5, [.ref a_1, .ref a_5, .ref a_7, .ref a_9, .ref a_11, .null, .int 0, .int 1, .int 0, .int 0, .int 0, .int 0])), (a_1, .inr (2, [.ref z_3, .int 0, .ref z_4, .int 0])), (a_5, .inl (cy 4, 12, .inr (.inr (.inr (.inr g1))))), (a_7, .inl (cy 5, 12, .inr (.inr (.inr (.inr g2))))), (a_9, .inl (cy 6, 10, .inr (.inr (.inr (.inr g3))))), (a_11, .inl (cy 7, 200, .inr (.inr (.inr (.inr g4)))))] := hD
        have hl : lv_has ls 3 [(2, .int (nI i)), (0, .ref a0)] := hl
        refine lv_iload_n hx hb dX5_init_148 rfl (lv_at hl 0 rfl) ?_
        refine lv_sipush (v := 200) hx hb dX5_init_149 (by decide) ?_
        refine lv_icmp_ge (tgt := 174) hx hb dX5_init_152 (by decide) (fun c_17 => absurd c_17 (show ¬ (200 : Int32) ≤ nI i from nI_ge hi (by decide))) (fun _ => ?_)
        refine lv_aload_n hx hb dX5_init_155 rfl (lv_at hl 1 rfl) ?_
        refine va_get (D := (dC, dI)) (ci := 5) (v := .ref a_11) (C := RX5) (T := TX5) (N := 12) hx hb hts tl_X5 hown hK hP 0 rfl rfl 4 (by decide) (hts _ tw_365) (fun _ h9 => h9) rfl dX5_init_156 ?_
        refine lv_iload_n hx hb dX5_init_159 rfl (lv_at hl 0 rfl) ?_
        have h8_a_18 : tp_dv 13 tyX7 [.int 0, .int 0, .int 0, .int 0, .int 0, .int 0, .int 0, .int 0, .int 0, .int 0, .int 0, .int 0, .null] = true := by decide +kernel
        refine va_new (ci := 7) (fs := [.int 0, .int 0, .int 0, .int 0, .int 0, .int 0, .int 0, .int 0, .int 0, .int 0, .int 0, .int 0, .null]) (C := RX7) (T := TX7) (N := 13) hx hb hts tl_X7 tyX7 tyX7_ok hown (hts _ tw_199) (hts _ tw_297) (hts _ tw_47) hK hP hD hS hA rfl (fun j hj => by exact tp_dv_ok h8_a_18 j hj) (by show (((0 + 1 + 158 + 1 + 1 + 1 + 1) + 6 * 12) + 1 * 10) + 2 * i + 1 ≤ 645; omega) (by show (((0 + 4 + 2676 + 12 + 12 + 10 + 200) + 220 * 12) + 12 * 10) + 24 * i + 13 ≤ 10474; omega) dX5_init_160 (fun a_18 H hP hD hS => ?_)
        have hP : va_P (dC, dI) vwCl [(a0, .inr (5, [.ref a_1, .ref a_5, .ref a_7, .ref a_9, .ref a_11, .null, .int 0, .int 1, .int 0, .int 0, .int 0, .int 0])), (a_1, .inr (2, [.ref z_3, .int 0, .ref z_4, .int 0])), (a_5, .inl (cy 4, 12, .inr (.inr (.inr (.inr g1))))), (a_7, .inl (cy 5, 12, .inr (.inr (.inr (.inr g2))))), (a_9, .inl (cy 6, 10, .inr (.inr (.inr (.inr g3))))), (a_11, .inl (cy 7, 200, .inr (.inr (.inr (.inr g4))))), (a_18, .inr (7, [.int 0, .int 0, .int 0, .int 0, .int 0, .int 0, .int 0, .int 0, .int 0, .int 0, .int 0, .int 0, .null]))] _ := hP
        have hD : va_D A [(a0, .inr (5, [.ref a_1, .ref a_5, .ref a_7, .ref a_9, .ref a_11, .null, .int 0, .int 1, .int 0, .int 0, .int 0, .int 0])), (a_1, .inr (2, [.ref z_3, .int 0, .ref z_4, .int 0])), (a_5, .inl (cy 4, 12, .inr (.inr (.inr (.inr g1))))), (a_7, .inl (cy 5, 12, .inr (.inr (.inr (.inr g2))))), (a_9, .inl (cy 6, 10, .inr (.inr (.inr (.inr g3))))), (a_11, .inl (cy 7, 200, .inr (.inr (.inr (.inr g4))))), (a_18, .inr (7, [.int 0, .int 0, .int 0, .int 0, .int 0, .int 0, .int 0, .int 0, .int 0, .int 0, .int 0, .int 0, .null]))] := hD
        refine lv_dup hx hb dX5_init_163 rfl ?_
        have hFc := va_free (wc := [(a_18, .inr (7, [.int 0, .int 0, .int 0, .int 0, .int 0, .int 0, .int 0, .int 0, .int 0, .int 0, .int 0, .int 0, .null]))]) hD hS hA [6] rfl
        refine va_callv (va_runIN (As := []) (rest := [.ref a_18, .int (nI i), .ref a_11]) ⟨hx, hb, hml, hown, hts⟩ (tm_Vehicle l hst dC dI cy a_18 H.size) ⟨tp_cnB 0 hts (te_m4 hE) tw_47 tw_300 rfl rfl (by decide +kernel) ⟨Nat.le_of_ble_eq_true rfl, Nat.le_of_ble_eq_true rfl⟩, rfl, hts _ tw_299⟩ ⟨tp_blind, fun U hU hW => ⟨rfl, tp_pay hK hP hD hE hZ hS [6] (by decide) rfl hFc U hU hW⟩⟩ rfl rfl hl.1 rfl (lv_room (Nat.le_of_ble_eq_true rfl)) dX5_init_164 ⟨(by show (((0 + 1 + 158 + 1 + 1 + 1 + 1) + 6 * 12) + 1 * 10) + 2 * i + 1 + 1 ≤ 645; omega), (by show (((0 + 4 + 2676 + 12 + 12 + 10 + 200) + 220 * 12) + 12 * 10) + 24 * i + 13 + 11 ≤ 10474; omega)⟩) hS (fun q _ h => hFc q h) hFc (fun u t H1 locs ht hvm hw hB hz1 hk1 hS => ?_)
        obtain ⟨z_20, hP1, hD1⟩ := hB
        rw [ht] at hP1
        obtain ⟨hP, hD⟩ := va_join (wr := [(a0, .inr (5, [.ref a_1, .ref a_5, .ref a_7, .ref a_9, .ref a_11, .null, .int 0, .int 1, .int 0, .int 0, .int 0, .int 0])), (a_1, .inr (2, [.ref z_3, .int 0, .ref z_4, .int 0])), (a_5, .inl (cy 4, 12, .inr (.inr (.inr (.inr g1))))), (a_7, .inl (cy 5, 12, .inr (.inr (.inr (.inr g2))))), (a_9, .inl (cy 6, 10, .inr (.inr (.inr (.inr g3))))), (a_11, .inl (cy 7, 200, .inr (.inr (.inr (.inr g4)))))]) (w1 := [(a_18, .inr (7, [.int 0, .int 0, .int 0, .int 0, .int 0, .int 0, .int 0, .int 0, .int 0, .int 0, .int 0, .int 0, .ref z_20]))]) hP hD [6] [0, 1, 2, 3, 4, 5] rfl rfl (by decide) (by decide) hk1 hFc hP1 hD1
        generalize H1 = H at hP hS ⊢
        have hP : va_P (dC, dI) vwCl [(a0, .inr (5, [.ref a_1, .ref a_5, .ref a_7, .ref a_9, .ref a_11, .null, .int 0, .int 1, .int 0, .int 0, .int 0, .int 0])), (a_1, .inr (2, [.ref z_3, .int 0, .ref z_4, .int 0])), (a_5, .inl (cy 4, 12, .inr (.inr (.inr (.inr g1))))), (a_7, .inl (cy 5, 12, .inr (.inr (.inr (.inr g2))))), (a_9, .inl (cy 6, 10, .inr (.inr (.inr (.inr g3))))), (a_11, .inl (cy 7, 200, .inr (.inr (.inr (.inr g4))))), (a_18, .inr (7, [.int 0, .int 0, .int 0, .int 0, .int 0, .int 0, .int 0, .int 0, .int 0, .int 0, .int 0, .int 0, .ref z_20]))] _ := hP
        have hD : va_D A [(a0, .inr (5, [.ref a_1, .ref a_5, .ref a_7, .ref a_9, .ref a_11, .null, .int 0, .int 1, .int 0, .int 0, .int 0, .int 0])), (a_1, .inr (2, [.ref z_3, .int 0, .ref z_4, .int 0])), (a_5, .inl (cy 4, 12, .inr (.inr (.inr (.inr g1))))), (a_7, .inl (cy 5, 12, .inr (.inr (.inr (.inr g2))))), (a_9, .inl (cy 6, 10, .inr (.inr (.inr (.inr g3))))), (a_11, .inl (cy 7, 200, .inr (.inr (.inr (.inr g4))))), (a_18, .inr (7, [.int 0, .int 0, .int 0, .int 0, .int 0, .int 0, .int 0, .int 0, .int 0, .int 0, .int 0, .int 0, .ref z_20]))] := hD
        refine va_astq hx hb hK hP hD hS 5 7 6 7 rfl rfl rfl rfl (vp_in_nI hi (by decide)) dX5_init_167 (fun H locs hP hD hS => ?_)
        have hP : va_P (dC, dI) vwCl [(a0, .inr (5, [.ref a_1, .ref a_5, .ref a_7, .ref a_9, .ref a_11, .null, .int 0, .int 1, .int 0, .int 0, .int 0, .int 0])), (a_1, .inr (2, [.ref z_3, .int 0, .ref z_4, .int 0])), (a_5, .inl (cy 4, 12, .inr (.inr (.inr (.inr g1))))), (a_7, .inl (cy 5, 12, .inr (.inr (.inr (.inr g2))))), (a_9, .inl (cy 6, 10, .inr (.inr (.inr (.inr g3))))), (a_11, .inl (cy 7, 200, .inr (.inr (.inr (.inr (va_up g4 (nI i : Int32).toNatClampNeg (some a_18))))))), (a_18, .inr (7, [.int 0, .int 0, .int 0, .int 0, .int 0, .int 0, .int 0, .int 0, .int 0, .int 0, .int 0, .int 0, .ref z_20]))] _ := hP
        have hD : va_D A [(a0, .inr (5, [.ref a_1, .ref a_5, .ref a_7, .ref a_9, .ref a_11, .null, .int 0, .int 1, .int 0, .int 0, .int 0, .int 0])), (a_1, .inr (2, [.ref z_3, .int 0, .ref z_4, .int 0])), (a_5, .inl (cy 4, 12, .inr (.inr (.inr (.inr g1))))), (a_7, .inl (cy 5, 12, .inr (.inr (.inr (.inr g2))))), (a_9, .inl (cy 6, 10, .inr (.inr (.inr (.inr g3))))), (a_11, .inl (cy 7, 200, .inr (.inr (.inr (.inr (va_up g4 (nI i : Int32).toNatClampNeg (some a_18))))))), (a_18, .inr (7, [.int 0, .int 0, .int 0, .int 0, .int 0, .int 0, .int 0, .int 0, .int 0, .int 0, .int 0, .int 0, .ref z_20]))] := hD
        refine lv_iinc (v := nI (i + 1)) (lv' := [(2, .int (nI (i + 1))), (0, .ref a0)]) hx hb dX5_init_168 hl (k := 0) rfl (nI_1 i) (by decide) rfl (fun ls hl => ?_)
        refine lv_goto (tgt := 148) hx hb dX5_init_171 (by decide) ?_
        refine W.widen (k := (((0 + 1 + 158 + 1 + 1 + 1 + 1) + 6 * 12) + 1 * 10) + 2 * (i + 1)) (n := (((0 + 4 + 2676 + 12 + 12 + 10 + 200) + 220 * 12) + 12 * 10) + 24 * (i + 1)) (by omega) (by omega) ?_
        exact ih (va_up g4 (nI i : Int32).toNatClampNeg (some a_18)) _ _ ls ⟨hP.sub [0, 1, 2, 3, 4, 5] rfl, hD.sub [0, 1, 2, 3, 4, 5] (by decide) rfl, hS, lv_sub hl [0, 1] rfl⟩
    · rintro i g3 H locs ls hi ⟨hP, hD, hS, hl⟩ ih
      have hP : va_P (dC, dI) vwCl [(a0, .inr (5, [.ref a_1, .ref a_5, .ref a_7, .ref a_9, .ref a_11, .null, .int 0, .int 1, .int 0, .int 0, .int 0, .int 0])), (a_1, .inr (2, [.ref z_3, .int 0, .ref z_4, .int 0])), (a_5, .inl (cy 4, 12, .inr (.inr (.inr (.inr g1))))), (a_7, .inl (cy 5, 12, .inr (.inr (.inr (.inr g2))))), (a_9, .inl (cy 6, 10, .inr (.inr (.inr (.inr g3))))), (a_11, .inl (cy 7, 200, .inr (.inr (.inr (.inr ((fun _ => none)))))))] _ := hP
      have hD : va_D A [(a0, .inr (5, [.ref a_1, .ref a_5, .ref a_7, .ref a_9, .ref a_11, .null, .int 0, .int 1, .int 0, .int 0, .int 0, .int 0])), (a_1, .inr (2, [.ref z_3, .int 0, .ref z_4, .int 0])), (a_5, .inl (cy 4, 12, .inr (.inr (.inr (.inr g1))))), (a_7, .inl (cy 5, 12, .inr (.inr (.inr (.inr g2))))), (a_9, .inl (cy 6, 10, .inr (.inr (.inr (.inr g3))))), (a_11, .inl (cy 7, 200, .inr (.inr (.inr (.inr ((fun _ => none)))))))] := hD
      have hl : lv_has ls 3 [(2, .int (nI i)), (0, .ref a0)] := hl
      refine lv_iload_n hx hb dX5_init_121 rfl (lv_at hl 0 rfl) ?_
      refine lv_bipush (v := 10) hx hb dX5_init_122 (by decide) ?_
      refine lv_icmp_ge (tgt := 146) hx hb dX5_init_124 (by decide) (fun c_21 => absurd c_21 (show ¬ (10 : Int32) ≤ nI i from nI_ge hi (by decide))) (fun _ => ?_)
      refine lv_aload_n hx hb dX5_init_127 rfl (lv_at hl 1 rfl) ?_
      refine va_get (D := (dC, dI)) (ci := 5) (v := .ref a_9) (C := RX5) (T := TX5) (N := 12) hx hb hts tl_X5 hown hK hP 0 rfl rfl 3 (by decide) (hts _ tw_363) (fun _ h9 => h9) rfl dX5_init_128 ?_
      refine lv_iload_n hx hb dX5_init_131 rfl (lv_at hl 0 rfl) ?_
      have h8_a_22 : tp_dv 12 tyX0 [.int 0, .int 0, .int 0, .int 0, .int 0, .int 0, .int 0, .int 0, .int 0, .int 0, .int 0, .int 0] = true := by decide +kernel
      refine va_new (ci := 0) (fs := [.int 0, .int 0, .int 0, .int 0, .int 0, .int 0, .int 0, .int 0, .int 0, .int 0, .int 0, .int 0]) (C := RX0) (T := TX0) (N := 12) hx hb hts tl_X0 tyX0 tyX0_ok hown (hts _ tw_197) (hts _ tw_243) (hts _ tw_46) hK hP hD hS hA rfl (fun j hj => by exact tp_dv_ok h8_a_22 j hj) (by show ((0 + 1 + 158 + 1 + 1 + 1 + 1) + 6 * 12) + 1 * i + 1 ≤ 645; omega) (by show ((0 + 4 + 2676 + 12 + 12 + 10 + 200) + 220 * 12) + 12 * i + 12 ≤ 10474; omega) dX5_init_132 (fun a_22 H hP hD hS => ?_)
      have hP : va_P (dC, dI) vwCl [(a0, .inr (5, [.ref a_1, .ref a_5, .ref a_7, .ref a_9, .ref a_11, .null, .int 0, .int 1, .int 0, .int 0, .int 0, .int 0])), (a_1, .inr (2, [.ref z_3, .int 0, .ref z_4, .int 0])), (a_5, .inl (cy 4, 12, .inr (.inr (.inr (.inr g1))))), (a_7, .inl (cy 5, 12, .inr (.inr (.inr (.inr g2))))), (a_9, .inl (cy 6, 10, .inr (.inr (.inr (.inr g3))))), (a_11, .inl (cy 7, 200, .inr (.inr (.inr (.inr ((fun _ => none))))))), (a_22, .inr (0, [.int 0, .int 0, .int 0, .int 0, .int 0, .int 0, .int 0, .int 0, .int 0, .int 0, .int 0, .int 0]))] _ := hP
      have hD : va_D A [(a0, .inr (5, [.ref a_1, .ref a_5, .ref a_7, .ref a_9, .ref a_11, .null, .int 0, .int 1, .int 0, .int 0, .int 0, .int 0])), (a_1, .inr (2, [.ref z_3, .int 0, .ref z_4, .int 0])), (a_5, .inl (cy 4, 12, .inr (.inr (.inr (.inr g1))))), (a_7, .inl (cy 5, 12, .inr (.inr (.inr (.inr g2))))), (a_9, .inl (cy 6, 10, .inr (.inr (.inr (.inr g3))))), (a_11, .inl (cy 7, 200, .inr (.inr (.inr (.inr ((fun _ => none))))))), (a_22, .inr (0, [.int 0, .int 0, .int 0, .int 0, .int 0, .int 0, .int 0, .int 0, .int 0, .int 0, .int 0, .int 0]))] := hD
      refine lv_dup hx hb dX5_init_135 rfl ?_
      have hFc := va_free (wc := [(a_22, .inr (0, [.int 0, .int 0, .int 0, .int 0, .int 0, .int 0, .int 0, .int 0, .int 0, .int 0, .int 0, .int 0]))]) hD hS hA [6] rfl
      refine va_callv (va_runIN (As := []) (rest := [.ref a_22, .int (nI i), .ref a_9]) ⟨hx, hb, hml, hown, hts⟩ (tm_Flow l hst dC dI cy a_22 H.size) ⟨tp_cnB 0 hts (te_m3 hE) tw_46 tw_246 rfl rfl (by decide +kernel) ⟨Nat.le_of_ble_eq_true rfl, Nat.le_of_ble_eq_true rfl⟩, rfl, hts _ tw_245⟩ ⟨tp_blind, fun U hU hW => ⟨rfl, tp_pay hK hP hD hE hZ hS [6] (by decide) rfl hFc U hU hW⟩⟩ rfl rfl hl.1 rfl (lv_room (Nat.le_of_ble_eq_true rfl)) dX5_init_136 ⟨(by show ((0 + 1 + 158 + 1 + 1 + 1 + 1) + 6 * 12) + 1 * i + 1 + 0 ≤ 645; omega), (by show ((0 + 4 + 2676 + 12 + 12 + 10 + 200) + 220 * 12) + 12 * i + 12 + 0 ≤ 10474; omega)⟩) hS (fun q _ h => hFc q h) hFc (fun u t H1 locs ht hvm hw hB hz1 hk1 hS => ?_)
      obtain ⟨hP1, hD1⟩ := hB
      rw [ht] at hP1
      obtain ⟨hP, hD⟩ := va_join (wr := [(a0, .inr (5, [.ref a_1, .ref a_5, .ref a_7, .ref a_9, .ref a_11, .null, .int 0, .int 1, .int 0, .int 0, .int 0, .int 0])), (a_1, .inr (2, [.ref z_3, .int 0, .ref z_4, .int 0])), (a_5, .inl (cy 4, 12, .inr (.inr (.inr (.inr g1))))), (a_7, .inl (cy 5, 12, .inr (.inr (.inr (.inr g2))))), (a_9, .inl (cy 6, 10, .inr (.inr (.inr (.inr g3))))), (a_11, .inl (cy 7, 200, .inr (.inr (.inr (.inr ((fun _ => none)))))))]) (w1 := [(a_22, .inr (0, [.int 0, .int 0, .int 0, .int 0, .int 1, .int 0, .int 0, .int 0, .int 0, .int 0, .int 0, .int 0]))]) hP hD [6] [0, 1, 2, 3, 4, 5] rfl rfl (by decide) (by decide) hk1 hFc hP1 hD1
      generalize H1 = H at hP hS ⊢
      have hP : va_P (dC, dI) vwCl [(a0, .inr (5, [.ref a_1, .ref a_5, .ref a_7, .ref a_9, .ref a_11, .null, .int 0, .int 1, .int 0, .int 0, .int 0, .int 0])), (a_1, .inr (2, [.ref z_3, .int 0, .ref z_4, .int 0])), (a_5, .inl (cy 4, 12, .inr (.inr (.inr (.inr g1))))), (a_7, .inl (cy 5, 12, .inr (.inr (.inr (.inr g2))))), (a_9, .inl (cy 6, 10, .inr (.inr (.inr (.inr g3))))), (a_11, .inl (cy 7, 200, .inr (.inr (.inr (.inr ((fun _ => none))))))), (a_22, .inr (0, [.int 0, .int 0, .int 0, .int 0, .int 1, .int 0, .int 0, .int 0, .int 0, .int 0, .int 0, .int 0]))] _ := hP
      have hD : va_D A [(a0, .inr (5, [.ref a_1, .ref a_5, .ref a_7, .ref a_9, .ref a_11, .null, .int 0, .int 1, .int 0, .int 0, .int 0, .int 0])), (a_1, .inr (2, [.ref z_3, .int 0, .ref z_4, .int 0])), (a_5, .inl (cy 4, 12, .inr (.inr (.inr (.inr g1))))), (a_7, .inl (cy 5, 12, .inr (.inr (.inr (.inr g2))))), (a_9, .inl (cy 6, 10, .inr (.inr (.inr (.inr g3))))), (a_11, .inl (cy 7, 200, .inr (.inr (.inr (.inr ((fun _ => none))))))), (a_22, .inr (0, [.int 0, .int 0, .int 0, .int 0, .int 1, .int 0, .int 0, .int 0, .int 0, .int 0, .int 0, .int 0]))] := hD
      refine va_astq hx hb hK hP hD hS 4 6 6 0 rfl rfl rfl rfl (vp_in_nI hi (by decide)) dX5_init_139 (fun H locs hP hD hS => ?_)
      have hP : va_P (dC, dI) vwCl [(a0, .inr (5, [.ref a_1, .ref a_5, .ref a_7, .ref a_9, .ref a_11, .null, .int 0, .int 1, .int 0, .int 0, .int 0, .int 0])), (a_1, .inr (2, [.ref z_3, .int 0, .ref z_4, .int 0])), (a_5, .inl (cy 4, 12, .inr (.inr (.inr (.inr g1))))), (a_7, .inl (cy 5, 12, .inr (.inr (.inr (.inr g2))))), (a_9, .inl (cy 6, 10, .inr (.inr (.inr (.inr (va_up g3 (nI i : Int32).toNatClampNeg (some a_22))))))), (a_11, .inl (cy 7, 200, .inr (.inr (.inr (.inr ((fun _ => none))))))), (a_22, .inr (0, [.int 0, .int 0, .int 0, .int 0, .int 1, .int 0, .int 0, .int 0, .int 0, .int 0, .int 0, .int 0]))] _ := hP
      have hD : va_D A [(a0, .inr (5, [.ref a_1, .ref a_5, .ref a_7, .ref a_9, .ref a_11, .null, .int 0, .int 1, .int 0, .int 0, .int 0, .int 0])), (a_1, .inr (2, [.ref z_3, .int 0, .ref z_4, .int 0])), (a_5, .inl (cy 4, 12, .inr (.inr (.inr (.inr g1))))), (a_7, .inl (cy 5, 12, .inr (.inr (.inr (.inr g2))))), (a_9, .inl (cy 6, 10, .inr (.inr (.inr (.inr (va_up g3 (nI i : Int32).toNatClampNeg (some a_22))))))), (a_11, .inl (cy 7, 200, .inr (.inr (.inr (.inr ((fun _ => none))))))), (a_22, .inr (0, [.int 0, .int 0, .int 0, .int 0, .int 1, .int 0, .int 0, .int 0, .int 0, .int 0, .int 0, .int 0]))] := hD
      refine lv_iinc (v := nI (i + 1)) (lv' := [(2, .int (nI (i + 1))), (0, .ref a0)]) hx hb dX5_init_140 hl (k := 0) rfl (nI_1 i) (by decide) rfl (fun ls hl => ?_)
      refine lv_goto (tgt := 121) hx hb dX5_init_143 (by decide) ?_
      refine W.widen (k := ((0 + 1 + 158 + 1 + 1 + 1 + 1) + 6 * 12) + 1 * (i + 1)) (n := ((0 + 4 + 2676 + 12 + 12 + 10 + 200) + 220 * 12) + 12 * (i + 1)) (by omega) (by omega) ?_
      exact ih (va_up g3 (nI i : Int32).toNatClampNeg (some a_22)) _ _ ls ⟨hP.sub [0, 1, 2, 3, 4, 5] rfl, hD.sub [0, 1, 2, 3, 4, 5] (by decide) rfl, hS, lv_sub hl [0, 1] rfl⟩
  · rintro i ⟨g1, g2⟩ H locs ls hi ⟨hP, hD, hS, hl⟩ ih
    have hP : va_P (dC, dI) vwCl [(a0, .inr (5, [.ref a_1, .ref a_5, .ref a_7, .ref a_9, .ref a_11, .null, .int 0, .int 1, .int 0, .int 0, .int 0, .int 0])), (a_1, .inr (2, [.ref z_3, .int 0, .ref z_4, .int 0])), (a_5, .inl (cy 4, 12, .inr (.inr (.inr (.inr g1))))), (a_7, .inl (cy 5, 12, .inr (.inr (.inr (.inr g2))))), (a_9, .inl (cy 6, 10, .inr (.inr (.inr (.inr ((fun _ => none))))))), (a_11, .inl (cy 7, 200, .inr (.inr (.inr (.inr ((fun _ => none)))))))] _ := hP
    have hD : va_D A [(a0, .inr (5, [.ref a_1, .ref a_5, .ref a_7, .ref a_9, .ref a_11, .null, .int 0, .int 1, .int 0, .int 0, .int 0, .int 0])), (a_1, .inr (2, [.ref z_3, .int 0, .ref z_4, .int 0])), (a_5, .inl (cy 4, 12, .inr (.inr (.inr (.inr g1))))), (a_7, .inl (cy 5, 12, .inr (.inr (.inr (.inr g2))))), (a_9, .inl (cy 6, 10, .inr (.inr (.inr (.inr ((fun _ => none))))))), (a_11, .inl (cy 7, 200, .inr (.inr (.inr (.inr ((fun _ => none)))))))] := hD
    have hl : lv_has ls 3 [(2, .int (nI i)), (0, .ref a0)] := hl
    refine lv_iload_n hx hb dX5_init_78 rfl (lv_at hl 0 rfl) ?_
    refine lv_bipush (v := 12) hx hb dX5_init_79 (by decide) ?_
    refine lv_icmp_ge (tgt := 119) hx hb dX5_init_81 (by decide) (fun c_24 => absurd c_24 (show ¬ (12 : Int32) ≤ nI i from nI_ge hi (by decide))) (fun _ => ?_)
    refine lv_aload_n hx hb dX5_init_84 rfl (lv_at hl 1 rfl) ?_
    refine va_get (D := (dC, dI)) (ci := 5) (v := .ref a_5) (C := RX5) (T := TX5) (N := 12) hx hb hts tl_X5 hown hK hP 0 rfl rfl 1 (by decide) (hts _ tw_359) (fun _ h9 => h9) rfl dX5_init_85 ?_
    refine lv_iload_n hx hb dX5_init_88 rfl (lv_at hl 0 rfl) ?_
    have h8_a_25 : tp_dv 6 tyX4 [.null, .null, .null, .int 0, .int 0, .int 0] = true := by decide +kernel
    refine va_new (ci := 4) (fs := [.null, .null, .null, .int 0, .int 0, .int 0]) (C := RX4) (T := TX4) (N := 6) hx hb hts tl_X4 tyX4 tyX4_ok hown (hts _ tw_193) (hts _ tw_214) (hts _ tw_45) hK hP hD hS hA rfl (fun j hj => by exact tp_dv_ok h8_a_25 j hj) (by show (0 + 1 + 158 + 1 + 1 + 1 + 1) + 6 * i + 1 ≤ 645; omega) (by show (0 + 4 + 2676 + 12 + 12 + 10 + 200) + 220 * i + 6 ≤ 10474; omega) dX5_init_89 (fun a_25 H hP hD hS => ?_)
    have hP : va_P (dC, dI) vwCl [(a0, .inr (5, [.ref a_1, .ref a_5, .ref a_7, .ref a_9, .ref a_11, .null, .int 0, .int 1, .int 0, .int 0, .int 0, .int 0])), (a_1, .inr (2, [.ref z_3, .int 0, .ref z_4, .int 0])), (a_5, .inl (cy 4, 12, .inr (.inr (.inr (.inr g1))))), (a_7, .inl (cy 5, 12, .inr (.inr (.inr (.inr g2))))), (a_9, .inl (cy 6, 10, .inr (.inr (.inr (.inr ((fun _ => none))))))), (a_11, .inl (cy 7, 200, .inr (.inr (.inr (.inr ((fun _ => none))))))), (a_25, .inr (4, [.null, .null, .null, .int 0, .int 0, .int 0]))] _ := hP
    have hD : va_D A [(a0, .inr (5, [.ref a_1, .ref a_5, .ref a_7, .ref a_9, .ref a_11, .null, .int 0, .int 1, .int 0, .int 0, .int 0, .int 0])), (a_1, .inr (2, [.ref z_3, .int 0, .ref z_4, .int 0])), (a_5, .inl (cy 4, 12, .inr (.inr (.inr (.inr g1))))), (a_7, .inl (cy 5, 12, .inr (.inr (.inr (.inr g2))))), (a_9, .inl (cy 6, 10, .inr (.inr (.inr (.inr ((fun _ => none))))))), (a_11, .inl (cy 7, 200, .inr (.inr (.inr (.inr ((fun _ => none))))))), (a_25, .inr (4, [.null, .null, .null, .int 0, .int 0, .int 0]))] := hD
    refine lv_dup hx hb dX5_init_92 rfl ?_
    have hFc := va_free (wc := [(a_25, .inr (4, [.null, .null, .null, .int 0, .int 0, .int 0]))]) hD hS hA [6] rfl
    refine va_callv (va_runIN (As := []) (rest := [.ref a_25, .int (nI i), .ref a_5]) ⟨hx, hb, hml, hown, hts⟩ (tm_Signal l hst dC dI cy a_25 H.size) ⟨tp_cnB 0 hts (te_m2 hE) tw_45 tw_217 rfl rfl (by decide +kernel) ⟨Nat.le_of_ble_eq_true rfl, Nat.le_of_ble_eq_true rfl⟩, rfl, hts _ tw_216⟩ ⟨tp_blind, fun U hU hW => ⟨rfl, tp_pay hK hP hD hE hZ hS [6] (by decide) rfl hFc U hU hW⟩⟩ rfl rfl hl.1 rfl (lv_room (Nat.le_of_ble_eq_true rfl)) dX5_init_93 ⟨(by show (0 + 1 + 158 + 1 + 1 + 1 + 1) + 6 * i + 1 + 3 ≤ 645; omega), (by show (0 + 4 + 2676 + 12 + 12 + 10 + 200) + 220 * i + 6 + 12 ≤ 10474; omega)⟩) hS (fun q _ h => hFc q h) hFc (fun u t H1 locs ht hvm hw hB hz1 hk1 hS => ?_)
    obtain ⟨z_27, z_28, z_29, hP1, hD1⟩ := hB
    rw [ht] at hP1
    obtain ⟨hP, hD⟩ := va_join (wr := [(a0, .inr (5, [.ref a_1, .ref a_5, .ref a_7, .ref a_9, .ref a_11, .null, .int 0, .int 1, .int 0, .int 0, .int 0, .int 0])), (a_1, .inr (2, [.ref z_3, .int 0, .ref z_4, .int 0])), (a_5, .inl (cy 4, 12, .inr (.inr (.inr (.inr g1))))), (a_7, .inl (cy 5, 12, .inr (.inr (.inr (.inr g2))))), (a_9, .inl (cy 6, 10, .inr (.inr (.inr (.inr ((fun _ => none))))))), (a_11, .inl (cy 7, 200, .inr (.inr (.inr (.inr ((fun _ => none)))))))]) (w1 := [(a_25, .inr (4, [.ref z_27, .ref z_28, .ref z_29, .int 0, .int ((-1)), .int 0]))]) hP hD [6] [0, 1, 2, 3, 4, 5] rfl rfl (by decide) (by decide) hk1 hFc hP1 hD1
    generalize H1 = H at hP hS ⊢
    have hP : va_P (dC, dI) vwCl [(a0, .inr (5, [.ref a_1, .ref a_5, .ref a_7, .ref a_9, .ref a_11, .null, .int 0, .int 1, .int 0, .int 0, .int 0, .int 0])), (a_1, .inr (2, [.ref z_3, .int 0, .ref z_4, .int 0])), (a_5, .inl (cy 4, 12, .inr (.inr (.inr (.inr g1))))), (a_7, .inl (cy 5, 12, .inr (.inr (.inr (.inr g2))))), (a_9, .inl (cy 6, 10, .inr (.inr (.inr (.inr ((fun _ => none))))))), (a_11, .inl (cy 7, 200, .inr (.inr (.inr (.inr ((fun _ => none))))))), (a_25, .inr (4, [.ref z_27, .ref z_28, .ref z_29, .int 0, .int ((-1)), .int 0]))] _ := hP
    have hD : va_D A [(a0, .inr (5, [.ref a_1, .ref a_5, .ref a_7, .ref a_9, .ref a_11, .null, .int 0, .int 1, .int 0, .int 0, .int 0, .int 0])), (a_1, .inr (2, [.ref z_3, .int 0, .ref z_4, .int 0])), (a_5, .inl (cy 4, 12, .inr (.inr (.inr (.inr g1))))), (a_7, .inl (cy 5, 12, .inr (.inr (.inr (.inr g2))))), (a_9, .inl (cy 6, 10, .inr (.inr (.inr (.inr ((fun _ => none))))))), (a_11, .inl (cy 7, 200, .inr (.inr (.inr (.inr ((fun _ => none))))))), (a_25, .inr (4, [.ref z_27, .ref z_28, .ref z_29, .int 0, .int ((-1)), .int 0]))] := hD
    refine va_astq hx hb hK hP hD hS 2 4 6 4 rfl rfl rfl rfl (vp_in_nI hi (by decide)) dX5_init_96 (fun H locs hP hD hS => ?_)
    have hP : va_P (dC, dI) vwCl [(a0, .inr (5, [.ref a_1, .ref a_5, .ref a_7, .ref a_9, .ref a_11, .null, .int 0, .int 1, .int 0, .int 0, .int 0, .int 0])), (a_1, .inr (2, [.ref z_3, .int 0, .ref z_4, .int 0])), (a_5, .inl (cy 4, 12, .inr (.inr (.inr (.inr (va_up g1 (nI i : Int32).toNatClampNeg (some a_25))))))), (a_7, .inl (cy 5, 12, .inr (.inr (.inr (.inr g2))))), (a_9, .inl (cy 6, 10, .inr (.inr (.inr (.inr ((fun _ => none))))))), (a_11, .inl (cy 7, 200, .inr (.inr (.inr (.inr ((fun _ => none))))))), (a_25, .inr (4, [.ref z_27, .ref z_28, .ref z_29, .int 0, .int ((-1)), .int 0]))] _ := hP
    have hD : va_D A [(a0, .inr (5, [.ref a_1, .ref a_5, .ref a_7, .ref a_9, .ref a_11, .null, .int 0, .int 1, .int 0, .int 0, .int 0, .int 0])), (a_1, .inr (2, [.ref z_3, .int 0, .ref z_4, .int 0])), (a_5, .inl (cy 4, 12, .inr (.inr (.inr (.inr (va_up g1 (nI i : Int32).toNatClampNeg (some a_25))))))), (a_7, .inl (cy 5, 12, .inr (.inr (.inr (.inr g2))))), (a_9, .inl (cy 6, 10, .inr (.inr (.inr (.inr ((fun _ => none))))))), (a_11, .inl (cy 7, 200, .inr (.inr (.inr (.inr ((fun _ => none))))))), (a_25, .inr (4, [.ref z_27, .ref z_28, .ref z_29, .int 0, .int ((-1)), .int 0]))] := hD
    refine lv_aload_n hx hb dX5_init_97 rfl (lv_at hl 1 rfl) ?_
    refine va_get (D := (dC, dI)) (ci := 5) (v := .ref a_7) (C := RX5) (T := TX5) (N := 12) hx hb hts tl_X5 hown hK hP 0 rfl rfl 2 (by decide) (hts _ tw_361) (fun _ h9 => h9) rfl dX5_init_98 ?_
    refine lv_iload_n hx hb dX5_init_101 rfl (lv_at hl 0 rfl) ?_
    have h8_a_30 : tp_dv 2 tyX3 [.null, .int 0] = true := by decide +kernel
    refine va_new (ci := 3) (fs := [.null, .int 0]) (C := RX3) (T := TX3) (N := 2) hx hb hts tl_X3 tyX3 tyX3_ok hown (hts _ tw_195) (hts _ tw_88) (hts _ tw_42) hK hP hD hS hA rfl (fun j hj => by exact tp_dv_ok h8_a_30 j hj) (by show (0 + 1 + 158 + 1 + 1 + 1 + 1) + 6 * i + 1 + 3 + 1 ≤ 645; omega) (by show (0 + 4 + 2676 + 12 + 12 + 10 + 200) + 220 * i + 6 + 12 + 2 ≤ 10474; omega) dX5_init_102 (fun a_30 H hP hD hS => ?_)
    have hP : va_P (dC, dI) vwCl [(a0, .inr (5, [.ref a_1, .ref a_5, .ref a_7, .ref a_9, .ref a_11, .null, .int 0, .int 1, .int 0, .int 0, .int 0, .int 0])), (a_1, .inr (2, [.ref z_3, .int 0, .ref z_4, .int 0])), (a_5, .inl (cy 4, 12, .inr (.inr (.inr (.inr (va_up g1 (nI i : Int32).toNatClampNeg (some a_25))))))), (a_7, .inl (cy 5, 12, .inr (.inr (.inr (.inr g2))))), (a_9, .inl (cy 6, 10, .inr (.inr (.inr (.inr ((fun _ => none))))))), (a_11, .inl (cy 7, 200, .inr (.inr (.inr (.inr ((fun _ => none))))))), (a_25, .inr (4, [.ref z_27, .ref z_28, .ref z_29, .int 0, .int ((-1)), .int 0])), (a_30, .inr (3, [.null, .int 0]))] _ := hP
    have hD : va_D A [(a0, .inr (5, [.ref a_1, .ref a_5, .ref a_7, .ref a_9, .ref a_11, .null, .int 0, .int 1, .int 0, .int 0, .int 0, .int 0])), (a_1, .inr (2, [.ref z_3, .int 0, .ref z_4, .int 0])), (a_5, .inl (cy 4, 12, .inr (.inr (.inr (.inr (va_up g1 (nI i : Int32).toNatClampNeg (some a_25))))))), (a_7, .inl (cy 5, 12, .inr (.inr (.inr (.inr g2))))), (a_9, .inl (cy 6, 10, .inr (.inr (.inr (.inr ((fun _ => none))))))), (a_11, .inl (cy 7, 200, .inr (.inr (.inr (.inr ((fun _ => none))))))), (a_25, .inr (4, [.ref z_27, .ref z_28, .ref z_29, .int 0, .int ((-1)), .int 0])), (a_30, .inr (3, [.null, .int 0]))] := hD
    refine lv_dup hx hb dX5_init_105 rfl ?_
    refine lv_sipush (v := 200) hx hb dX5_init_106 (by decide) ?_
    have hFc := va_free (wc := [(a_30, .inr (3, [.null, .int 0]))]) hD hS hA [7] rfl
    refine va_callv (va_runI (As := [.int 200]) (rest := [.ref a_30, .int (nI i), .ref a_7]) ⟨hx, hb, hml, hown, hts⟩ (tm_Row_200 l hst dC dI cy a_30 H.size) (tp_cwI 1 hts tw_242 tw_90 tw_42 tw_91 rfl rfl rfl (by decide +kernel) ⟨Nat.le_of_ble_eq_true rfl, Nat.le_of_ble_eq_true rfl⟩) ⟨tp_blind, fun U hU hW => ⟨rfl, tp_pay hK hP hD hE hZ hS [7] (by decide) rfl hFc U hU hW⟩⟩ rfl rfl hl.1 rfl (lv_room (Nat.le_of_ble_eq_true rfl)) dX5_init_109 ⟨(by show (0 + 1 + 158 + 1 + 1 + 1 + 1) + 6 * i + 1 + 3 + 1 + 1 ≤ 645; omega), (by show (0 + 4 + 2676 + 12 + 12 + 10 + 200) + 220 * i + 6 + 12 + 2 + 200 ≤ 10474; omega)⟩) hS (fun q _ h => hFc q h) hFc (fun u t H1 locs ht hvm hw hB hz1 hk1 hS => ?_)
    obtain ⟨z_32, hP1, hD1⟩ := hB
    rw [ht] at hP1
    obtain ⟨hP, hD⟩ := va_join (wr := [(a0, .inr (5, [.ref a_1, .ref a_5, .ref a_7, .ref a_9, .ref a_11, .null, .int 0, .int 1, .int 0, .int 0, .int 0, .int 0])), (a_1, .inr (2, [.ref z_3, .int 0, .ref z_4, .int 0])), (a_5, .inl (cy 4, 12, .inr (.inr (.inr (.inr (va_up g1 (nI i : Int32).toNatClampNeg (some a_25))))))), (a_7, .inl (cy 5, 12, .inr (.inr (.inr (.inr g2))))), (a_9, .inl (cy 6, 10, .inr (.inr (.inr (.inr ((fun _ => none))))))), (a_11, .inl (cy 7, 200, .inr (.inr (.inr (.inr ((fun _ => none))))))), (a_25, .inr (4, [.ref z_27, .ref z_28, .ref z_29, .int 0, .int ((-1)), .int 0]))]) (w1 := [(a_30, .inr (3, [.ref z_32, .int 0]))]) hP hD [7] [0, 1, 2, 3, 4, 5, 6] rfl rfl (by decide) (by decide) hk1 hFc hP1 hD1
    generalize H1 = H at hP hS ⊢
    have hP : va_P (dC, dI) vwCl [(a0, .inr (5, [.ref a_1, .ref a_5, .ref a_7, .ref a_9, .ref a_11, .null, .int 0, .int 1, .int 0, .int 0, .int 0, .int 0])), (a_1, .inr (2, [.ref z_3, .int 0, .ref z_4, .int 0])), (a_5, .inl (cy 4, 12, .inr (.inr (.inr (.inr (va_up g1 (nI i : Int32).toNatClampNeg (some a_25))))))), (a_7, .inl (cy 5, 12, .inr (.inr (.inr (.inr g2))))), (a_9, .inl (cy 6, 10, .inr (.inr (.inr (.inr ((fun _ => none))))))), (a_11, .inl (cy 7, 200, .inr (.inr (.inr (.inr ((fun _ => none))))))), (a_25, .inr (4, [.ref z_27, .ref z_28, .ref z_29, .int 0, .int ((-1)), .int 0])), (a_30, .inr (3, [.ref z_32, .int 0]))] _ := hP
    have hD : va_D A [(a0, .inr (5, [.ref a_1, .ref a_5, .ref a_7, .ref a_9, .ref a_11, .null, .int 0, .int 1, .int 0, .int 0, .int 0, .int 0])), (a_1, .inr (2, [.ref z_3, .int 0, .ref z_4, .int 0])), (a_5, .inl (cy 4, 12, .inr (.inr (.inr (.inr (va_up g1 (nI i : Int32).toNatClampNeg (some a_25))))))), (a_7, .inl (cy 5, 12, .inr (.inr (.inr (.inr g2))))), (a_9, .inl (cy 6, 10, .inr (.inr (.inr (.inr ((fun _ => none))))))), (a_11, .inl (cy 7, 200, .inr (.inr (.inr (.inr ((fun _ => none))))))), (a_25, .inr (4, [.ref z_27, .ref z_28, .ref z_29, .int 0, .int ((-1)), .int 0])), (a_30, .inr (3, [.ref z_32, .int 0]))] := hD
    refine va_astq hx hb hK hP hD hS 3 5 7 3 rfl rfl rfl rfl (vp_in_nI hi (by decide)) dX5_init_112 (fun H locs hP hD hS => ?_)
    have hP : va_P (dC, dI) vwCl [(a0, .inr (5, [.ref a_1, .ref a_5, .ref a_7, .ref a_9, .ref a_11, .null, .int 0, .int 1, .int 0, .int 0, .int 0, .int 0])), (a_1, .inr (2, [.ref z_3, .int 0, .ref z_4, .int 0])), (a_5, .inl (cy 4, 12, .inr (.inr (.inr (.inr (va_up g1 (nI i : Int32).toNatClampNeg (some a_25))))))), (a_7, .inl (cy 5, 12, .inr (.inr (.inr (.inr (va_up g2 (nI i : Int32).toNatClampNeg (some a_30))))))), (a_9, .inl (cy 6, 10, .inr (.inr (.inr (.inr ((fun _ => none))))))), (a_11, .inl (cy 7, 200, .inr (.inr (.inr (.inr ((fun _ => none))))))), (a_25, .inr (4, [.ref z_27, .ref z_28, .ref z_29, .int 0, .int ((-1)), .int 0])), (a_30, .inr (3, [.ref z_32, .int 0]))] _ := hP
    have hD : va_D A [(a0, .inr (5, [.ref a_1, .ref a_5, .ref a_7, .ref a_9, .ref a_11, .null, .int 0, .int 1, .int 0, .int 0, .int 0, .int 0])), (a_1, .inr (2, [.ref z_3, .int 0, .ref z_4, .int 0])), (a_5, .inl (cy 4, 12, .inr (.inr (.inr (.inr (va_up g1 (nI i : Int32).toNatClampNeg (some a_25))))))), (a_7, .inl (cy 5, 12, .inr (.inr (.inr (.inr (va_up g2 (nI i : Int32).toNatClampNeg (some a_30))))))), (a_9, .inl (cy 6, 10, .inr (.inr (.inr (.inr ((fun _ => none))))))), (a_11, .inl (cy 7, 200, .inr (.inr (.inr (.inr ((fun _ => none))))))), (a_25, .inr (4, [.ref z_27, .ref z_28, .ref z_29, .int 0, .int ((-1)), .int 0])), (a_30, .inr (3, [.ref z_32, .int 0]))] := hD
    refine lv_iinc (v := nI (i + 1)) (lv' := [(2, .int (nI (i + 1))), (0, .ref a0)]) hx hb dX5_init_113 hl (k := 0) rfl (nI_1 i) (by decide) rfl (fun ls hl => ?_)
    refine lv_goto (tgt := 78) hx hb dX5_init_116 (by decide) ?_
    refine W.widen (k := (0 + 1 + 158 + 1 + 1 + 1 + 1) + 6 * (i + 1)) (n := (0 + 4 + 2676 + 12 + 12 + 10 + 200) + 220 * (i + 1)) (by omega) (by omega) ?_
    exact ih (va_up g1 (nI i : Int32).toNatClampNeg (some a_25), va_up g2 (nI i : Int32).toNatClampNeg (some a_30)) _ _ ls ⟨hP.sub [0, 1, 2, 3, 4, 5] rfl, hD.sub [0, 1, 2, 3, 4, 5] (by decide) rfl, hS, lv_sub hl [0, 1] rfl⟩
set_option maxRecDepth 100000 in
set_option maxHeartbeats 4000000 in
/-- Turnpike() -/
theorem tm_Turnpike (l : Launch) (hst : l.stackTraces = false) (dC : Nat → ClassId) (dI : Nat → Nat → Nat) (cy : Nat → ClassId) (a0 : Nat) (sz : Nat) : Met l yX8_init (tp_w yX8_init cX8_init 1 none) ({ frames := 5, cells := 1494, slots := 21373, locals := 98 }) (va_Pc [.ref a0] (tp_Pre dC dI cy [(a0, .inr (8, [.null, .null]))] sz)) (va_Qv (fun _ : Unit => True) (fun (_ : Unit) (t : State) => ∃ (q8 : Nat), ∃ (q9 : Nat), ∃ (q0 : Nat), ∃ (q1 : Nat), ∃ (q2 : Nat), ∃ (q3 : Nat), ∃ (q4 : Nat), ∃ (q5 : Nat), ∃ (q6 : Nat), ∃ (q7 : Nat), tp_Post dC dI (va_A [(a0, .inr (8, [.null, .null]))] sz) [(a0, .inr (8, [.ref q8, .ref q9])), (q8, .inr (5, [.ref q0, .ref q1, .ref q2, .ref q3, .ref q4, .ref q5, .int 0, .int 1, .int 0, .int 0, .int 0, .int 0])), (q0, .inr (2, [.ref q6, .int 0, .ref q7, .int 0]))] t) (va_A [(a0, .inr (8, [.null, .null]))] sz)) 1494 21373 (va_A [(a0, .inr (8, [.null, .null]))] sz) := by
  refine Met.ofW (cc := cX8_init) (maxL := 1) (ret := none) (by decide) rfl ?_
  intro p e s m args below meth c s₁ B hml hv
  obtain ⟨rfl, hsz, hP, hK, hD0, hE, hZ⟩ := hv
  have hx := B.exec
  have hb := B.bytes
  have hr := B.returns
  have hts0 := atoms_spec (ws := tp_w yX8_init cX8_init 1 none) B.pre
  have hts : ∀ w ∈ tp_all, w.before _ s = true := fun w h => hts0 w (List.mem_cons_of_mem _ h)
  have hown : s.vm.findClass RX8 = some m.cls := findClass_of_methodNamed B.named
  have hlocks := B.notSynchronized
  have hin : meth.name = "<init>" := (name_of_methodNamed B.named B.method).1
  subst hsz
  have hD := hD0.self (sz := s.heap.size)
  generalize hAe : va_A [(a0, .inr (8, [.null, .null]))] s.heap.size = A at hD hZ ⊢
  have hA : ∀ q : Nat, s.heap.size ≤ q → A q := fun q h => by rw [← hAe]; exact Or.inr h
  have hS : va_S A s.heap s.heap [] := va_S.rf
  have hl9 := lv_entry ([.ref a0]) (n := 1) (Nat.le_of_ble_eq_true rfl)
  rw [lg_entry_eq]
  generalize (lg_sl ([.ref a0]) ++ List.replicate (1 - (lg_sl ([.ref a0])).length) Slot.unset).toArray = ls at hl9 ⊢
  have hl : lv_has ls 1 [(0, .ref a0)] := hl9
  refine lv_aload_n hx hb dX8_init_0 rfl (lv_at hl 0 rfl) ?_
  refine W.objInit hx hb hown (hts _ tw_63) (hts _ tw_64) (hts _ tw_65) rfl (by rw [hml]; exact hl.1) rfl dX8_init_1 (Nat.le_of_ble_eq_true rfl) (Nat.le_of_ble_eq_true rfl) ?_
  refine W.eq (g2 := F0 m 4 ls []) rfl ?_
  refine lv_aload_n hx hb dX8_init_4 rfl (lv_at hl 0 rfl) ?_
  have h8_a_1 : tp_dv 12 tyX5 [.null, .null, .null, .null, .null, .null, .int 0, .int 0, .int 0, .int 0, .int 0, .int 0] = true := by decide +kernel
  refine va_new (ci := 5) (fs := [.null, .null, .null, .null, .null, .null, .int 0, .int 0, .int 0, .int 0, .int 0, .int 0]) (C := RX5) (T := TX5) (N := 12) hx hb hts tl_X5 tyX5 tyX5_ok hown (hts _ tw_66) (hts _ tw_67) (hts _ tw_39) hK hP hD hS hA rfl (fun j hj => by exact tp_dv_ok h8_a_1 j hj) (Nat.le_of_ble_eq_true rfl) (Nat.le_of_ble_eq_true rfl) dX8_init_5 (fun a_1 H hP hD hS => ?_)
  have hP : va_P (dC, dI) vwCl [(a0, .inr (8, [.null, .null])), (a_1, .inr (5, [.null, .null, .null, .null, .null, .null, .int 0, .int 0, .int 0, .int 0, .int 0, .int 0]))] _ := hP
  have hD : va_D A [(a0, .inr (8, [.null, .null])), (a_1, .inr (5, [.null, .null, .null, .null, .null, .null, .int 0, .int 0, .int 0, .int 0, .int 0, .int 0]))] := hD
  refine lv_dup hx hb dX8_init_8 rfl ?_
  refine lv_iconst (v := 1) hx hb dX8_init_9 (by decide) ?_
  have hFc := va_free (wc := [(a_1, .inr (5, [.null, .null, .null, .null, .null, .null, .int 0, .int 0, .int 0, .int 0, .int 0, .int 0]))]) hD hS hA [1] rfl
  refine va_callv (va_runI (As := [.int 1]) (rest := [.ref a_1, .ref a0]) ⟨hx, hb, hml, hown, hts⟩ (tm_Traffic_1 l hst dC dI cy a_1 H.size) (tp_cwI 1 hts tw_68 tw_69 tw_39 tw_70 rfl rfl rfl (by decide +kernel) ⟨Nat.le_of_ble_eq_true rfl, Nat.le_of_ble_eq_true rfl⟩) ⟨tp_blind, fun U hU hW => ⟨rfl, tp_pay hK hP hD hE hZ hS [1] (by decide) rfl hFc U hU hW⟩⟩ rfl rfl hl.1 rfl (lv_room (Nat.le_of_ble_eq_true rfl)) dX8_init_10 ⟨(Nat.le_of_ble_eq_true rfl), (Nat.le_of_ble_eq_true rfl)⟩) hS (fun q _ h => hFc q h) hFc (fun u t H1 locs ht hvm hw hB hz1 hk1 hS => ?_)
  obtain ⟨z_3, z_4, z_5, z_6, z_7, z_8, z_9, z_10, hP1, hD1⟩ := hB
  rw [ht] at hP1
  obtain ⟨hP, hD⟩ := va_join (wr := [(a0, .inr (8, [.null, .null]))]) (w1 := [(a_1, .inr (5, [.ref z_3, .ref z_4, .ref z_5, .ref z_6, .ref z_7, .ref z_8, .int 0, .int 1, .int 0, .int 0, .int 0, .int 0])), (z_3, .inr (2, [.ref z_9, .int 0, .ref z_10, .int 0]))]) hP hD [1] [0] rfl rfl (by decide) (by decide) hk1 hFc hP1 hD1
  generalize H1 = H at hP hS ⊢
  have hP : va_P (dC, dI) vwCl [(a0, .inr (8, [.null, .null])), (a_1, .inr (5, [.ref z_3, .ref z_4, .ref z_5, .ref z_6, .ref z_7, .ref z_8, .int 0, .int 1, .int 0, .int 0, .int 0, .int 0])), (z_3, .inr (2, [.ref z_9, .int 0, .ref z_10, .int 0]))] _ := hP
  have hD : va_D A [(a0, .inr (8, [.null, .null])), (a_1, .inr (5, [.ref z_3, .ref z_4, .ref z_5, .ref z_6, .ref z_7, .ref z_8, .int 0, .int 1, .int 0, .int 0, .int 0, .int 0])), (z_3, .inr (2, [.ref z_9, .int 0, .ref z_10, .int 0]))] := hD
  refine va_putF (D := (dC, dI)) (ci := 8) (v := .ref a_1) (ty := (.object "Turnpike$Traffic")) (C := RX8) (T := TX8) (N := 2) hx hb hts tl_X8 tyX8 tyX8_ok nmX8 hown hK hP hD hS 0 rfl rfl 0 (by decide) (hts _ tw_406) (fun _ h9 => h9) rfl hin rfl (by decide +kernel) rfl rfl (Nat.le_of_ble_eq_true rfl) dX8_init_13 (fun H locs hP hD hS => ?_)
  have hP : va_P (dC, dI) vwCl [(a0, .inr (8, [.ref a_1, .null])), (a_1, .inr (5, [.ref z_3, .ref z_4, .ref z_5, .ref z_6, .ref z_7, .ref z_8, .int 0, .int 1, .int 0, .int 0, .int 0, .int 0])), (z_3, .inr (2, [.ref z_9, .int 0, .ref z_10, .int 0]))] _ := hP
  have hD : va_D A [(a0, .inr (8, [.ref a_1, .null])), (a_1, .inr (5, [.ref z_3, .ref z_4, .ref z_5, .ref z_6, .ref z_7, .ref z_8, .int 0, .int 1, .int 0, .int 0, .int 0, .int 0])), (z_3, .inr (2, [.ref z_9, .int 0, .ref z_10, .int 0]))] := hD
  refine lv_aload_n hx hb dX8_init_16 rfl (lv_at hl 0 rfl) ?_
  have h8_a_11 : tp_dv 12 tyX5 [.null, .null, .null, .null, .null, .null, .int 0, .int 0, .int 0, .int 0, .int 0, .int 0] = true := by decide +kernel
  refine va_new (ci := 5) (fs := [.null, .null, .null, .null, .null, .null, .int 0, .int 0, .int 0, .int 0, .int 0, .int 0]) (C := RX5) (T := TX5) (N := 12) hx hb hts tl_X5 tyX5 tyX5_ok hown (hts _ tw_66) (hts _ tw_67) (hts _ tw_39) hK hP hD hS hA rfl (fun j hj => by exact tp_dv_ok h8_a_11 j hj) (Nat.le_of_ble_eq_true rfl) (Nat.le_of_ble_eq_true rfl) dX8_init_17 (fun a_11 H hP hD hS => ?_)
  have hP : va_P (dC, dI) vwCl [(a0, .inr (8, [.ref a_1, .null])), (a_1, .inr (5, [.ref z_3, .ref z_4, .ref z_5, .ref z_6, .ref z_7, .ref z_8, .int 0, .int 1, .int 0, .int 0, .int 0, .int 0])), (z_3, .inr (2, [.ref z_9, .int 0, .ref z_10, .int 0])), (a_11, .inr (5, [.null, .null, .null, .null, .null, .null, .int 0, .int 0, .int 0, .int 0, .int 0, .int 0]))] _ := hP
  have hD : va_D A [(a0, .inr (8, [.ref a_1, .null])), (a_1, .inr (5, [.ref z_3, .ref z_4, .ref z_5, .ref z_6, .ref z_7, .ref z_8, .int 0, .int 1, .int 0, .int 0, .int 0, .int 0])), (z_3, .inr (2, [.ref z_9, .int 0, .ref z_10, .int 0])), (a_11, .inr (5, [.null, .null, .null, .null, .null, .null, .int 0, .int 0, .int 0, .int 0, .int 0, .int 0]))] := hD
  refine lv_dup hx hb dX8_init_20 rfl ?_
  refine lv_iconst (v := 0) hx hb dX8_init_21 (by decide) ?_
  have hFc := va_free (wc := [(a_11, .inr (5, [.null, .null, .null, .null, .null, .null, .int 0, .int 0, .int 0, .int 0, .int 0, .int 0]))]) hD hS hA [3] rfl
  refine va_callv (va_runI (As := [.int 0]) (rest := [.ref a_11, .ref a0]) ⟨hx, hb, hml, hown, hts⟩ (tm_Traffic_0 l hst dC dI cy a_11 H.size) (tp_cwI 1 hts tw_68 tw_69 tw_39 tw_70 rfl rfl rfl (by decide +kernel) ⟨Nat.le_of_ble_eq_true rfl, Nat.le_of_ble_eq_true rfl⟩) ⟨tp_blind, fun U hU hW => ⟨rfl, tp_pay hK hP hD hE hZ hS [3] (by decide) rfl hFc U hU hW⟩⟩ rfl rfl hl.1 rfl (lv_room (Nat.le_of_ble_eq_true rfl)) dX8_init_22 ⟨(Nat.le_of_ble_eq_true rfl), (Nat.le_of_ble_eq_true rfl)⟩) hS (fun q _ h => hFc q h) hFc (fun u t H1 locs ht hvm hw hB hz1 hk1 hS => ?_)
  obtain ⟨z_13, z_14, z_15, z_16, z_17, hP1, hD1⟩ := hB
  rw [ht] at hP1
  obtain ⟨hP, hD⟩ := va_join (wr := [(a0, .inr (8, [.ref a_1, .null])), (a_1, .inr (5, [.ref z_3, .ref z_4, .ref z_5, .ref z_6, .ref z_7, .ref z_8, .int 0, .int 1, .int 0, .int 0, .int 0, .int 0])), (z_3, .inr (2, [.ref z_9, .int 0, .ref z_10, .int 0]))]) (w1 := [(a_11, .inr (5, [.ref z_13, .ref z_14, .ref z_15, .ref z_16, .ref z_17, .null, .int 0, .int 1, .int 0, .int 0, .int 0, .int 0]))]) hP hD [3] [0, 1, 2] rfl rfl (by decide) (by decide) hk1 hFc hP1 hD1
  generalize H1 = H at hP hS ⊢
  have hP : va_P (dC, dI) vwCl [(a0, .inr (8, [.ref a_1, .null])), (a_1, .inr (5, [.ref z_3, .ref z_4, .ref z_5, .ref z_6, .ref z_7, .ref z_8, .int 0, .int 1, .int 0, .int 0, .int 0, .int 0])), (z_3, .inr (2, [.ref z_9, .int 0, .ref z_10, .int 0])), (a_11, .inr (5, [.ref z_13, .ref z_14, .ref z_15, .ref z_16, .ref z_17, .null, .int 0, .int 1, .int 0, .int 0, .int 0, .int 0]))] _ := hP
  have hD : va_D A [(a0, .inr (8, [.ref a_1, .null])), (a_1, .inr (5, [.ref z_3, .ref z_4, .ref z_5, .ref z_6, .ref z_7, .ref z_8, .int 0, .int 1, .int 0, .int 0, .int 0, .int 0])), (z_3, .inr (2, [.ref z_9, .int 0, .ref z_10, .int 0])), (a_11, .inr (5, [.ref z_13, .ref z_14, .ref z_15, .ref z_16, .ref z_17, .null, .int 0, .int 1, .int 0, .int 0, .int 0, .int 0]))] := hD
  refine va_putF (D := (dC, dI)) (ci := 8) (v := .ref a_11) (ty := (.object "Turnpike$Traffic")) (C := RX8) (T := TX8) (N := 2) hx hb hts tl_X8 tyX8 tyX8_ok nmX8 hown hK hP hD hS 0 rfl rfl 1 (by decide) (hts _ tw_407) (fun _ h9 => h9) rfl hin rfl (by decide +kernel) rfl rfl (Nat.le_of_ble_eq_true rfl) dX8_init_25 (fun H locs hP hD hS => ?_)
  have hP : va_P (dC, dI) vwCl [(a0, .inr (8, [.ref a_1, .ref a_11])), (a_1, .inr (5, [.ref z_3, .ref z_4, .ref z_5, .ref z_6, .ref z_7, .ref z_8, .int 0, .int 1, .int 0, .int 0, .int 0, .int 0])), (z_3, .inr (2, [.ref z_9, .int 0, .ref z_10, .int 0])), (a_11, .inr (5, [.ref z_13, .ref z_14, .ref z_15, .ref z_16, .ref z_17, .null, .int 0, .int 1, .int 0, .int 0, .int 0, .int 0]))] _ := hP
  have hD : va_D A [(a0, .inr (8, [.ref a_1, .ref a_11])), (a_1, .inr (5, [.ref z_3, .ref z_4, .ref z_5, .ref z_6, .ref z_7, .ref z_8, .int 0, .int 1, .int 0, .int 0, .int 0, .int 0])), (z_3, .inr (2, [.ref z_9, .int 0, .ref z_10, .int 0])), (a_11, .inr (5, [.ref z_13, .ref z_14, .ref z_15, .ref z_16, .ref z_17, .null, .int 0, .int 1, .int 0, .int 0, .int 0, .int 0]))] := hD
  refine W.widen (k := 1494) (n := 21373) (Nat.le_of_ble_eq_true rfl) (Nat.le_of_ble_eq_true rfl) ?_
  have hP9 := hP.sub (ws' := [(a0, .inr (8, [.ref a_1, .ref a_11])), (a_1, .inr (5, [.ref z_3, .ref z_4, .ref z_5, .ref z_6, .ref z_7, .ref z_8, .int 0, .int 1, .int 0, .int 0, .int 0, .int 0])), (z_3, .inr (2, [.ref z_9, .int 0, .ref z_10, .int 0]))]) [0, 1, 2] rfl
  have hD9 := hD.sub (ws' := [(a0, .inr (8, [.ref a_1, .ref a_11])), (a_1, .inr (5, [.ref z_3, .ref z_4, .ref z_5, .ref z_6, .ref z_7, .ref z_8, .int 0, .int 1, .int 0, .int 0, .int 0, .int 0])), (z_3, .inr (2, [.ref z_9, .int 0, .ref z_10, .int 0]))]) [0, 1, 2] (by decide) rfl
  exact W.vret hx hb hr (fun t ht hW => ⟨⟨(), rfl, trivial, ⟨a_1, a_11, z_3, z_4, z_5, z_6, z_7, z_8, z_9, z_10, by rw [ht]; exact hP9, hD9⟩⟩, hS.F ht⟩) hS.2.2 dX8_init_28
end
