/-! ===== lN n to 2^64: shifts, and, or, masks, one bit ===== -/
theorem wb_tb (n : Nat) : (lN n).toBitVec = BitVec.ofNat 64 n := rfl
theorem wb_inj {a b : Int64} (h : a.toBitVec = b.toBitVec) : a = b := Int64.toBitVec_inj.mp h
theorem wb_tn {n : Nat} (h : n < 2 ^ 64) : (lN n).toBitVec.toNat = n := by rw [wb_tb, BitVec.toNat_ofNat, Nat.mod_eq_of_lt h]
theorem wb_of (x : Int64) : ∃ n, n < 2 ^ 64 ∧ x = lN n := ⟨x.toBitVec.toNat, x.toBitVec.isLt, wb_inj (by rw [wb_tb]; simp)⟩
theorem wb_of32 (x : Int32) : ∃ n, n < 2 ^ 32 ∧ x = nI n := ⟨x.toBitVec.toNat, x.toBitVec.isLt, Int32.toBitVec_inj.mp (by show _ = BitVec.ofNat 32 _; simp)⟩
theorem wb_c : ∀ k, k < 64 → ((nI k).toInt64 &&& 63) = lN k := by decide +kernel
theorem wb_cu : ∀ k, k < 64 → ((nI k).toInt64.toUInt64 &&& Int64.toUInt64 63) = UInt64.ofNat k := by decide +kernel
theorem wb_sm : ∀ k, k < 64 → (BitVec.ofNat 64 k).smod 64 = BitVec.ofNat 64 k := by decide +kernel
theorem wb_pw {a b : Nat} (h : a ≤ b) : 2 ^ b = 2 ^ a * 2 ^ (b - a) := by rw [← Nat.pow_add]; congr 1; omega
theorem wb_lt2 {a b : Nat} (h : a < b) : 2 ^ a < 2 ^ b := Nat.pow_lt_pow_right (by decide) h
theorem wb_mod (n : Nat) : lN n = lN (n % 2 ^ 64) := wb_inj (by rw [wb_tb, wb_tb]; apply BitVec.eq_of_toNat_eq; rw [BitVec.toNat_ofNat, BitVec.toNat_ofNat, Nat.mod_mod])
theorem wb_shr {n k : Nat} (hn : n < 2 ^ 64) (hk : k < 64) : ((lN n).toUInt64 >>> ((nI k).toInt64.toUInt64 &&& Int64.toUInt64 63)).toInt64 = lN (n / 2 ^ k) := by
  rw [wb_cu k hk]
  apply wb_inj
  apply BitVec.eq_of_toNat_eq
  show ((lN n).toUInt64 >>> UInt64.ofNat k).toNat = (BitVec.ofNat 64 _).toNat
  have h1 : (UInt64.ofNat k).toNat = k := by
    show (BitVec.ofNat 64 k).toNat = k
    rw [BitVec.toNat_ofNat, Nat.mod_eq_of_lt (by omega)]
  have h2 : (lN n).toUInt64.toNat = n := wb_tn hn
  rw [UInt64.toNat_shiftRight, h1, h2, Nat.mod_eq_of_lt hk, Nat.shiftRight_eq_div_pow, BitVec.toNat_ofNat, Nat.mod_eq_of_lt (Nat.lt_of_le_of_lt (Nat.div_le_self _ _) hn)]
theorem wb_shl (n : Nat) {k : Nat} (hk : k < 64) : lN n <<< ((nI k).toInt64 &&& 63) = lN (n * 2 ^ k) := by
  rw [wb_c k hk]
  apply wb_inj
  rw [Int64.toBitVec_shiftLeft, wb_tb, wb_tb, wb_tb, wb_sm k hk]
  apply BitVec.eq_of_toNat_eq
  rw [BitVec.shiftLeft_eq', BitVec.toNat_shiftLeft, BitVec.toNat_ofNat, BitVec.toNat_ofNat, BitVec.toNat_ofNat, Nat.mod_eq_of_lt (show k < 2 ^ 64 by omega), Nat.shiftLeft_eq, Nat.mul_mod, Nat.mod_mod, ← Nat.mul_mod]
theorem wb_and {a b : Nat} (ha : a < 2 ^ 64) (hb : b < 2 ^ 64) : lN a &&& lN b = lN (a &&& b) := by
  apply wb_inj
  rw [Int64.toBitVec_and, wb_tb, wb_tb, wb_tb]
  apply BitVec.eq_of_toNat_eq
  rw [BitVec.toNat_and, BitVec.toNat_ofNat, BitVec.toNat_ofNat, BitVec.toNat_ofNat, Nat.mod_eq_of_lt ha, Nat.mod_eq_of_lt hb, Nat.mod_eq_of_lt (Nat.and_lt_two_pow _ hb)]
theorem wb_or {a b : Nat} (ha : a < 2 ^ 64) (hb : b < 2 ^ 64) : lN a ||| lN b = lN (a ||| b) := by
  apply wb_inj
  rw [Int64.toBitVec_or, wb_tb, wb_tb, wb_tb]
  apply BitVec.eq_of_toNat_eq
  rw [BitVec.toNat_or, BitVec.toNat_ofNat, BitVec.toNat_ofNat, BitVec.toNat_ofNat, Nat.mod_eq_of_lt ha, Nat.mod_eq_of_lt hb, Nat.mod_eq_of_lt (Nat.or_lt_two_pow ha hb)]
theorem wb_mask {n k : Nat} (hn : n < 2 ^ 64) (hk : k < 64) : lN n &&& lN (2 ^ k - 1) = lN (n % 2 ^ k) := by
  rw [wb_and hn (by have := wb_lt2 hk; omega), Nat.and_two_pow_sub_one_eq_mod]
theorem wb_a1 {n : Nat} (hn : n < 2 ^ 64) : lN n &&& 1 = lN (n % 2) := wb_mask (k := 1) hn (by decide)
theorem wb_bit {n k : Nat} (hn : n < 2 ^ 64) (hk : k < 64) : ((lN n).toUInt64 >>> ((nI k).toInt64.toUInt64 &&& Int64.toUInt64 63)).toInt64 &&& 1 = lN (n / 2 ^ k % 2) := by
  rw [wb_shr hn hk, wb_a1 (Nat.lt_of_le_of_lt (Nat.div_le_self _ _) hn)]
theorem wb_xor {q k : Nat} (hk : k < 63) (h : 2 ^ k ≤ q) (h2 : q < 2 ^ (k + 1)) : lN q ^^^ lN (2 ^ k) = lN (q - 2 ^ k) := by
  obtain ⟨r, rfl⟩ : ∃ r, q = 2 ^ k + r := ⟨q - 2 ^ k, by omega⟩
  have hr : r < 2 ^ k := by rw [Nat.pow_succ] at h2; omega
  have hx : (2 ^ k + r) ^^^ 2 ^ k = r := by
    apply Nat.eq_of_testBit_eq
    intro i
    rw [Nat.testBit_xor, Nat.testBit_two_pow]
    rcases Nat.lt_trichotomy i k with h | h | h
    · rw [Nat.testBit_two_pow_add_gt h]
      simp [show ¬ k = i by omega]
    · subst h
      rw [Nat.testBit_two_pow_add_eq]
      simp
    · have a1 : 2 ^ (k + 1) ≤ 2 ^ i := Nat.pow_le_pow_right (by decide) h
      rw [Nat.testBit_lt_two_pow (show 2 ^ k + r < 2 ^ i by omega), Nat.testBit_lt_two_pow (show r < 2 ^ i by omega)]
      simp [show ¬ k = i by omega]
  have b1 := wb_lt2 (show k + 1 < 64 by omega)
  have b2 := wb_lt2 (show k < 64 by omega)
  apply wb_inj
  rw [Int64.toBitVec_xor, wb_tb, wb_tb, wb_tb]
  apply BitVec.eq_of_toNat_eq
  rw [BitVec.toNat_xor, BitVec.toNat_ofNat, BitVec.toNat_ofNat, BitVec.toNat_ofNat, Nat.mod_eq_of_lt (by omega : 2 ^ k + r < 2 ^ 64), Nat.mod_eq_of_lt b2, hx, Nat.add_sub_cancel_left, Nat.mod_eq_of_lt (by omega)]
/-! ===== lN: masks, 'or' of parts that don't overlap is a sum ===== -/
theorem u_tn {n : Nat} (h : n < 2 ^ 64) : (UInt64.ofNat n).toNat = n := Nat.mod_eq_of_lt h
theorem g_and {a b c : Nat} (ha : a < 2 ^ 64) (hb : b < 2 ^ 64) (hc : a &&& b = c) : lN a &&& lN b = lN c := by
  subst hc
  have h : UInt64.ofNat a &&& UInt64.ofNat b = UInt64.ofNat (a &&& b) := UInt64.toNat_inj.mp (by rw [UInt64.toNat_and, u_tn ha, u_tn hb, u_tn (Nat.and_lt_two_pow a hb)])
  have h2 := congrArg UInt64.toInt64 h
  exact h2
theorem g_and1 {a : Nat} (ha : a < 2 ^ 64) : lN a &&& 1 = lN (a % 2) := g_and (b := 1) ha (by decide) (Nat.and_two_pow_sub_one_eq_mod a 1)
theorem g_mask {a s p : Nat} (hp : 2 ^ s = p) (hs : s < 64) (ha : a < 2 ^ 64) : lN a &&& lN (p - 1) = lN (a % p) := by
  subst hp
  have := Nat.pow_lt_pow_right (show 1 < 2 by decide) hs
  exact g_and ha (by omega) (Nat.and_two_pow_sub_one_eq_mod a s)
theorem g_or {k p a b : Nat} (hp : 2 ^ k = p) (ha : a < p) (h : b * p + a < 2 ^ 64) : lN (b * p) ||| lN a = lN (b * p + a) := by
  subst hp
  have h1 : b * 2 ^ k ||| a = b * 2 ^ k + a := by rw [← Nat.shiftLeft_eq, Nat.shiftLeft_add_eq_or_of_lt ha]
  have h3 : UInt64.ofNat (b * 2 ^ k) ||| UInt64.ofNat a = UInt64.ofNat (b * 2 ^ k + a) := UInt64.toNat_inj.mp (by rw [UInt64.toNat_or, u_tn (by omega), u_tn (by omega), u_tn h, h1])
  have h2 := congrArg UInt64.toInt64 h3
  exact h2
theorem g_or' {k p a b : Nat} (hp : 2 ^ k = p) (ha : a < p) (h : a + b * p < 2 ^ 64) : lN a ||| lN (b * p) = lN (a + b * p) := by
  rw [Int64.or_comm, g_or hp ha (by omega), Nat.add_comm]
theorem g_ushr {a k p : Nat} {y : UInt64} (hy : y = UInt64.ofNat k) (hk : k < 64) (hp : 2 ^ k = p) (ha : a < 2 ^ 64) : ((lN a).toUInt64 >>> y).toInt64 = lN (a / p) := by
  subst hy hp
  have h : UInt64.ofNat a >>> UInt64.ofNat k = UInt64.ofNat (a / 2 ^ k) := UInt64.toNat_inj.mp (by rw [UInt64.toNat_shiftRight, u_tn ha, u_tn (by omega), u_tn (Nat.lt_of_le_of_lt (Nat.div_le_self _ _) ha), Nat.mod_eq_of_lt hk, Nat.shiftRight_eq_div_pow])
  have h2 := congrArg UInt64.toInt64 h
  exact h2
theorem g_shl {a k p : Nat} {y : Int64} (hy : y.toBitVec.smod 64 = BitVec.ofNat 64 k) (hk : k < 64) (hp : 2 ^ k = p) (ha : a < 2 ^ 64) : lN a <<< y = lN (a * p) := by
  subst hp
  apply Int64.toBitVec_inj.mp
  rw [Int64.toBitVec_shiftLeft, hy]
  apply BitVec.eq_of_toNat_eq
  have hb : (lN a).toBitVec.toNat = a := Nat.mod_eq_of_lt ha
  have hk' : (BitVec.ofNat 64 k).toNat = k := Nat.mod_eq_of_lt (by omega)
  have h : ((lN a).toBitVec <<< BitVec.ofNat 64 k).toNat = (a * 2 ^ k) % 2 ^ 64 := by simp only [BitVec.shiftLeft_eq', BitVec.toNat_shiftLeft, hb, hk', Nat.shiftLeft_eq]
  exact h
/-! the trails: rows of words, twelve links to a word -/
def W_in (x lo hi : Int32) : Int32 := if x < lo then 0 else if hi < x then 0 else 1
theorem W_in_1 {x lo hi : Int32} (h1 : ¬ x < lo) (h2 : ¬ hi < x) : W_in x lo hi = 1 := by
  unfold W_in
  rw [if_neg h1, if_neg h2]
theorem p32_s (p : Nat) : (32 : Nat) ^ (p + 1) = 32 ^ p * 32 := Nat.pow_succ ..
theorem p32_pos (p : Nat) : 0 < 32 ^ p := Nat.pow_pos (by decide)
theorem W_put {W p x : Nat} (hW : W < 32 ^ p) (hx : x < 32) : W + x * 32 ^ p < 32 ^ (p + 1) := by
  rw [p32_s]
  have h1 : x * 32 ^ p ≤ 31 * 32 ^ p := Nat.mul_le_mul_right _ (by omega)
  have h2 : 32 ^ p * 32 = 31 * 32 ^ p + 32 ^ p := by rw [Nat.mul_comm]; omega
  omega
theorem W_hi {W p x : Nat} (hW : W < 32 ^ p) (hx : x < 32) : (W + x * 32 ^ p) / 32 ^ p % 32 = x := by
  rw [Nat.add_mul_div_right _ _ (p32_pos p), Nat.div_eq_of_lt hW, Nat.zero_add, Nat.mod_eq_of_lt hx]
theorem W_lo {W p q x : Nat} (h : q < p) : (W + x * 32 ^ p) / 32 ^ q % 32 = W / 32 ^ q % 32 := by
  have e : x * 32 ^ p = (x * 32 ^ (p - q - 1) * 32) * 32 ^ q := by
    rw [Nat.mul_assoc, Nat.mul_assoc, Nat.mul_comm 32, ← p32_s, ← Nat.pow_add]
    congr 2
    omega
  rw [e, Nat.add_mul_div_right _ _ (p32_pos q), Nat.add_mul_mod_self_right]
theorem p32_5 (p : Nat) : 2 ^ (p * 5) = 32 ^ p := by rw [Nat.mul_comm, Nat.pow_mul]
theorem p32_60 {p : Nat} (h : p ≤ 12) : 32 ^ p ≤ 2 ^ 60 := by
  have h1 : 32 ^ p ≤ 32 ^ 12 := Nat.pow_le_pow_right (by decide) h
  have h2 : (32 : Nat) ^ 12 = 2 ^ 60 := by decide
  omega
section MROWT
variable {p : Program} {l : Launch} {e : Env} {R : Room} {s : State} {m : MethodId} {args : Array Value} {below : List Frame} {meth : Method} {c : Code} {H : Heap} {locs : List Loc} {cells slots : Nat} {Q : State → Prop}
variable {cc : ByteArray} {pc : Nat} {ls : Array Slot} {rest : List Value} {D : va_G} {cl : List vw_C} {A : Nat → Prop} {a : Nat} {tys : List (ClassId × FieldType)} {ws : va_W} {H0 : Heap}
/-- an array put into an array of such arrays -/
theorem m_astA (hexec : p.tables.exec = Jvm.exec) (hb : c.code = cc) (hK : va_K D cl tys s) (hP : va_P D cl ws H) (hD : va_D A ws) (hS : va_S A H0 H locs) (q0 t0 qk t1 : Nat) {cA cI : ClassId} {ty : FieldType} {n v : Nat} {x : vp_A} {f : Nat → Option Nat} (ha : ws[q0]? = some (a, .inl (cA, n, .inr (.inr (.inr (.inr f)))))) (ht : tys[t0]? = some (cA, .array ty)) (hv : ws[qk]? = some (v, .inl (cI, x))) (hti : tys[t1]? = some (cI, ty)) (hov : va_AOA ty s) (hnm : (FieldType.array ty).toString = "[" ++ ty.toString) (hrt : va_RA s cI ty → s.vm.findClass ("[" ++ ty.toString) = some cI) {i : Int32} (hin : vp_in i n) (hdg : decode cc pc = .ok (.aastore, 1))
    (kk : ∀ (H1 : Heap) (locs1 : List Loc), va_P D cl (ws.set q0 (a, .inl (cA, n, .inr (.inr (.inr (.inr (va_up f i.toNatClampNeg (some v)))))))) H1 → va_D A (ws.set q0 (a, .inl (cA, n, .inr (.inr (.inr (.inr (va_up f i.toNatClampNeg (some v)))))))) → va_S A H0 H1 locs1 → W p l e R s m args below meth c H1 locs1 cells slots Q (F0 m (pc + 1) ls rest)) : W p l e R s m args below meth c H locs cells slots Q (F0 m pc ls (.ref v :: .int i :: .ref a :: rest)) := by
  have hlt : i.toNatClampNeg < n := Nat.not_le.mp fun q => hin (Or.inr q)
  have h0 : ¬ i < 0 := fun q => hin (Or.inl q)
  obtain ⟨comp, c9, k, f1, f2, f3, f4⟩ := Cond.arrayOver_specA (va_AOA.use (A := args) hov)
  have e1 : c9 = cA := Option.some.inj (f4.symm.trans (show s.vm.findClass _ = some cA from (hK.2 t0 _ ht).2))
  subst e1
  have e2 : comp = cI := Option.some.inj (f1.symm.trans (by rw [hnm]; exact hrt (hK.2 t1 _ hti).2))
  subst e2
  obtain ⟨-, kI, hkI, cmI, hkkI⟩ := (hK.2 t1 _ hti).1 0 (fun _ => .null)
  have g1 : H[v]? = some (vp_cell comp x) := hP qk _ hv
  have hcl : (vp_cell comp x).cls = comp := by obtain ⟨n9, y | y | y | y | y⟩ := x <;> rfl
  have hvm : (vp_cell comp x).vm = .none := by obtain ⟨n9, y | y | y | y | y⟩ := x <;> rfl
  refine W.aast hexec hb (hP q0 _ ha) (fun q h => by cases h) (fun h => by cases h) f2 f3 rfl hkI ⟨h0, by show _ < (arrV _ _ _).slots.size; rw [arrV_size]; exact hlt⟩ g1 (fun q h => by rw [hvm] at h; cases h) (by rw [hcl]; exact hkI) (by rw [hcl]; show Vm.assignableAux _ (255 + 1) _ _ = true; unfold Vm.assignableAux; simp) rfl rfl hdg fun H1 e z oq => ?_
  refine kk H1 _ (hP.set hD ha ?_ oq) (hD.set ha) (hS.put z oq (hD.2 q0 _ ha))
  show H1[a]? = some (vp_cell _ _)
  rw [e]
  rw [vp_cell_q, vp_cell_q, arrV_store]
  congr 2
  funext q
  by_cases hq : q = i.toNatClampNeg
  · subst hq
    simp [updV, va_up, va_rf]
  · simp [updV, va_up, hq]
end MROWT
section TRL
variable {cy : Nat → ClassId} {L : Lay} {t : Nat} {a : St} {κ : Kap} {τ τ' : Tau}
theorem tr_t : TW cy L (some t) a κ τ t (.inr (6, [.ref τ.1])) := Or.inr ⟨t, rfl, Or.inl ⟨rfl, rfl⟩⟩
theorem tr_w : TW cy L (some t) a κ τ τ.1 (.inl (cy 9, 200, .inr (.inr (.inr (.inr (fun v => some (τ.2.1 v))))))) := Or.inr ⟨t, rfl, Or.inr (Or.inl ⟨rfl, rfl⟩)⟩
theorem tr_r {v : Nat} (hv : v < 200) : TW cy L (some t) a κ τ (τ.2.1 v) (.inl (cy 1, τ.2.2.1 v, .inr (.inl (τ.2.2.2 v)))) := Or.inr ⟨t, rfl, Or.inr (Or.inr ⟨v, hv, rfl, rfl⟩)⟩
/-- a word changed -/
theorem tr_setW (hT : TL L (some t) τ) {v : Nat} (hv : v < 200) {z : Nat → Int64} (hτ : τ' = (τ.1, τ.2.1, τ.2.2.1, fun u => if u = v then z else τ.2.2.2 u)) : ∀ q e, TW cy L (some t) a κ τ' q e → mset (TW cy L (some t) a κ τ) (τ.2.1 v) (.inl (cy 1, τ.2.2.1 v, .inr (.inl z))) q e := by
  subst hτ
  obtain ⟨g0, g1, g2, g3⟩ := hT.2 t rfl
  rintro q e (⟨f, i, hi, rfl, rfl⟩ | ⟨t2, ht2, h⟩)
  · exact Or.inr ⟨(g0 f i hi).2.2 v hv, Or.inl ⟨f, i, hi, rfl, rfl⟩⟩
  · cases ht2
    rcases h with ⟨rfl, rfl⟩ | ⟨rfl, rfl⟩ | ⟨u, hu, rfl, rfl⟩
    · exact Or.inr ⟨fun h => (g2 v hv).1 h.symm, tr_t⟩
    · exact Or.inr ⟨fun h => (g2 v hv).2 h.symm, tr_w⟩
    · by_cases huv : u = v
      · subst huv
        exact Or.inl ⟨rfl, by simp⟩
      · refine Or.inr ⟨fun h => huv (g3 u v hu hv h), ?_⟩
        simp only [huv, if_false]
        exact tr_r hu
/-- a row put in another's place -/
theorem tr_setR {D : va_G} {cl : List vw_C} {A : Nat → Prop} {H : Heap} (hT : TL L (some t) τ) {v : Nat} (hv : v < 200) {q9 n : Nat} {z : Nat → Int64} (hq : ∀ q e, TW cy L (some t) a κ τ q e → q ≠ q9) (hτ : τ' = (τ.1, (fun u => if u = v then q9 else τ.2.1 u), (fun u => if u = v then n else τ.2.2.1 u), fun u => if u = v then z else τ.2.2.2 u))
    (h : mw D cl A (mset (madd (TW cy L (some t) a κ τ) q9 (.inl (cy 1, n, .inr (.inl z)))) τ.1 (.inl (cy 9, 200, .inr (.inr (.inr (.inr (va_up (fun v => some (τ.2.1 v)) v (some q9)))))))) H) : mw D cl A (TW cy L (some t) a κ τ') H ∧ TL L (some t) τ' := by
  obtain ⟨g0, g1, g2, g3⟩ := hT.2 t rfl
  have hfn : (fun u => some ((fun u => if u = v then q9 else τ.2.1 u) u)) = va_up (fun v => some (τ.2.1 v)) v (some q9) := by
    funext u
    by_cases hu : u = v <;> simp [va_up, hu]
  subst hτ
  refine ⟨h.sub ?_, hT.1, fun t2 ht2 => ?_⟩
  · rintro q e (⟨f, i, hi, rfl, rfl⟩ | ⟨t2, ht2, h⟩)
    · exact Or.inr ⟨(g0 f i hi).2.1, Or.inl (Or.inl ⟨f, i, hi, rfl, rfl⟩)⟩
    · cases ht2
      rcases h with ⟨rfl, rfl⟩ | ⟨rfl, rfl⟩ | ⟨u, hu, rfl, rfl⟩
      · exact Or.inr ⟨g1, Or.inl tr_t⟩
      · exact Or.inl ⟨rfl, by rw [← hfn]⟩
      · by_cases huv : u = v
        · subst huv
          simp only [if_true]
          exact Or.inr ⟨fun h => hq _ _ tr_w h.symm, Or.inr ⟨rfl, rfl⟩⟩
        · simp only [huv, if_false]
          exact Or.inr ⟨(g2 u hu).2, Or.inl (tr_r hu)⟩
  · cases ht2
    refine ⟨fun f i hi => ⟨(g0 f i hi).1, (g0 f i hi).2.1, fun u hu => ?_⟩, g1, fun u hu => ?_, fun u w hu hw h => ?_⟩
    · show L f i ≠ if u = v then q9 else τ.2.1 u
      split
      · exact hq _ _ (tw_mem hi rfl)
      · exact (g0 f i hi).2.2 u hu
    · show (if u = v then q9 else τ.2.1 u) ≠ t ∧ (if u = v then q9 else τ.2.1 u) ≠ τ.1
      split
      · exact ⟨fun h => hq _ _ tr_t h.symm, fun h => hq _ _ tr_w h.symm⟩
      · exact g2 u hu
    · have h : (if u = v then q9 else τ.2.1 u) = if w = v then q9 else τ.2.1 w := h
      by_cases hu2 : u = v <;> by_cases hw2 : w = v
      · rw [hu2, hw2]
      · rw [if_pos hu2, if_neg hw2] at h
        exact absurd h.symm (hq _ _ (tr_r hw))
      · rw [if_neg hu2, if_pos hw2] at h
        exact absurd h (hq _ _ (tr_r hu))
      · rw [if_neg hu2, if_neg hw2] at h
        exact g3 u w hu hw h
end TRL
/-- a longer row with the same words -/
theorem TRg.grow {gn : Nat → Nat} {lk : Nat → Nat → Nat} {τ τ' : Tau} {v q9 n : Nat} {z : Nat → Int64} (h : TRg gn lk τ) (hτ : τ' = (τ.1, (fun u => if u = v then q9 else τ.2.1 u), (fun u => if u = v then n else τ.2.2.1 u), fun u => if u = v then z else τ.2.2.2 u)) (h1 : τ.2.2.1 v ≤ n) (h2 : n ≤ 2 * (gn v / 12) + 1) (h3 : ∀ j, j < τ.2.2.1 v → z j = τ.2.2.2 v j) (h4 : ∀ j, τ.2.2.1 v ≤ j → j < n → z j = 0) : TRg gn lk τ' := by
  subst hτ
  intro u hu
  obtain ⟨a1, a2, a3, a4⟩ := h u hu
  by_cases huv : u = v
  · subst huv
    simp only [if_true]
    refine ⟨by omega, h2, by omega, fun j hj => ?_⟩
    rcases Nat.lt_or_ge j (τ.2.2.1 u) with q | q
    · rw [h3 j q]
      exact a4 j q
    · refine ⟨0, h4 j q hj, p32_pos _, fun p hp hg => ?_⟩
      omega
  · simp only [huv, if_false]
    exact ⟨a1, a2, a3, a4⟩
/-- the next link of a vehicle written -/
theorem TRg.put {gn : Nat → Nat} {lk : Nat → Nat → Nat} {τ τ' : Tau} {v x : Nat} {W : Nat} (h : TRg gn lk τ) (hx : x < 32) (hl : gn v / 12 < τ.2.2.1 v) (hW : τ.2.2.2 v (gn v / 12) = lN W) (hW2 : W < 32 ^ (gn v % 12)) (hWd : ∀ p, p < 12 → 12 * (gn v / 12) + p < gn v → W / 32 ^ p % 32 = lk v (12 * (gn v / 12) + p))
    (hτ : τ' = (τ.1, τ.2.1, τ.2.2.1, fun u => if u = v then vp_updL (τ.2.2.2 v) (gn v / 12) (lN (W + x * 32 ^ (gn v % 12))) else τ.2.2.2 u)) : TRg (fun u => if u = v then gn v + 1 else gn u) (fun u j => if u = v ∧ j = gn v then x else lk u j) τ' := by
  subst hτ
  intro u hu
  obtain ⟨a1, a2, a3, a4⟩ := h u hu
  by_cases huv : u = v
  · subst huv
    simp only [if_true, true_and]
    refine ⟨a1, by omega, by omega, fun j hj => ?_⟩
    by_cases hj2 : j = gn u / 12
    · subst hj2
      refine ⟨W + x * 32 ^ (gn u % 12), by simp [vp_updL], ?_, fun p hp hg => ?_⟩
      · rw [show min 12 (gn u + 1 - 12 * (gn u / 12)) = gn u % 12 + 1 by omega]
        exact W_put hW2 hx
      · by_cases hpe : 12 * (gn u / 12) + p = gn u
        · rw [if_pos hpe, show p = gn u % 12 by omega]
          exact W_hi hW2 hx
        · rw [if_neg hpe, W_lo (by omega)]
          exact hWd p hp (by omega)
    · obtain ⟨W2, b1, b2, b3⟩ := a4 j hj
      refine ⟨W2, by simp [vp_updL, hj2]; exact b1, ?_, fun p hp hg => ?_⟩
      · rw [show min 12 (gn u + 1 - 12 * j) = min 12 (gn u - 12 * j) by omega]
        exact b2
      · rw [if_neg (by omega)]
        exact b3 p hp (by omega)
  · have h9 : ∀ j, (if u = v ∧ j = gn v then x else lk u j) = lk u j := fun j => if_neg (fun h => huv h.1)
    simp only [huv, if_false, h9]
    exact ⟨a1, a2, a3, a4⟩
