/-! ===== Int32 by its bits: bt x i ===== -/
def bt (x : Int32) (i : Nat) : Bool := x.toBitVec.getLsbD i
theorem b_ext {x y : Int32} (h : ∀ i, i < 32 → bt x i = bt y i) : x = y := Int32.toBitVec_inj.mp (BitVec.eq_of_getLsbD_eq (fun i hi => h i hi))
theorem b_or (x y : Int32) (i : Nat) : bt (x ||| y) i = (bt x i || bt y i) := by unfold bt; rw [Int32.toBitVec_or, BitVec.getLsbD_or]
theorem b_and (x y : Int32) (i : Nat) : bt (x &&& y) i = (bt x i && bt y i) := by unfold bt; rw [Int32.toBitVec_and, BitVec.getLsbD_and]
theorem b_xor (x y : Int32) (i : Nat) : bt (x ^^^ y) i = (bt x i ^^ bt y i) := by unfold bt; rw [Int32.toBitVec_xor, BitVec.getLsbD_xor]
theorem b_big {x : Int32} {i : Nat} (h : 32 ≤ i) : bt x i = false := BitVec.getLsbD_of_ge _ _ h
theorem b_255 (i : Nat) : bt 255 i = decide (i < 8) := by
  rcases Nat.lt_or_ge i 32 with h | h
  · exact (by decide +kernel : ∀ i, i < 32 → bt 255 i = decide (i < 8)) i h
  · rw [b_big h, decide_eq_false (by omega)]
theorem b_65535 (i : Nat) : bt 65535 i = decide (i < 16) := by
  rcases Nat.lt_or_ge i 32 with h | h
  · exact (by decide +kernel : ∀ i, i < 32 → bt 65535 i = decide (i < 16)) i h
  · rw [b_big h, decide_eq_false (by omega)]
theorem b_m1 : ∀ i, i < 32 → bt (-1) i = true := by decide +kernel
theorem b_0 (i : Nat) : bt 0 i = false := BitVec.getLsbD_zero
theorem s_l : ∀ n, n < 32 → ((nI n &&& 31).toBitVec.smod 32).toNat = n := by decide +kernel
theorem s_u : ∀ n, n < 32 → (((nI n).toUInt32 &&& Int32.toUInt32 31).toBitVec % 32).toNat = n := by decide +kernel
theorem b_shl (n : Nat) (hn : n < 32) (x : Int32) {i : Nat} (hi : i < 32) : bt (x <<< (nI n &&& 31)) i = (decide (n ≤ i) && bt x (i - n)) := by
  unfold bt
  rw [Int32.toBitVec_shiftLeft]
  show (x.toBitVec <<< ((nI n &&& 31).toBitVec.smod 32).toNat).getLsbD i = _
  rw [s_l n hn, BitVec.getLsbD_shiftLeft]
  rcases Nat.lt_or_ge i n with h | h
  · simp [h, Nat.not_le.mpr h]
  · simp [hi, h, Nat.not_lt.mpr h]
theorem b_ushr (n : Nat) (hn : n < 32) (x : Int32) (i : Nat) : bt ((x.toUInt32 >>> ((nI n).toUInt32 &&& Int32.toUInt32 31)).toInt32) i = bt x (n + i) := by
  show (x.toUInt32 >>> ((nI n).toUInt32 &&& Int32.toUInt32 31)).toBitVec.getLsbD i = x.toUInt32.toBitVec.getLsbD (n + i)
  rw [UInt32.toBitVec_shiftRight]
  show (x.toUInt32.toBitVec >>> (((nI n).toUInt32 &&& Int32.toUInt32 31).toBitVec % 32).toNat).getLsbD i = _
  rw [s_u n hn, BitVec.getLsbD_ushiftRight]
theorem b_sshr (n : Nat) (hn : n < 32) (x : Int32) {i : Nat} (hi : i < 32) : bt (x >>> (nI n &&& 31)) i = if n + i < 32 then bt x (n + i) else bt x 31 := by
  unfold bt
  rw [Int32.toBitVec_shiftRight]
  show (x.toBitVec.sshiftRight ((nI n &&& 31).toBitVec.smod 32).toNat).getLsbD i = _
  rw [s_l n hn, BitVec.getLsbD_sshiftRight, BitVec.msb_eq_getLsbD_last]
  simp [hi]
theorem b_1 : ∀ i, i < 32 → bt 1 i = decide (i = 0) := by decide +kernel
theorem bit_iff {x : Int32} {k : Nat} (hk : k < 32) : (x >>> (nI k &&& 31)) &&& 1 = 1 ↔ bt x k = true := by
  constructor
  · intro h
    have h1 := congrArg (fun y => bt y 0) h
    simp only [b_and, b_1 0 (by decide), b_sshr k hk x (by decide : 0 < 32)] at h1
    simpa [hk] using h1
  · intro h
    refine b_ext fun i hi => ?_
    rw [b_and, b_1 i hi, b_sshr k hk x hi]
    by_cases h0 : i = 0
    · subst h0
      simp [hk, h]
    · simp [h0]
theorem bitA_iff {x : Int32} {k : Nat} (hk : k < 32) : bitA x (nI k) ↔ bt x k = true := bit_iff hk
theorem bitA_or {x : Int32} {j t : Nat} (hj : j < 12) (ht : t < 12) (hn : t ≠ j) (h : bitA (x ||| (1 <<< (nI j &&& 31))) (nI t)) : bitA x (nI t) := by
  rw [bitA_iff (by omega)] at h ⊢
  rw [b_or, b_shl j (by omega) 1 (by omega : t < 32)] at h
  rcases Nat.lt_or_ge t j with hl | hl
  · rw [decide_eq_false (by omega), Bool.false_and, Bool.or_false] at h
    exact h
  · rw [b_1 _ (by omega), decide_eq_false (by omega : ¬ t - j = 0), Bool.and_false, Bool.or_false] at h
    exact h
/-- the rows of costs, that of the node j being z, what is reckoned being r -/
def KR (r : Int32) (κ : Kap) (j : Nat) (z : Nat → Int32) : Kap := (r, fun q => if q = j then z else κ.2 q)
theorem KR_at {r : Int32} {κ : Kap} {j : Nat} {z : Nat → Int32} : (KR r κ j z).2 j = z := by simp [KR]
theorem KR_KR {r : Int32} {κ : Kap} {j : Nat} {z y : Nat → Int32} : KR r (KR r κ j z) j y = KR r κ j y := by
  unfold KR
  congr 1
  funext q
  by_cases h : q = j <;> simp [h]
theorem KR_put {r : Int32} {κ κ' : Kap} {j k : Nat} {z : Nat → Int32} {v : Int32} (h : κ' = ((KR r κ j z).1, fun q => if q = j then upd ((KR r κ j z).2 j) k v else (KR r κ j z).2 q)) : κ' = KR r κ j (upd z k v) := by
  rw [h, KR_at]
  unfold KR
  congr 1
  funext q
  by_cases hq : q = j <;> simp [hq]
theorem KR_id {κ : Kap} {j : Nat} : KR κ.1 κ j (κ.2 j) = κ := by
  unfold KR
  refine Prod.ext rfl ?_
  funext q
  by_cases hq : q = j
  · simp [hq]
  · simp [hq]
theorem CV.put {a : St} {κ : Kap} {j : Nat} {z : Nat → Int32} (hj : j < 12) (hz : z = bf a j) (h : CV a κ) : CV a (KR (κ.1 ||| (1 <<< (nI j &&& 31))) κ j z) := fun t ht hb => by
  by_cases hq : t = j
  · subst hq
    rw [KR_at]
    exact hz
  · have h1 : (KR (κ.1 ||| (1 <<< (nI j &&& 31))) κ j z).2 t = κ.2 t := by simp [KR, hq]
    rw [h1]
    exact h t ht (bitA_or hj ht hq hb)
/-- what Arrays.fill has written so far -/
def fillN (g : Nat → Int32) (v : Int32) (k : Nat) : Nat → Int32 := fun q => if q < k then v else g q
theorem fillN_0 {g : Nat → Int32} {v : Int32} : fillN g v 0 = g := by
  funext q
  simp [fillN]
theorem fillN_s {g : Nat → Int32} {v : Int32} {k : Nat} : upd (fillN g v k) k v = fillN g v (k + 1) := by
  funext q
  unfold upd fillN
  by_cases h : q = k
  · rw [if_pos h, if_pos (by omega)]
  · rw [if_neg h]
    by_cases h2 : q < k
    · rw [if_pos h2, if_pos (by omega)]
    · rw [if_neg h2, if_neg (by omega)]
theorem B_out_done {a : St} {d : Nat} {g z : Nat → Int32} {b : Int32} (h : B_in a (nL a) (g, 0) = (z, b)) : B_out a (d + 1) g = if b = 0 then z else B_out a d z := by
  show (if (B_in a (nL a) (g, 0)).2 = 0 then (B_in a (nL a) (g, 0)).1 else B_out a d (B_in a (nL a) (g, 0)).1) = _
  rw [h]
