/-! the numbers: what holds between the ticks, and within one -/
def Tbl (nd nl nf : Nat) (lv fv : Tb) : Prop := 1 ≤ nl ∧ nl ≤ 24 ∧ nd ≤ 12 ∧ nf ≤ 10 ∧ (∀ k, k < nl → ∃ fr to ti ro : Nat, lv k 0 = nI fr ∧ lv k 1 = nI to ∧ lv k 2 = nI ti ∧ lv k 3 = nI ro ∧ fr < nd ∧ to < nd ∧ fr ≠ to ∧ 1 ≤ ti ∧ ti ≤ 20 ∧ 1 ≤ ro ∧ ro ≤ 30) ∧ (∀ f, f < nf → ∃ fr st pe mo : Nat, fv f 0 = nI fr ∧ fv f 3 = nI st ∧ fv f 4 = nI pe ∧ fv f 5 = nI mo ∧ fr < nd ∧ st ≤ 500 ∧ 1 ≤ pe ∧ pe ≤ 30 ∧ 1 ≤ mo ∧ mo ≤ 40)
/-- what a tick never changes -/
def Stt (nd nl nf : Nat) (lv fv : Tb) (a : St) : Prop := a 1 0 0 = nI nl ∧ a 0 0 2 = nI nd ∧ a 0 0 3 = nI nf ∧ (∀ k, k < nl → ∀ q, q < 4 → a 2 k q = lv k q) ∧ (∀ f, f < nf → ∀ q, q < 6 → a 14 f q = fv f q) ∧ ∀ i, i < 24 → a 2 i 7 = 0 ∨ a 2 i 7 = 1
/-- a link's rows -/
def Rwm (lv : Tb) (ck : Nat) (a : St) (k m : Nat) : Prop := ∃ ti ro : Nat, lv k 2 = nI ti ∧ lv k 3 = nI ro ∧ ti ≤ 20 ∧ ro ≤ 30 ∧ a 3 k 0 = nI m ∧ a 5 k 0 = nI m ∧ m ≤ ro ∧ (∀ j, j < m → ∃ v e : Nat, v < nV a ∧ a 4 k j = nI v ∧ a 6 k j = nI e ∧ a 15 v 3 = 1 ∧ a 15 v 5 = nI k ∧ a 15 v 6 = nI e ∧ e ≤ ck + ti) ∧ (∀ i j, i < m → j < m → a 4 k i = a 4 k j → i = j) ∧ (∀ j, j + 1 < m → a 6 k j ≤ a 6 k (j + 1)) ∧ a 2 k 9 - a 2 k 10 = nI m ∧ lv k 2 ≤ a 2 k 8
def Rw1 (lv : Tb) (ck : Nat) (a : St) (k : Nat) : Prop := ∃ m, Rwm lv ck a k m
/-- a node's row of those that wait -/
def Wtm (a : St) (n m : Nat) : Prop := m ≤ 200 ∧ a 12 n 0 = nI m ∧ ∀ j, j < m → ∃ v : Nat, v < nV a ∧ a 13 n j = nI v ∧ a 15 v 3 = 0
def Wt1 (a : St) (n : Nat) : Prop := ∃ m, Wtm a n m
def WtJ (nd : Nat) (a : St) : Prop := ∀ n n', n < nd → n' < nd → ∀ j j', j < (a 12 n 0).toNatClampNeg → j' < (a 12 n' 0).toNatClampNeg → a 13 n j = a 13 n' j' → n = n' ∧ j = j'
def Veh (nl nf : Nat) (lv : Tb) (ck : Nat) (a : St) (v : Nat) : Prop := ∃ s f st g dr : Nat, a 15 v 3 = nI s ∧ s < 4 ∧ a 15 v 0 = nI f ∧ f < nf ∧ a 15 v 4 = nI st ∧ st ≤ ck ∧ a 15 v 7 = nI g ∧ a 15 v 8 = nI dr ∧ g ≤ dr ∧ dr ≤ ck + 20 ∧
  (∀ p, p < g → ∃ k, k < nl ∧ a 30 v p = nI k) ∧ (∀ p, p + 1 < g → lv (a 30 v (p + 1)).toNatClampNeg 0 = lv (a 30 v p).toNatClampNeg 1) ∧ lstE lv a v g = nI dr ∧
  (s = 0 → g = 0) ∧ (s = 1 → 1 ≤ g ∧ a 15 v 5 = a 30 v (g - 1) ∧ ∃ e : Nat, a 15 v 6 = nI e ∧ st + dr ≤ e ∧ e ≤ ck + 20) ∧ (s = 2 → ∃ tp : Nat, a 15 v 9 = nI tp ∧ dr ≤ tp ∧ tp ≤ ck ∧ a 15 v 10 = nI (tp - dr)) ∧
  (a 15 v 2 = 0 → ∃ w : Nat, a 15 v 11 = nI w ∧ w ≤ 11 ∧ (∀ j, j < w → ∃ k, k < nl ∧ a 16 v j = nI k) ∧ (∀ j, j + 1 < w → lv (a 16 v (j + 1)).toNatClampNeg 0 = lv (a 16 v j).toNatClampNeg 1) ∧ (1 ≤ g → g - 1 < w ∧ a 16 v (g - 1) = a 30 v (g - 1)))
def cN (a : St) (s : Nat) : Nat → Nat
  | 0 => 0
  | n + 1 => cN a s n + (if a 15 n 3 = nI s then 1 else 0)
def sN (g : Nat → Nat) : Nat → Nat
  | 0 => 0
  | n + 1 => sN g n + g n
def Cnt (nd nl nf : Nat) (a : St) : Prop := a 0 0 4 = nI (nV a) ∧ nV a ≤ 200 ∧ sN (fun n => (a 12 n 0).toNatClampNeg) nd = cN a 0 (nV a) ∧ sN (fun k => (a 3 k 0).toNatClampNeg) nl = cN a 1 (nV a) ∧ a 0 0 5 = nI (cN a 0 (nV a) + cN a 1 (nV a)) ∧ sN (fun f => (a 14 f 6).toNatClampNeg) nf = nV a ∧ sN (fun f => (a 14 f 7).toNatClampNeg) nf = cN a 2 (nV a) ∧ sN (fun f => (a 14 f 8).toNatClampNeg) nf = cN a 3 (nV a)
/-- how many vehicles a flow may have brought before the tick t -/
def cB (fv : Tb) (f t : Nat) : Nat := if t ≤ (fv f 3).toNatClampNeg then 0 else min (fv f 5).toNatClampNeg ((t - (fv f 3).toNatClampNeg - 1) / (fv f 4).toNatClampNeg + 1)
def Flw (fv : Tb) (t : Nat) (a : St) (f : Nat) : Prop := ∃ cm ar gu x d : Nat, a 14 f 6 = nI cm ∧ a 14 f 7 = nI ar ∧ a 14 f 8 = nI gu ∧ a 14 f 9 = nI x ∧ a 14 f 10 = nI d ∧ cm ≤ cB fv f t ∧ ar ≤ 200 ∧ gu ≤ 200 ∧ d ≤ x ∧ x ≤ 1000 * ar ∧ (ar = 0 → a 14 f 11 = 0)
/-- all of it, in the tick ck, the first z flows being through -/
def Jv (nd nl nf : Nat) (lv fv : Tb) (ck z : Nat) (a : St) : Prop := Stt nd nl nf lv fv a ∧ a 0 0 0 = nI ck ∧ (∀ k, k < nl → Rw1 lv ck a k) ∧ (∀ n, n < nd → Wt1 a n) ∧ WtJ nd a ∧ (∀ v, v < nV a → Veh nl nf lv ck a v) ∧ Cnt nd nl nf a ∧ ∀ f, f < nf → Flw fv (if f < z then ck + 1 else ck) a f
section SUMS
theorem sN_congr {g h : Nat → Nat} : ∀ n, (∀ i, i < n → g i = h i) → sN g n = sN h n
  | 0, _ => rfl
  | n + 1, e => by
    show sN g n + g n = sN h n + h n
    rw [sN_congr n (fun i hi => e i (by omega)), e n (by omega)]
theorem sN_inc {g h : Nat → Nat} {k : Nat} : ∀ n, k < n → (∀ i, i < n → i ≠ k → h i = g i) → sN h n + g k = sN g n + h k
  | 0, hk, _ => absurd hk (by omega)
  | n + 1, hk, e => by
    show sN h n + h n + g k = sN g n + g n + h k
    by_cases hkn : k = n
    · subst hkn
      rw [sN_congr k (fun i hi => e i (by omega) (by omega))]
      omega
    · have h1 := sN_inc n (by omega) (fun i hi => e i (by omega))
      have h2 := e n (by omega) (fun h => hkn h.symm)
      omega
theorem sN_ge {g : Nat → Nat} {k : Nat} : ∀ n, k < n → g k ≤ sN g n
  | 0, hk => absurd hk (by omega)
  | n + 1, hk => by
    show g k ≤ sN g n + g n
    by_cases hkn : k = n
    · subst hkn
      omega
    · have := sN_ge (g := g) (k := k) n (by omega)
      omega
theorem cN_congr {a b : St} {s : Nat} : ∀ n, (∀ v, v < n → b 15 v 3 = a 15 v 3) → cN b s n = cN a s n
  | 0, _ => rfl
  | n + 1, e => by
    show cN b s n + _ = cN a s n + _
    rw [cN_congr n (fun v hv => e v (by omega)), e n (by omega)]
theorem cN_le {a : St} {s : Nat} : ∀ n, cN a s n ≤ n
  | 0 => Nat.le_refl _
  | n + 1 => by
    show cN a s n + _ ≤ n + 1
    have := cN_le (a := a) (s := s) n
    split <;> omega
/-- one vehicle's state changed -/
theorem cN_one {a b : St} {v s : Nat} : ∀ n, v < n → (∀ u, u < n → u ≠ v → b 15 u 3 = a 15 u 3) → cN b s n + (if a 15 v 3 = nI s then 1 else 0) = cN a s n + (if b 15 v 3 = nI s then 1 else 0)
  | 0, hv, _ => absurd hv (by omega)
  | n + 1, hv, e => by
    show cN b s n + (if b 15 n 3 = nI s then 1 else 0) + _ = cN a s n + (if a 15 n 3 = nI s then 1 else 0) + _
    by_cases hvn : v = n
    · subst hvn
      rw [cN_congr v (fun u hu => e u (by omega) (by omega))]
      omega
    · have h1 := cN_one (s := s) n (by omega) (fun u hu => e u (by omega))
      rw [e n (by omega) (fun h => hvn h.symm)]
      omega
/-- the four states are all -/
theorem cN_two {a : St} {s t : Nat} (hst : s ≠ t) (hs : s < 4) (ht : t < 4) : ∀ n, cN a s n + cN a t n ≤ n
  | 0 => Nat.le_refl _
  | n + 1 => by
    show cN a s n + (if a 15 n 3 = nI s then 1 else 0) + (cN a t n + (if a 15 n 3 = nI t then 1 else 0)) ≤ n + 1
    have h1 := cN_two (a := a) hst hs ht n
    by_cases h2 : a 15 n 3 = nI s
    · rw [if_pos h2, if_neg (fun h3 => hst ((nI_eq (by omega) (by omega)).mp (h2.symm.trans h3)))]
      omega
    · rw [if_neg h2]
      split <;> omega
theorem cN_pos {a : St} {s v : Nat} : ∀ n, v < n → a 15 v 3 = nI s → 1 ≤ cN a s n
  | 0, hv, _ => absurd hv (by omega)
  | n + 1, hv, h => by
    show 1 ≤ cN a s n + (if a 15 n 3 = nI s then 1 else 0)
    by_cases hvn : v = n
    · subst hvn
      rw [if_pos h]
      omega
    · have := cN_pos n (by omega) h
      omega
end SUMS
