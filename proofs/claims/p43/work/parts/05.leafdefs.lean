/-! what the leaves' methods do, in numbers -/
theorem m_cl {v : Int32} {j n : Nat} (h : v = nI j) (hj : j < n) (hn : n < 2 ^ 31) : v.toNatClampNeg = j := by
  subst h
  exact nI_clamp (by omega)
theorem m_in {v : Int32} {j n : Nat} (h : v = nI j) (hj : j < n) (hn : n < 2 ^ 31) : vp_in v n := by
  subst h
  exact vp_in_nI hj hn
theorem m_nI {v : Int32} (h : ¬ v < 0) : v = nI v.toNatClampNeg := by
  obtain ⟨j, hj, rfl⟩ := nI_of h
  rw [nI_clamp hj]
theorem m_i0 {v : Int32} : ¬ v < 0 ↔ 0 ≤ v.toInt := by
  rw [Int32.not_lt, Int32.le_iff_toInt_le]
  exact Iff.rfl
theorem m_n0 {v : Int32} (h : 0 ≤ v.toInt) : v = nI v.toNatClampNeg := m_nI (m_i0.mpr h)
theorem m_tn {v : Int32} (h : 0 ≤ v.toInt) : (v.toNatClampNeg : Int) = v.toInt := by
  show ((v.toInt.toNat : Nat) : Int) = v.toInt
  omega
theorem m_lt {v w : Int32} {n : Nat} (h0 : ¬ v < 0) (h : ¬ w ≤ v) (hw : w.toInt ≤ n) : v.toNatClampNeg < n := by
  have h1 := m_tn (m_i0.mp h0)
  have h2 : v.toInt < w.toInt := Int32.lt_iff_toInt_lt.mp (Int32.not_le.mp h)
  omega
theorem m_ltI {v : Int32} {n : Nat} (h0 : 0 ≤ v.toInt) (h : v.toInt < n) : v.toNatClampNeg < n := by
  have h1 := m_tn h0
  omega
theorem m_le0 {v : Int32} (h : ¬ v ≤ 0) : 0 < v.toInt := by
  have h1 := Int32.lt_iff_toInt_lt.mp (Int32.not_le.mp h)
  exact h1
theorem m_ge {v : Int32} {c : Int32} (h : ¬ c ≤ v) : v.toInt < c.toInt := Int32.lt_iff_toInt_lt.mp (Int32.not_le.mp h)
theorem m_pred {v : Int32} (h : ¬ v ≤ 0) : (v - 1).toInt = v.toInt - 1 := by
  have h1 := m_le0 h
  have h2 : v.toInt < 2 ^ 31 := v.toInt_lt
  rw [Int32.toInt_sub, Int.bmod_eq_of_le] <;> simp <;> omega
theorem m_pred0 {v : Int32} (h : ¬ v ≤ 0) : ¬ v - 1 < 0 := m_i0.mpr (by rw [m_pred h]; have := m_le0 h; omega)
theorem m_d1 {v : Int32} {n : Nat} (h : ¬ v ≤ 0) (hs : v.toInt ≤ n) : (1 : Int32).toNatClampNeg + (v - 1).toNatClampNeg ≤ n := by
  have h1 := m_pred h
  have h2 := m_tn (v := v - 1) (m_i0.mp (m_pred0 h))
  have h3 : (1 : Int32).toNatClampNeg = 1 := rfl
  omega
theorem m_d0 {v : Int32} {n : Nat} (h : ¬ v ≤ 0) (hs : v.toInt ≤ n) : (0 : Int32).toNatClampNeg + (v - 1).toNatClampNeg ≤ n := by
  have h1 := m_d1 h hs
  have h3 : (1 : Int32).toNatClampNeg = 1 := rfl
  have h4 : (0 : Int32).toNatClampNeg = 0 := rfl
  omega
theorem m_ne0 {v : Int32} (h : ¬ v ≤ 0) : ¬ v = 0 := fun h9 => h (by rw [h9]; exact Int32.le_refl 0)
theorem m_ge1 {v : Int32} (h : 1 ≤ v) : ¬ v = 0 := fun h9 => by
  rw [h9] at h
  exact absurd h (by decide)
section MROWS
variable {p : Program} {l : Launch} {e : Env} {R : Room} {s : State} {m : MethodId} {args : Array Value} {below : List Frame} {meth : Method} {c : Code} {H : Heap} {locs : List Loc} {cells slots : Nat} {Q : State → Prop}
variable {cc : ByteArray} {pc : Nat} {ls : Array Slot} {rest : List Value} {D : va_G} {cl : List vw_C} {A : Nat → Prop} {a : Nat} {tys : List (ClassId × FieldType)} {ws : va_W} {H0 : Heap}
/-- a row out of an array of arrays -/
theorem m_aldA (hexec : p.tables.exec = Jvm.exec) (hb : c.code = cc) (hK : va_K D cl tys s) (hP : va_P D cl ws H) (q0 t0 : Nat) {cA : ClassId} {ty : FieldType} {n : Nat} {f : Nat → Option Nat} (ha : ws[q0]? = some (a, .inl (cA, n, .inr (.inr (.inr (.inr f)))))) (ht : tys[t0]? = some (cA, .array ty)) {i : Int32} (hin : vp_in i n) (hdg : decode cc pc = .ok (.aaload, 1))
    (kk : W p l e R s m args below meth c H locs cells slots Q (F0 m (pc + 1) ls (va_rf (f i.toNatClampNeg) :: rest))) : W p l e R s m args below meth c H locs cells slots Q (F0 m pc ls (.int i :: .ref a :: rest)) := by
  have hlt : i.toNatClampNeg < n := Nat.not_le.mp fun q => hin (Or.inr q)
  exact W.aald (v := va_rf (f i.toNatClampNeg)) (ty := .array ty) hexec hb (hP q0 _ ha) ((hK.2 t0 _ ht).1 n (fun j => va_rf (f j))) rfl (fun q => by cases q) (by show ¬ (i < 0 ∨ (arrV _ _ _).slots.size ≤ _); rw [arrV_size]; exact hin) (by show (arrV _ _ _).slots[_]? = _; rw [arrV_read _ _ hlt]) rfl rfl hdg kk
end MROWS
/-- Row: get, append, dropFirst; f the family of the Row objects, g that of their arrays, c their length -/
def R_get (n : Int32) (g : Nat → Int32) (p : Int32) : Int32 := if p < 0 then -1 else if n ≤ p then -1 else g p.toNatClampNeg
def R_app (f g : Nat) (c : Int32) (a : St) (i : Nat) (v : Int32) : St := if c ≤ a f i 0 then a else S2 (S2 a g i (upd (a g i) (a f i 0).toNatClampNeg v)) f i (upd (a f i) 0 (a f i 0 + 1))
def R_drop (f g : Nat) (a : St) (i : Nat) : St := if a f i 0 ≤ 0 then a else S2 (S2 a f i (upd (a f i) 0 (a f i 0 - 1))) g i (va_cpy (a g i) (a g i) 1 0 (a f i 0 - 1).toNatClampNeg)
theorem R_app_off {f g : Nat} {c : Int32} {a : St} {i : Nat} {v : Int32} {h j : Nat} (h1 : h ≠ f) (h2 : h ≠ g) : R_app f g c a i v h j = a h j := by
  unfold R_app
  split
  · rfl
  · rw [S2_nf h1, S2_nf h2]
theorem R_drop_off {f g : Nat} {a : St} {i : Nat} {h j : Nat} (h1 : h ≠ f) (h2 : h ≠ g) : R_drop f g a i h j = a h j := by
  unfold R_drop
  split
  · rfl
  · rw [S2_nf h2, S2_nf h1]
/-- Link -/
def X_slow (x : Nat → Int32) : Nat → Int32 := if x 6 ≤ 0 then (if x 6 = 0 then upd (upd x 6 (-1)) 5 (x 4) else x) else upd x 6 (x 6 - 1)
def L_slow (a : St) (i : Nat) : St := S2 a 2 i (X_slow (a 2 i))
def L_has (a : St) (i : Nat) (t : Int32) : Int32 := if a 5 i 0 ≤ 0 then 0 else if t < R_get (a 5 i 0) (a 6 i) 0 then 0 else 1
def Q_in (g : Nat → Int32) (t : Int32) : Nat → Nat → Nat
  | 0, k => k
  | n + 1, k => if t < g k then k else Q_in g t n (k + 1)
def L_q (a : St) (i : Nat) (t : Int32) : Int32 := nI (Q_in (a 6 i) t (a 5 i 0).toNatClampNeg 0)
def L_cost (a : St) (i : Nat) (t : Int32) : Int32 := a 2 i 2 + (if a 2 i 5 ≤ 0 then 10 * L_q a i t else (L_q a i t + a 2 i 5 - 1) / a 2 i 5)
def L_open (a : St) (i : Nat) : Int32 := if a 2 i 7 = 0 then (if a 2 i 3 ≤ a 3 i 0 then 0 else 1) else 0
def L_came (b : St) (i : Nat) : St := S2 b 2 i (upd (b 2 i) 9 (b 2 i 9 + 1))
def L_take (a : St) (i : Nat) (v e : Int32) : St := L_came (R_app 5 6 30 (R_app 3 4 30 a i v) i e) i
def L_left (b : St) (i : Nat) : St := S2 b 2 i (upd (b 2 i) 10 (b 2 i 10 + 1))
def L_go (a : St) (i : Nat) : St := L_left (R_drop 5 6 (R_drop 3 4 a i) i) i
def L_turn (a : St) (i : Nat) (n : Int32) : St := if n < 0 then a else if 24 ≤ n then a else S2 a 7 i (upd (a 7 i) n.toNatClampNeg (a 7 i n.toNatClampNeg + 1))
def X_cq (x : Nat → Int32) (q : Int32) : Nat → Int32 := upd (upd x 11 (if x 11 < q then q else x 11)) 12 (x 12 + q)
def L_cq (a : St) (i : Nat) (t : Int32) : St := S2 a 2 i (X_cq (a 2 i) (L_q a i t))
/-- Signal -/
def S_on (x : Nat → Int32) : Int32 := if x 1 < 0 then 0 else if x 0 ≤ x 1 then 0 else 1
def S_links (a : St) (n : Nat) : Int32 := if S_on (a 8 n) = 0 then 0 else a 9 n (a 8 n 1).toNatClampNeg
def S_green (a : St) (n : Nat) (k : Int32) : Int32 := if a 8 n 0 = 0 then 1 else if (S_links a n >>> (k &&& 31)) &&& 1 = 1 then 1 else 0
def X_next (x : Nat → Int32) : Nat → Int32 := upd (upd x 1 (if x 0 ≤ x 1 + 1 then 0 else x 1 + 1)) 2 1
def S_next (b : St) (n : Nat) : St := S2 b 8 n (X_next (b 8 n))
def S_tick (a : St) (n : Nat) : St := S2 a 8 n (upd (a 8 n) 2 (a 8 n 2 + 1))
def S_play1 (b : St) (n : Nat) (h : Int32) : St := if S_on (b 8 n) = 0 then S_next b n else if b 11 n (b 8 n 1).toNatClampNeg < b 8 n 2 then S_next b n else if b 8 n 2 ≤ b 10 n (b 8 n 1).toNatClampNeg then b else if h = 0 then S_next b n else b
def S_play (a : St) (n : Nat) (h : Int32) : St := S_play1 (S_tick a n) n h
def S_app (a : St) (n : Nat) (x y z : Int32) : St := S2 (S2 (S2 (S2 a 9 n (upd (a 9 n) (a 8 n 0).toNatClampNeg x)) 10 n (upd (a 10 n) (a 8 n 0).toNatClampNeg y)) 11 n (upd (a 11 n) (a 8 n 0).toNatClampNeg z)) 8 n (upd (a 8 n) 0 (a 8 n 0 + 1))
theorem S_on_in {x : Nat → Int32} (h : ¬ S_on x = 0) : ¬ x 1 < 0 ∧ ¬ x 0 ≤ x 1 := by
  unfold S_on at h
  by_cases h1 : x 1 < 0
  · rw [if_pos h1] at h
    exact absurd rfl h
  · rw [if_neg h1] at h
    by_cases h2 : x 0 ≤ x 1
    · rw [if_pos h2] at h
      exact absurd rfl h
    · exact ⟨h1, h2⟩
/-- Flow -/
def F_tell (a : St) (f : Nat) (fr to k st pe mo : Int32) : St := S2 a 14 f (upd (upd (upd (upd (upd (upd (a 14 f) 0 fr) 1 to) 2 k) 3 st) 4 pe) 5 mo)
def F_brings (x : Nat → Int32) (t : Int32) : Int32 := if t < x 3 then 0 else if 1 ≤ x 4 then (if (t - x 3) - (t - x 3) / x 4 * x 4 = 0 then (if x 5 ≤ (t - x 3) / x 4 then 0 else 1) else 0) else 0
def X_trip (x : Nat → Int32) (t d : Int32) : Nat → Int32 := upd (upd (upd (upd x 7 (x 7 + 1)) 9 (x 9 + t)) 10 (x 10 + d)) 11 (if x 11 < t then t else x 11)
def F_trip (a : St) (f : Nat) (t d : Int32) : St := S2 a 14 f (X_trip (a 14 f) t d)
/-- Vehicle -/
def X_come (x : Nat → Int32) (fl to k t : Int32) : Nat → Int32 := upd (upd (upd (upd (upd (upd (upd (upd (upd (upd (upd (upd x 0 fl) 1 to) 2 k) 3 0) 4 t) 5 (-1)) 6 (-1)) 7 0) 8 0) 9 (-1)) 10 (-1)) 11 0
def V_come (a : St) (v : Nat) (fl to k t : Int32) : St := S2 a 15 v (X_come (a 15 v) fl to k t)
def V_plan (a : St) (v : Nat) (nx : Int32) : St := if 11 ≤ a 15 v 11 then a else S2 (S2 a 16 v (upd (a 16 v) (a 15 v 11).toNatClampNeg nx)) 15 v (upd (a 15 v) 11 (a 15 v 11 + 1))
def V_next (a : St) (v : Nat) : Int32 := if a 15 v 7 < 0 then -1 else if a 15 v 11 ≤ a 15 v 7 then -1 else a 16 v (a 15 v 7).toNatClampNeg
def X_onto (x : Nat → Int32) (nx tm t : Int32) : Nat → Int32 := upd (upd (upd (upd (upd x 3 1) 5 nx) 6 (t + tm)) 7 (x 7 + 1)) 8 (x 8 + tm)
def V_onto (a : St) (v : Nat) (nx tm t : Int32) : St := S2 a 15 v (X_onto (a 15 v) nx tm t)
def X_arr (x : Nat → Int32) (t : Int32) : Nat → Int32 := upd (upd (upd (upd (upd x 3 2) 5 (-1)) 6 (-1)) 9 (t - x 4)) 10 (t - x 4 - x 8)
def V_arr (a : St) (v : Nat) (t : Int32) : St := S2 a 15 v (X_arr (a 15 v) t)
