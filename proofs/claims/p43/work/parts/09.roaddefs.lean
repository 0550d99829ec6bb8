/-! what the roads' methods do, in numbers; what is told of the ways; what keeps the machine from throwing -/
/-- g for 0, 1 .. below n -/
def itN (g : Nat → St → St) : Nat → St → St
  | 0, a => a
  | n + 1, a => g n (itN g n a)
theorem itN_keep {g : Nat → St → St} {P : St → Prop} {a : St} (h0 : P a) (hs : ∀ i b, P b → P (g i b)) : ∀ n, P (itN g n a)
  | 0 => h0
  | n + 1 => hs n _ (itN_keep h0 hs n)
theorem itN_keepB {g : Nat → St → St} {P : St → Prop} {a : St} {N : Nat} (h0 : P a) (hs : ∀ i b, i < N → P b → P (g i b)) : ∀ n, n ≤ N → P (itN g n a)
  | 0, _ => h0
  | n + 1, h => hs n _ (by omega) (itN_keepB h0 hs n (by omega))
abbrev in_ (x : Int32) (n : Nat) : Prop := 0 ≤ x.toInt ∧ x.toInt ≤ n
def Wlink (a : St) (i : Nat) : Prop := in_ (a 2 i 0) 11 ∧ in_ (a 2 i 1) 11 ∧ (a 2 i 4).toInt ≤ 3 ∧ (a 2 i 5).toInt ≤ 3 ∧ in_ (a 3 i 0) 30 ∧ in_ (a 5 i 0) 30
def Wveh (M : Nat) (a : St) (v : Nat) : Prop := in_ (a 15 v 11) 11 ∧ in_ (a 15 v 1) 11 ∧ in_ (a 15 v 7) M
def Wnode (a : St) (n : Nat) : Prop := in_ (a 8 n 0) 4 ∧ in_ (a 12 n 0) 200
def Wflow (a : St) (f : Nat) : Prop := in_ (a 14 f 0) 11 ∧ in_ (a 14 f 1) 11
def Wnum (a : St) : Prop := in_ (a 1 0 0) 24 ∧ in_ (a 0 0 2) 12 ∧ in_ (a 0 0 3) 10 ∧ in_ (a 0 0 4) 200
/-- all numbers that the machine wants within bounds; M: over how many links a vehicle may have gone -/
def Wf (M : Nat) (a : St) : Prop := Wnum a ∧ (∀ i, i < 24 → Wlink a i) ∧ (∀ n, n < 12 → Wnode a n) ∧ (∀ f, f < 10 → Wflow a f) ∧ ∀ v, v < 200 → Wveh M a v
theorem in_lt {x : Int32} {n : Nat} (h : in_ x n) : x.toNatClampNeg < n + 1 := m_ltI h.1 (by have := h.2; omega)
theorem in_le {x : Int32} {n : Nat} (h : in_ x n) : x.toNatClampNeg ≤ n := Nat.le_of_lt_succ (in_lt h)
theorem in_nI {x : Int32} {n : Nat} (h : in_ x n) : x = nI x.toNatClampNeg := m_n0 h.1
abbrev nL (a : St) : Nat := (a 1 0 0).toNatClampNeg
/-- the links' data that ways are reckoned of: from, to, shut, cost -/
def sameR (a b : St) : Prop := a 1 0 0 = b 1 0 0 ∧ ∀ i, i < 24 → a 2 i 0 = b 2 i 0 ∧ a 2 i 1 = b 2 i 1 ∧ a 2 i 7 = b 2 i 7 ∧ a 2 i 8 = b 2 i 8
theorem sameR.refl (a : St) : sameR a a := ⟨rfl, fun _ _ => ⟨rfl, rfl, rfl, rfl⟩⟩
theorem sameR.trans {a b c : St} (h : sameR a b) (g : sameR b c) : sameR a c := ⟨h.1.trans g.1, fun i hi => ⟨(h.2 i hi).1.trans (g.2 i hi).1, (h.2 i hi).2.1.trans (g.2 i hi).2.1, (h.2 i hi).2.2.1.trans (g.2 i hi).2.2.1, (h.2 i hi).2.2.2.trans (g.2 i hi).2.2.2⟩⟩
theorem sameR.symm {a b : St} (h : sameR a b) : sameR b a := ⟨h.1.symm, fun i hi => ⟨(h.2 i hi).1.symm, (h.2 i hi).2.1.symm, (h.2 i hi).2.2.1.symm, (h.2 i hi).2.2.2.symm⟩⟩
theorem sameR.of {a b : St} (h1 : a 1 = b 1) (h2 : a 2 = b 2) : sameR a b := ⟨by rw [h1], fun i _ => by rw [h2]; exact ⟨rfl, rfl, rfl, rfl⟩⟩
/-- a link looked at once: the row of costs, and whether it became better -/
def B_one (a : St) (i : Nat) (z : (Nat → Int32) × Int32) : (Nat → Int32) × Int32 :=
  if a 2 i 7 = 0 then
    if z.1 (a 2 i 1).toNatClampNeg = -1 then z
    else if z.1 (a 2 i 0).toNatClampNeg = -1 then (upd z.1 (a 2 i 0).toNatClampNeg (a 2 i 8 + z.1 (a 2 i 1).toNatClampNeg), 1)
    else if z.1 (a 2 i 0).toNatClampNeg ≤ a 2 i 8 + z.1 (a 2 i 1).toNatClampNeg then z
    else (upd z.1 (a 2 i 0).toNatClampNeg (a 2 i 8 + z.1 (a 2 i 1).toNatClampNeg), 1)
  else z
def B_in (a : St) : Nat → (Nat → Int32) × Int32 → (Nat → Int32) × Int32
  | 0, z => z
  | n + 1, z => B_one a n (B_in a n z)
def B_out (a : St) : Nat → (Nat → Int32) → Nat → Int32
  | 0, g => g
  | d + 1, g => if (B_in a (nL a) (g, 0)).2 = 0 then (B_in a (nL a) (g, 0)).1 else B_out a d (B_in a (nL a) (g, 0)).1
/-- the least costs to a node -/
def bf (a : St) (to : Nat) : Nat → Int32 := B_out a 12 (upd (fun _ => -1) to 0)
theorem B_one_same {a b : St} (h : sameR a b) {i : Nat} (hi : i < 24) (z : (Nat → Int32) × Int32) : B_one a i z = B_one b i z := by
  obtain ⟨h0, h1, h7, h8⟩ := h.2 i hi
  unfold B_one
  rw [h0, h1, h7, h8]
theorem B_in_same {a b : St} (h : sameR a b) : ∀ (n : Nat), n ≤ 24 → ∀ z, B_in a n z = B_in b n z
  | 0, _, _ => rfl
  | n + 1, hn, z => by
    show B_one a n (B_in a n z) = B_one b n (B_in b n z)
    rw [B_in_same h n (by omega), B_one_same h (by omega)]
theorem B_out_same {a b : St} (h : sameR a b) (hn : nL a ≤ 24) : ∀ (d : Nat) (g : Nat → Int32), B_out a d g = B_out b d g
  | 0, _ => rfl
  | d + 1, g => by
    have e : nL a = nL b := by show (a 1 0 0).toNatClampNeg = _; rw [h.1]
    show (if _ then _ else _) = if _ then _ else _
    rw [B_in_same h (nL a) hn, e, B_out_same h hn d]
theorem bf_same {a b : St} (h : sameR a b) (hn : nL a ≤ 24) (to : Nat) : bf a to = bf b to := B_out_same h hn 12 _
def bitA (x : Int32) (k : Int32) : Prop := (x >>> (k &&& 31)) &&& 1 = 1
/-- what is reckoned holds -/
def CV (a : St) (κ : Kap) : Prop := ∀ to : Nat, to < 12 → bitA κ.1 (nI to) → κ.2 to = bf a to
theorem CV.same {a b : St} {κ : Kap} (h : sameR a b) (hn : nL a ≤ 24) (hc : CV a κ) : CV b κ := fun to ht hb => by rw [← bf_same h hn]; exact hc to ht hb
theorem bit0 : ∀ to : Nat, to < 12 → ¬ bitA 0 (nI to) := by
  unfold bitA
  decide +kernel
theorem CV.none {a : St} {g : Nat → Nat → Int32} : CV a ((0 : Int32), g) := fun to ht hb => absurd hb (bit0 to ht)
/-- Roads.find -/
abbrev G_no (a : St) (n : Int32) : Prop := n < 0 ∨ a 1 0 0 ≤ n
def G_bit (x : Int32) (k : Nat) : Int32 := (x >>> (nI k &&& 31)) &&& 1
/-- is there a queue at a link of a set, from the link i on -/
def G_any (a : St) (tk x : Int32) : Nat → Nat → Int32
  | 0, _ => 0
  | d + 1, i => if G_bit x i = 1 then (if L_has a i tk = 0 then G_any a tk x d (i + 1) else 1) else G_any a tk x d (i + 1)
def L_reck (tk : Int32) (i : Nat) (b : St) : St := S2 b 2 i (upd (b 2 i) 8 (L_cost b i tk))
def G_slow (a : St) : St := itN (fun i b => L_slow b i) (nL a) a
def G_reck (a : St) (tk : Int32) : St := itN (L_reck tk) (nL a) a
def G_cq (a : St) (tk : Int32) : St := itN (fun i b => L_cq b i tk) (nL a) a
/-- the link over which a way goes first, looked for from the link i on -/
def G_scan (a : St) (g : Nat → Int32) (fr : Int32) : Nat → Nat → Int32
  | 0, _ => -1
  | d + 1, i => if a 2 i 0 = fr then (if a 2 i 7 = 0 then (if g (a 2 i 1).toNatClampNeg = -1 then G_scan a g fr d (i + 1) else if a 2 i 8 + g (a 2 i 1).toNatClampNeg = g fr.toNatClampNeg then nI i else G_scan a g fr d (i + 1)) else G_scan a g fr d (i + 1)) else G_scan a g fr d (i + 1)
def G_first (a : St) (fr to : Int32) : Int32 := if fr = to then -1 else if bf a to.toNatClampNeg fr.toNatClampNeg = -1 then -1 else G_scan a (bf a to.toNatClampNeg) fr (nL a) 0
/-- a way planned -/
def P_way (v : Nat) (to : Int32) : Nat → Int32 → St → St × Int32
  | 0, nd, b => (b, if nd = to then 1 else 0)
  | d + 1, nd, b => if nd = to then (b, 1) else if G_no b (G_first b nd to) then (b, 0) else P_way v to d ((V_plan b v (G_first b nd to)) 2 (G_first b nd to).toNatClampNeg 1) (V_plan b v (G_first b nd to))
theorem upd_id {f : Nat → Int32} {k : Nat} {x : Int32} (h : x = f k) : upd f k x = f := by
  funext j
  unfold upd
  split
  · rename_i hj
    rw [hj, h]
  · rfl
theorem L_slow_off {a : St} {i g j : Nat} (h : g ≠ 2) : L_slow a i g j = a g j := S2_nf h
theorem L_reck_off {a : St} {i g j : Nat} {tk : Int32} (h : g ≠ 2) : L_reck tk i a g j = a g j := S2_nf h
theorem L_cq_off {a : St} {i g j : Nat} {tk : Int32} (h : g ≠ 2) : L_cq a i tk g j = a g j := S2_nf h
theorem m_succ {x : Int32} {n : Nat} (h : in_ x n) (hx : x.toInt < n) (hn : n < 1000000) : (x + 1).toInt = x.toInt + 1 := by
  have h1 := h.1
  rw [Int32.toInt_add, Int.bmod_eq_of_le] <;> simp <;> omega
theorem in_succ {x : Int32} {n : Nat} (h : in_ x n) (hx : x.toInt < n) (hn : n < 1000000) : in_ (x + 1) n := by
  have h1 := h.1
  have h2 := m_succ h hx hn
  exact ⟨by omega, by omega⟩
theorem V_plan_off {a : St} {v : Nat} {n : Int32} {g j : Nat} (h1 : g ≠ 15) (h2 : g ≠ 16) : V_plan a v n g j = a g j := by
  unfold V_plan
  split
  · rfl
  · rw [S2_nf h1, S2_nf h2]
theorem upd_ne {f : Nat → Int32} {k j : Nat} {x : Int32} (h : j ≠ k) : upd f k x j = f j := by simp [upd, h]
theorem upd_eq {f : Nat → Int32} {k : Nat} {x : Int32} : upd f k x k = x := by simp [upd]
theorem V_plan_15 {a : St} {v w : Nat} {n : Int32} {k : Nat} (h : k ≠ 11) : V_plan a v n 15 w k = a 15 w k := by
  unfold V_plan
  split
  · rfl
  · by_cases hw : w = v
    · subst hw
      rw [S2_eq, upd_ne h]
    · rw [S2_ni hw, S2_nf (by decide)]
theorem V_plan_Wf {M : Nat} {a : St} {v : Nat} {n : Int32} (hv : v < 200) (h : Wf M a) : Wf M (V_plan a v n) := by
  have o := @V_plan_off a v n
  refine ⟨?_, fun i hi => ?_, fun i hi => ?_, fun i hi => ?_, fun w hw => ?_⟩
  · unfold Wnum
    rw [o (by decide) (by decide), o (by decide) (by decide)]
    exact h.1
  · unfold Wlink
    rw [o (by decide) (by decide), o (by decide) (by decide), o (by decide) (by decide)]
    exact h.2.1 i hi
  · unfold Wnode
    rw [o (by decide) (by decide), o (by decide) (by decide)]
    exact h.2.2.1 i hi
  · unfold Wflow
    rw [o (by decide) (by decide)]
    exact h.2.2.2.1 i hi
  · obtain ⟨h1, h2, h3⟩ := h.2.2.2.2 w hw
    unfold Wveh
    rw [V_plan_15 (k := 1) (by decide), V_plan_15 (k := 7) (by decide)]
    refine ⟨?_, h2, h3⟩
    unfold V_plan
    split
    · exact h1
    · rename_i hn
      by_cases hwv : w = v
      · subst hwv
        rw [S2_eq, upd_eq]
        exact in_succ h1 (m_ge hn) (by decide)
      · rw [S2_ni hwv, S2_nf (by decide)]
        exact h1
/-- an array's content told anew where it is the same -/
theorem arr_same {c : ClassId} {n : Nat} {f g : Nat → Int32} (h : ∀ j, j < n → f j = g j) : vp_cell c (n, .inl f) = vp_cell c (n, .inl g) := by
  rw [vp_cell_i, vp_cell_i]
  unfold arrV
  congr 2
  funext j
  show Value.int (f j.val) = Value.int (g j.val)
  rw [h j.val j.isLt]
/-- what stands at a place, told anew -/
theorem mw.swap {D : va_G} {cl : List vw_C} {A : Nat → Prop} {P : mP} {H : Heap} {a : Nat} {e x : va_E} (h : mw D cl A P H) (he : P a e) (hx : va_at D cl (a, e) H → va_at D cl (a, x) H) : mw D cl A (mset P a x) H := by
  obtain ⟨ws, k, h1, h2, h3, -, h5⟩ := h.cut he
  exact h5 x H (va_P.set h1 h2 h3 (hx (h.at he)) (fun _ _ => rfl)) (h2.set h3)
theorem mw.fill {D : va_G} {cl : List vw_C} {A : Nat → Prop} {P : mP} {H : Heap} {a n : Nat} {c : ClassId} {f g : Nat → Int32} (h : mw D cl A P H) (he : P a (.inl (c, n, .inl f))) (hx : ∀ j, j < n → f j = g j) : mw D cl A (mset P a (.inl (c, n, .inl g))) H := h.swap he fun h9 => by
  show H[a]? = some (vp_cell c (n, .inl g))
  rw [← arr_same hx]
  exact h9
