/-! the Turnpike object beside its Traffics; what its own methods do, in numbers -/
def oW (u n x : Nat) : mP := fun q e => q = u ∧ e = .inr (8, [.ref n, .ref x])
theorem oW_mem {u n x : Nat} : oW u n x u (.inr (8, [.ref n, .ref x])) := ⟨rfl, rfl⟩
section OWN
variable {D : va_G} {cl : List vw_C} {A : Nat → Prop} {P : mP} {H : Heap} {cy : Nat → ClassId} {L : Lay} {tr : Option Nat} {a : St} {κ : Kap} {τ : Tau} {u n x : Nat} {q : Nat} {e y : va_E}
theorem ct_ne8 {f i : Nat} {z : Nat → Int32} {l : List Value} : ct cy L tr κ f i z ≠ .inr (8, l) := by
  intro h
  unfold ct at h
  split at h <;> first | (injection h with h; injection h with h; exact absurd h (by decide)) | cases h
theorem tw_ne8 {l : List Value} (h : TW cy L tr a κ τ q (.inr (8, l))) : False := by
  rcases h with ⟨f, i, hi, -, h⟩ | ⟨t, ht, h⟩
  · exact ct_ne8 h.symm
  · rcases h with ⟨-, h⟩ | ⟨-, h⟩ | ⟨v, hv, -, h⟩
    · injection h with h
      injection h with h
      exact absurd h (by decide)
    · cases h
    · cases h
theorem ow_dis (hP : mw D cl A P H) (h1 : ∀ q e, TW cy L tr a κ τ q e → P q e) (h2 : ∀ q e, oW u n x q e → P q e) (h : oW u n x q e) (hy : TW cy L tr a κ τ q y) : False := by
  have h9 := hP.fn (h2 _ _ h) (h1 _ _ hy)
  obtain ⟨-, rfl⟩ := h
  subst h9
  exact tw_ne8 hy
theorem ow_off {f i : Nat} (hP : mw D cl A P H) (h1 : ∀ q e, TW cy L tr a κ τ q e → P q e) (h2 : ∀ q e, oW u n x q e → P q e) (hi : i < nF f) (h : oW u n x q e) : q ≠ L f i := by
  rintro rfl
  exact ow_dis hP h1 h2 h (tw_mem hi rfl)
end OWN
theorem G_lt {M : Nat} {a : St} {n : Int32} (hw : Wf M a) (hf : ¬ G_no a n) : n.toNatClampNeg < 24 := m_lt (n := 24) (fun h => hf (Or.inl h)) (fun h => hf (Or.inr h)) hw.1.1.2
theorem T_lt {M : Nat} {a : St} {n : Int32} (hw : Wf M a) (hf : ¬ T_no a n) : n.toNatClampNeg < 200 := m_lt (n := 200) (fun h => hf (Or.inl h)) (fun h => hf (Or.inr h)) hw.1.2.2.2.2
abbrev N_no (a : St) (n : Int32) : Prop := n < 0 ∨ a 0 0 2 ≤ n
abbrev F_no (a : St) (n : Int32) : Prop := n < 0 ∨ a 0 0 3 ≤ n
theorem m_nle {x y : Int32} (h : ¬ y ≤ x) : x < y := by
  rw [Int32.lt_iff_toInt_lt]
  rw [Int32.le_iff_toInt_le] at h
  omega
theorem N_lt {M : Nat} {a : St} {n : Int32} (hw : Wf M a) (hf : ¬ N_no a n) : n.toNatClampNeg < 12 := m_lt (n := 12) (fun h => hf (Or.inl h)) (fun h => hf (Or.inr h)) hw.1.2.1.2
theorem F_lt {M : Nat} {a : St} {n : Int32} (hw : Wf M a) (hf : ¬ F_no a n) : n.toNatClampNeg < 10 := m_lt (n := 10) (fun h => hf (Or.inl h)) (fun h => hf (Or.inr h)) hw.1.2.2.1.2
theorem N_in {M : Nat} {a : St} {n : Int32} (hw : Wf M a) (hf : ¬ N_no a n) : in_ n 11 := by
  have h1 := m_i0.mp (fun h => hf (Or.inl h))
  have h2 := m_ge (fun h => hf (Or.inr h))
  have h3 := hw.1.2.1.2
  exact ⟨h1, by omega⟩
/-- a link laid -/
def X_lay (y : Nat → Int32) (fr to ti ro ra : Int32) : Nat → Int32 := upd (upd (upd (upd (upd (upd (upd y 0 fr) 1 to) 2 ti) 3 ro) 4 ra) 5 ra) 8 ti
def G_lay1 (a : St) (fr to ti ro ra : Int32) : St := S2 a 2 (nL a) (X_lay (a 2 (nL a)) fr to ti ro ra)
def G_lay (a : St) (fr to ti ro ra : Int32) : St := S2 (G_lay1 a fr to ti ro ra) 1 0 (upd (a 1 0) 0 (a 1 0 0 + 1))
/-- do all links of a set lead to a node, from the link i on -/
def G_lead (a : St) (nd x : Int32) : Nat → Nat → Int32
  | 0, _ => 1
  | d + 1, i => if G_bit x i = 1 then (if a 1 0 0 ≤ nI i then 0 else if a 2 i 1 = nd then G_lead a nd x d (i + 1) else 0) else G_lead a nd x d (i + 1)
theorem nI_lt24 {y : Int32} {k : Nat} (h : in_ y 24) (hk : ¬ y ≤ nI k) (h32 : k < 32) : k < 24 := by
  rw [Int32.le_iff_toInt_le, nI_toInt (by omega)] at hk
  have := h.2
  omega
theorem nI_and31 {n : Nat} : nI n &&& 31 = nI (n % 32) := by
  have h := pk_and (nI n) (m := 31) 5 (by decide)
  rw [h]
  congr 1
  show (BitVec.ofNat 32 n).toNat % 32 = _
  rw [BitVec.toNat_ofNat, Nat.mod_mod_of_dvd]
  decide
theorem nI_ltz {y : Int32} {n j : Nat} (h : j < y.toNatClampNeg) (hy : in_ y n) : ¬ y ≤ nI j := by
  intro h9
  have h1 := hy.1
  have h2 := m_tn h1
  have h3 : y.toInt < 2 ^ 31 := Int32.toInt_lt y
  rw [Int32.le_iff_toInt_le, nI_toInt (by omega)] at h9
  omega
