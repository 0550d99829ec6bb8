/-! two Traffics apart; what copies do, in numbers -/
def AP (L K : Lay) (sr : Option Nat) (ν : Tau) : Prop := (∀ f i g j, i < nF f → j < nF g → L f i ≠ K g j) ∧ ∀ t, sr = some t → ∀ f i, i < nF f → L f i ≠ t ∧ L f i ≠ ν.1 ∧ ∀ v, v < 200 → L f i ≠ ν.2.1 v
theorem ap_off {cy : Nat → ClassId} {L K : Lay} {sr : Option Nat} {ν : Tau} {a : St} {μ : Kap} {f i q : Nat} {e : va_E} (hAP : AP L K sr ν) (hi : i < nF f) (h : TW cy K sr a μ ν q e) : q ≠ L f i := by
  rcases h with ⟨g, j, hj, rfl, -⟩ | ⟨t, ht, h⟩
  · exact (hAP.1 f i g j hi hj).symm
  · obtain ⟨h1, h2, h3⟩ := hAP.2 t ht f i hi
    rcases h with ⟨rfl, -⟩ | ⟨rfl, -⟩ | ⟨v, hv, rfl, -⟩
    · exact h1.symm
    · exact h2.symm
    · exact (h3 v hv).symm
theorem ap_dis {cy : Nat → ClassId} {L K : Lay} {sr : Option Nat} {τ ν : Tau} {a b : St} {κ μ : Kap} {q : Nat} {e y : va_E} (hAP : AP L K sr ν) (h : TW cy K sr a μ ν q e) : ¬ TW cy L none b κ τ q y := by
  rintro (⟨f, i, hi, rfl, -⟩ | ⟨t, ht, -⟩)
  · exact ap_off hAP hi h rfl
  · cases ht
theorem mset_l {P1 P1' P2 : mP} {a : Nat} {x : va_E} (h : ∀ q e, P1' q e → mset P1 a x q e) (hd : ∀ q e, P2 q e → q ≠ a) : ∀ q e, (P1' q e ∨ P2 q e) → mset (fun q e => P1 q e ∨ P2 q e) a x q e := by
  rintro q e (h1 | h1)
  · rcases h q e h1 with h2 | ⟨h2, h3⟩
    · exact Or.inl h2
    · exact Or.inr ⟨h2, Or.inl h3⟩
  · exact Or.inr ⟨hd q e h1, Or.inr h1⟩
def R_copy (f g : Nat) (b a : St) (i : Nat) : St := S2 (S2 b f i (upd (b f i) 0 (a f i 0))) g i (va_cpy (a g i) (b g i) 0 0 (a f i 0).toNatClampNeg)
def X_cp9 (x y : Nat → Int32) : Nat → Int32 := upd (upd (upd (upd (upd (upd (upd (upd (upd x 0 (y 0)) 1 (y 1)) 2 (y 2)) 3 (y 3)) 4 (y 4)) 5 (y 5)) 6 (y 6)) 7 (y 7)) 8 (y 8)
def L_copy (b a : St) (i : Nat) : St := R_copy 5 6 (R_copy 3 4 (S2 b 2 i (X_cp9 (b 2 i) (a 2 i))) a i) a i
def S_copy (b a : St) (n : Nat) : St := S2 (S2 (S2 (S2 b 9 n (va_cpy (a 9 n) (b 9 n) 0 0 4)) 10 n (va_cpy (a 10 n) (b 10 n) 0 0 4)) 11 n (va_cpy (a 11 n) (b 11 n) 0 0 4)) 8 n (upd (upd (upd (b 8 n) 0 (a 8 n 0)) 1 (a 8 n 1)) 2 (a 8 n 2))
def X_cpv (x y : Nat → Int32) : Nat → Int32 := upd (upd (upd (upd (upd (upd (upd (upd x 3 (y 3)) 5 (y 5)) 6 (y 6)) 7 (y 7)) 8 (y 8)) 9 (y 9)) 10 (y 10)) 11 (y 11)
def V_cop1 (c a : St) (v : Nat) : St := S2 (S2 c 15 v (X_cpv (c 15 v) (a 15 v))) 16 v (va_cpy (a 16 v) (c 16 v) 0 0 11)
def V_copy (b a : St) (v : Nat) : St := V_cop1 (V_come b v (a 15 v 0) (a 15 v 1) (a 15 v 2) (a 15 v 4)) a v
def G_copy (b a : St) : St := itN (fun i c => L_copy c a i) (nL a) (S2 b 1 0 (upd (b 1 0) 0 (a 1 0 0)))
def T_cpn (a : St) (n : Nat) (c : St) : St := R_copy 12 13 (S_copy c a n) a n
def T_cpf (a : St) (f : Nat) (c : St) : St := F_tell c f (a 14 f 0) (a 14 f 1) (a 14 f 2) (a 14 f 3) (a 14 f 4) (a 14 f 5)
def T_cpv (a : St) (v : Nat) (c : St) : St := V_copy c a v
def T_cp0 (b a : St) : St := S2 b 0 0 (upd (upd (upd (upd (upd (upd (b 0 0) 0 (a 0 0 0)) 1 (a 0 0 1)) 2 (a 0 0 2)) 3 (a 0 0 3)) 4 (a 0 0 4)) 5 (a 0 0 5))
abbrev nV (a : St) : Nat := (a 0 0 4).toNatClampNeg
def T_copy (b a : St) : St := itN (T_cpv a) (nV a) (itN (T_cpf a) (nFl a) (itN (T_cpn a) (nN a) (G_copy (T_cp0 b a) a)))
theorem R_copy_off {f g : Nat} {b a : St} {i h j : Nat} (h1 : h ≠ f) (h2 : h ≠ g) : R_copy f g b a i h j = b h j := by
  unfold R_copy
  rw [S2_nf h2, S2_nf h1]
theorem L_copy_off {b a : St} {i g j : Nat} (h2 : g ≠ 2) (h3 : g ≠ 3) (h4 : g ≠ 4) (h5 : g ≠ 5) (h6 : g ≠ 6) : L_copy b a i g j = b g j := by
  unfold L_copy
  rw [R_copy_off h5 h6, R_copy_off h3 h4, S2_nf h2]
theorem S_copy_off {b a : St} {n g j : Nat} (h8 : g ≠ 8) (h9 : g ≠ 9) (h10 : g ≠ 10) (h11 : g ≠ 11) : S_copy b a n g j = b g j := by
  unfold S_copy
  rw [S2_nf h8, S2_nf h11, S2_nf h10, S2_nf h9]
theorem V_copy_off {b a : St} {v g j : Nat} (h15 : g ≠ 15) (h16 : g ≠ 16) : V_copy b a v g j = b g j := by
  unfold V_copy V_cop1 V_come
  rw [S2_nf h16, S2_nf h15, S2_nf h15]
theorem T_cpn_0 {a c : St} {n : Nat} : T_cpn a n c 0 = c 0 := by
  funext j
  unfold T_cpn
  rw [R_copy_off (by decide) (by decide), S_copy_off (by decide) (by decide) (by decide) (by decide)]
theorem T_cpf_0 {a c : St} {f : Nat} : T_cpf a f c 0 = c 0 := by
  funext j
  unfold T_cpf F_tell
  rw [S2_nf (by decide)]
theorem T_cpv_0 {a c : St} {v : Nat} : T_cpv a v c 0 = c 0 := by
  funext j
  exact V_copy_off (by decide) (by decide)
theorem G_copy_0 {b a : St} : G_copy b a 0 = b 0 := itN_keep (P := fun c => c 0 = b 0) (by funext j; exact S2_nf (by decide)) (fun i c h => by rw [← h]; funext j; exact L_copy_off (by decide) (by decide) (by decide) (by decide) (by decide)) _
theorem T_cp0_0 {b a : St} {k : Nat} (h : k < 6) : T_cp0 b a 0 0 k = a 0 0 k := by
  unfold T_cp0
  rw [S2_eq]
  match k, h with
  | 0, _ => rfl
  | 1, _ => rfl
  | 2, _ => rfl
  | 3, _ => rfl
  | 4, _ => rfl
  | 5, _ => rfl
theorem m_nlt {x c : Int32} {n : Nat} (h : in_ x n) (hc : c.toInt = n := by rfl) : ¬ c < x := by
  rw [Int32.lt_iff_toInt_lt]
  have := h.2
  omega
theorem m_z0 {x : Int32} {n : Nat} (h : in_ x n) : (0 : Int32).toNatClampNeg + x.toNatClampNeg ≤ n := by
  have h1 := in_le h
  have h2 : (0 : Int32).toNatClampNeg = 0 := rfl
  omega
theorem m_bool {x : Int32} (h : x = 0 ∨ x = 1) : narrow .boolean (.int x) = .int x := by
  rcases h with h | h <;> rw [h] <;> rfl
theorem m_boolf {x : Int32} (h : x = 0 ∨ x = 1) : fits .boolean (.int x) = true := by
  rcases h with h | h <;> rw [h] <;> rfl
