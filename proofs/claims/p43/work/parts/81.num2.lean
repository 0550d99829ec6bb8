/-! what each move does, place by place -/
/-- a row grows at its end -/
def Grow (f g : Nat) (a b : St) (i m : Nat) (x : Int32) : Prop := b f i 0 = nI (m + 1) ∧ (∀ j, j < m → b g i j = a g i j) ∧ b g i m = x
/-- a row loses its first -/
def Drop (f g : Nat) (a b : St) (i m : Nat) : Prop := b f i 0 = nI (m - 1) ∧ ∀ j, j + 1 < m → b g i j = a g i (j + 1)
theorem grow_app {f g : Nat} {c : Int32} {a : St} {i m : Nat} {x : Int32} {C : Nat} (hfg : f ≠ g) (hm : a f i 0 = nI m) (hc : c = nI C) (hC : C < 1000) (h : m < C) : Grow f g a (R_app f g c a i x) i m x := by
  have hn : ¬ c ≤ a f i 0 := by rw [hm, hc]; exact nI_ge h (by omega)
  unfold R_app
  rw [if_neg hn]
  refine ⟨?_, fun j hj => ?_, ?_⟩
  · rw [S2_eq, upd_eq, hm, nI_1]
  · rw [S2_nf hfg.symm, S2_eq, upd_ne (by rw [hm, nI_clamp (by omega)]; omega)]
  · rw [S2_nf hfg.symm, S2_eq, hm, nI_clamp (by omega), upd_eq]
theorem drop_drop {f g : Nat} {a : St} {i m : Nat} (hfg : f ≠ g) (hm : a f i 0 = nI m) (h0 : 0 < m) (hC : m < 1000) : Drop f g a (R_drop f g a i) i m := by
  have hn : ¬ a f i 0 ≤ 0 := by rw [hm]; exact nI_ge (a := 0) h0 (by omega)
  unfold R_drop
  rw [if_neg hn]
  refine ⟨?_, fun j hj => ?_⟩
  · rw [S2_nf hfg, S2_eq, upd_eq, hm, show (1 : Int32) = nI 1 from rfl, pk_sub h0]
  · rw [S2_eq, hm, show (1 : Int32) = nI 1 from rfl, pk_sub h0, nI_clamp (by omega)]
    unfold va_cpy
    rw [if_pos ⟨by omega, by omega⟩]
    congr 1
    omega
theorem app_ni {f g : Nat} {c : Int32} {a : St} {i k : Nat} {x : Int32} {h : Nat} (hk : k ≠ i) : R_app f g c a i x h k = a h k := by
  unfold R_app
  split
  · rfl
  · rw [S2_ni hk, S2_ni hk]
theorem app_fq {f g : Nat} {c : Int32} {a : St} {i q : Nat} {x : Int32} (hfg : f ≠ g) (hq : q ≠ 0) : R_app f g c a i x f i q = a f i q := by
  unfold R_app
  split
  · rfl
  · rw [S2_eq, upd_ne hq]
theorem drop_ni {f g : Nat} {a : St} {i k h : Nat} (hk : k ≠ i) : R_drop f g a i h k = a h k := by
  unfold R_drop
  split
  · rfl
  · rw [S2_ni hk, S2_ni hk]
/-- a vehicle v comes onto the link k at the tick t -/
def EOn (a b : St) (v k m g : Nat) : Prop := b 15 v = X_onto (a 15 v) (nI k) (a 2 k 2) (a 0 0 0) ∧ (∀ u, u ≠ v → b 15 u = a 15 u) ∧ (∀ p, b 30 v p = if p = g then nI k else a 30 v p) ∧ (∀ u, u ≠ v → b 30 u = a 30 u) ∧ Grow 3 4 a b k m (nI v) ∧ Grow 5 6 a b k m (a 0 0 0 + a 2 k 2) ∧ (∀ i, i ≠ k → b 3 i = a 3 i ∧ b 4 i = a 4 i ∧ b 5 i = a 5 i ∧ b 6 i = a 6 i ∧ b 2 i = a 2 i) ∧ b 2 k = upd (a 2 k) 9 (a 2 k 9 + 1) ∧ ∀ f, f ≠ 2 → f ≠ 3 → f ≠ 4 → f ≠ 5 → f ≠ 6 → f ≠ 15 → f ≠ 30 → b f = a f
theorem eon_onto {a : St} {v k m g : Nat} (h3 : a 3 k 0 = nI m) (h5 : a 5 k 0 = nI m) (hm : m < 30) (hg : a 15 v 7 = nI g) (hg2 : g < 100000) (hk : k < 1000) : EOn a (T_onto a v (nI v) (nI k)) v k m g := by
  have hkc : (nI k).toNatClampNeg = k := nI_clamp (by omega)
  have e1 : T_on1 a v (nI k) = S2 a 15 v (X_onto (a 15 v) (nI k) (a 2 k 2) (a 0 0 0)) := by unfold T_on1 V_onto; rw [hkc]
  generalize hX : X_onto (a 15 v) (nI k) (a 2 k 2) (a 0 0 0) = X at e1
  have hX6 : X 6 = a 0 0 0 + a 2 k 2 := by rw [← hX]; simp [X_onto, upd]
  have hX7 : X 7 = nI (g + 1) := by rw [← hX]; simp [X_onto, upd, hg, nI_1]
  unfold T_onto T_on3 T_on2 L_take L_came
  rw [e1, hkc]
  have b1 : S2 a 15 v X 15 v 6 = a 0 0 0 + a 2 k 2 := by rw [S2_eq, hX6]
  rw [b1]
  generalize hA : R_app 3 4 30 (S2 a 15 v X) k (nI v) = b
  generalize hB : R_app 5 6 30 b k (a 0 0 0 + a 2 k 2) = c
  have g3 : Grow 3 4 (S2 a 15 v X) b k m (nI v) := by rw [← hA]; exact grow_app (C := 30) (by decide) (by rw [S2_nf (by decide)]; exact h3) rfl (by omega) hm
  have ob : ∀ f i, f ≠ 3 → f ≠ 4 → b f i = S2 a 15 v X f i := fun f i h1 h2 => by rw [← hA]; funext q; exact congrFun (R_app_off h1 h2) q
  have oc : ∀ f i, f ≠ 5 → f ≠ 6 → c f i = b f i := fun f i h1 h2 => by rw [← hB]; funext q; exact congrFun (R_app_off h1 h2) q
  have g5 : Grow 5 6 b c k m (a 0 0 0 + a 2 k 2) := by rw [← hB]; exact grow_app (C := 30) (by decide) (by rw [ob 5 k (by decide) (by decide), S2_nf (by decide)]; exact h5) rfl (by omega) hm
  have c15 : ∀ u, c 15 u = S2 a 15 v X 15 u := fun u => by rw [oc 15 u (by decide) (by decide), ob 15 u (by decide) (by decide)]
  have c30 : ∀ u, c 30 u = a 30 u := fun u => by rw [oc 30 u (by decide) (by decide), ob 30 u (by decide) (by decide), S2_nf (by decide)]
  have c2 : ∀ i, c 2 i = a 2 i := fun u => by rw [oc 2 u (by decide) (by decide), ob 2 u (by decide) (by decide), S2_nf (by decide)]
  have hgone : (S2 c 2 k (upd (c 2 k) 9 (c 2 k 9 + 1)) 15 v 7).toNatClampNeg - 1 = g := by rw [S2_nf (by decide), c15, S2_eq, hX7, nI_clamp (by omega)]; omega
  rw [hgone]
  refine ⟨?_, fun u hu => ?_, fun p => ?_, fun u hu => ?_, ?_, ?_, fun i hi => ⟨?_, ?_, ?_, ?_, ?_⟩, ?_, fun f f2 f3 f4 f5 f6 f15 f30 => ?_⟩
  · rw [S2_nf (by decide), S2_nf (by decide), c15, S2_eq]
    exact hX.symm
  · rw [S2_nf (by decide), S2_nf (by decide), c15, S2_ni hu]
  · rw [S2_eq, S2_nf (by decide), c30]
    rfl
  · rw [S2_ni hu, S2_nf (by decide), c30]
  · refine ⟨?_, fun j hj => ?_, ?_⟩
    · rw [S2_nf (by decide), S2_nf (by decide), oc 3 k (by decide) (by decide)]
      exact g3.1
    · rw [S2_nf (by decide), S2_nf (by decide), oc 4 k (by decide) (by decide), g3.2.1 j hj, S2_nf (by decide)]
    · rw [S2_nf (by decide), S2_nf (by decide), oc 4 k (by decide) (by decide)]
      exact g3.2.2
  · refine ⟨?_, fun j hj => ?_, ?_⟩
    · rw [S2_nf (by decide), S2_nf (by decide)]
      exact g5.1
    · rw [S2_nf (by decide), S2_nf (by decide), g5.2.1 j hj, ob 6 k (by decide) (by decide), S2_nf (by decide)]
    · rw [S2_nf (by decide), S2_nf (by decide)]
      exact g5.2.2
  · rw [S2_nf (by decide), S2_nf (by decide), oc 3 i (by decide) (by decide), ← hA, app_ni hi, S2_nf (by decide)]
  · rw [S2_nf (by decide), S2_nf (by decide), oc 4 i (by decide) (by decide), ← hA, app_ni hi, S2_nf (by decide)]
  · rw [S2_nf (by decide), S2_nf (by decide), ← hB, app_ni hi, ob 5 i (by decide) (by decide), S2_nf (by decide)]
  · rw [S2_nf (by decide), S2_nf (by decide), ← hB, app_ni hi, ob 6 i (by decide) (by decide), S2_nf (by decide)]
  · rw [S2_nf (by decide), S2_ni hi, c2]
  · rw [S2_nf (by decide), S2_eq, c2]
  · funext i
    rw [S2_nf f30, S2_nf f2, oc f i f5 f6, ob f i f3 f4, S2_nf f15]
/-- the first of the link l leaves it -/
def EGo (a b : St) (l m : Nat) : Prop := Drop 3 4 a b l m ∧ Drop 5 6 a b l m ∧ (∀ i, i ≠ l → b 3 i = a 3 i ∧ b 4 i = a 4 i ∧ b 5 i = a 5 i ∧ b 6 i = a 6 i ∧ b 2 i = a 2 i) ∧ b 2 l = upd (a 2 l) 10 (a 2 l 10 + 1) ∧ ∀ f, f ≠ 2 → f ≠ 3 → f ≠ 4 → f ≠ 5 → f ≠ 6 → b f = a f
theorem ego_go {a : St} {l m : Nat} (h3 : a 3 l 0 = nI m) (h5 : a 5 l 0 = nI m) (h0 : 0 < m) (hm : m < 1000) : EGo a (L_go a l) l m := by
  unfold L_go L_left
  generalize hA : R_drop 3 4 a l = b
  generalize hB : R_drop 5 6 b l = c
  have ob : ∀ f i, f ≠ 3 → f ≠ 4 → b f i = a f i := fun f i h1 h2 => by rw [← hA]; funext q; exact congrFun (R_drop_off h1 h2) q
  have oc : ∀ f i, f ≠ 5 → f ≠ 6 → c f i = b f i := fun f i h1 h2 => by rw [← hB]; funext q; exact congrFun (R_drop_off h1 h2) q
  have g3 : Drop 3 4 a b l m := by rw [← hA]; exact drop_drop (by decide) h3 h0 hm
  have g5 : Drop 5 6 b c l m := by rw [← hB]; exact drop_drop (by decide) (by rw [ob 5 l (by decide) (by decide)]; exact h5) h0 hm
  refine ⟨⟨?_, fun j hj => ?_⟩, ⟨?_, fun j hj => ?_⟩, fun i hi => ⟨?_, ?_, ?_, ?_, ?_⟩, ?_, fun f f2 f3 f4 f5 f6 => ?_⟩
  · rw [S2_nf (by decide), oc 3 l (by decide) (by decide)]
    exact g3.1
  · rw [S2_nf (by decide), oc 4 l (by decide) (by decide)]
    exact g3.2 j hj
  · rw [S2_nf (by decide)]
    exact g5.1
  · rw [S2_nf (by decide), g5.2 j hj, ob 6 l (by decide) (by decide)]
  · rw [S2_nf (by decide), oc 3 i (by decide) (by decide), ← hA, drop_ni hi]
  · rw [S2_nf (by decide), oc 4 i (by decide) (by decide), ← hA, drop_ni hi]
  · rw [S2_nf (by decide), ← hB, drop_ni hi, ob 5 i (by decide) (by decide)]
  · rw [S2_nf (by decide), ← hB, drop_ni hi, ob 6 i (by decide) (by decide)]
  · rw [S2_ni hi, oc 2 i (by decide) (by decide), ob 2 i (by decide) (by decide)]
  · rw [S2_eq, oc 2 l (by decide) (by decide), ob 2 l (by decide) (by decide)]
  · funext i
    rw [S2_nf f2, oc f i f5 f6, ob f i f3 f4]
