/-! the flows, and the whole tick -/
section FLOWS
variable {nd nl nf ck f V M : Nat} {lv fv : Tb} {a p : St}
/-- behind the coming: V is there, its way may be planned -/
def Came (a p : St) (f V : Nat) : Prop := OnlyWay (T_br2 (T_br1 a f) f) p V
theorem Came.v (h : Came a p f V) (hV : nV a = V) : (∀ u, u ≠ V → p 15 u = a 15 u) ∧ (∀ u, u ≠ V → p 16 u = a 16 u) ∧ p 15 V 0 = nI f ∧ p 15 V 2 = a 14 f 2 ∧ p 15 V 3 = 0 ∧ p 15 V 4 = a 0 0 0 ∧ p 15 V 7 = 0 ∧ p 15 V 8 = 0 ∧ p 14 f = upd (a 14 f) 6 (a 14 f 6 + 1) ∧ (∀ i, i ≠ f → p 14 i = a 14 i) ∧ ∀ F, F ≠ 14 → F ≠ 15 → F ≠ 16 → p F = a F := by
  obtain ⟨h1, h2, h3⟩ := h
  have e1 : T_br1 a f = S2 a 15 V (X_come (a 15 V) (nI f) (a 14 f 1) (a 14 f 2) (a 0 0 0)) := by
    unfold T_br1 V_come
    rw [show (a 0 0 4).toNatClampNeg = V from hV]
  unfold T_br2 at h1 h2 h3
  rw [e1] at h1 h2 h3
  have q : ∀ k, k ≠ 11 → p 15 V k = X_come (a 15 V) (nI f) (a 14 f 1) (a 14 f 2) (a 0 0 0) k := fun k hk => by rw [h2 k hk, S2_nf (by decide), S2_eq]
  refine ⟨fun u hu => ?_, fun u hu => ?_, by rw [q 0 (by decide)]; rfl, by rw [q 2 (by decide)]; rfl, by rw [q 3 (by decide)]; rfl, by rw [q 4 (by decide)]; rfl, by rw [q 7 (by decide)]; rfl, by rw [q 8 (by decide)]; rfl, ?_, fun i hi => ?_, fun F f14 f15 f16 => ?_⟩
  · rw [(h1 u hu).1, S2_nf (by decide), S2_ni hu]
  · rw [(h1 u hu).2, S2_nf (by decide), S2_nf (by decide)]
  · rw [h3 14 (by decide) (by decide), S2_eq, S2_nf (by decide)]
  · rw [h3 14 (by decide) (by decide), S2_ni hi, S2_nf (by decide)]
  · rw [h3 F f15 f16]
    funext i
    rw [S2_nf f14, S2_nf f15]
theorem come_row (hT : Tbl nd nl nf lv fv) (h : Jv nd nl nf lv fv ck f a) (hV : nV a = V) (hf : f < nf) : ∃ n m, n < nd ∧ a 14 f 0 = nI n ∧ Wtm a n m ∧ m ≤ V := by
  obtain ⟨jS, jc, jR, jW, jJ, jV, jC, jF⟩ := h
  obtain ⟨fr, st, pe, mo, k0, -, -, -, k5, -⟩ := hT.2.2.2.2.2 f hf
  obtain ⟨m, hm⟩ := jW fr k5
  refine ⟨fr, m, k5, (jS.2.2.2.2.1 f hf 0 (by decide)).trans k0, hm, ?_⟩
  have h1 := sN_ge (g := fun i => (a 12 i 0).toNatClampNeg) (k := fr) nd k5
  have h2 := cN_le (a := a) (s := 0) V
  have h3 := jC.2.2.1
  rw [hV] at h3
  have h4 : (a 12 fr 0).toNatClampNeg = m := by rw [hm.2.1, nI_clamp (by have := hm.1; omega)]
  omega
theorem come_wait (hT : Tbl nd nl nf lv fv) (h : Jv nd nl nf lv fv ck f a) (hck : ck ≤ 1000) (hf : f < nf) (hVa : nV a = V) (hV : V < 200) (hbr : cB fv f ck + 1 ≤ cB fv f (ck + 1)) (hp : Came a p f V) (hw : p 15 V 2 = 0 → Way nl lv p V) : Jv nd nl nf lv fv ck (f + 1) (T_cnt (T_under (T_wait p f))) ∧ Mono a (T_cnt (T_under (T_wait p f))) := by
  obtain ⟨n, m, hn, hn0, hm, hmV⟩ := come_row hT h hVa hf
  obtain ⟨o15, o16, v0, v2, v3, v4, v7, v8, g14, o14, oF⟩ := hp.v hVa
  have hc := h.2.1
  have h4 := h.V4
  have hnd := hT.2.2.1
  rw [hVa] at h4
  have p0 : p 0 = a 0 := oF 0 (by decide) (by decide) (by decide)
  have p12 : p 12 = a 12 := oF 12 (by decide) (by decide) (by decide)
  have p13 : p 13 = a 13 := oF 13 (by decide) (by decide) (by decide)
  have hfrom : (p 14 f 0).toNatClampNeg = n := by rw [g14, upd_ne (by decide), hn0, nI_clamp (by omega)]
  have hp4 : p 0 0 4 = nI V := by rw [p0]; exact h4
  unfold T_wait
  rw [hfrom, hp4]
  have hg : Grow 12 13 p (R_app 12 13 200 p n (nI V)) n m (nI V) := grow_app (C := 200) (by decide) (by rw [p12]; exact hm.2.1) rfl (by decide) (by omega)
  generalize hr : R_app 12 13 200 p n (nI V) = r at hg ⊢
  have orF : ∀ F, F ≠ 12 → F ≠ 13 → r F = p F := fun F f1 f2 => by rw [← hr]; funext i; exact R_app_off f1 f2
  have oro : ∀ i, i ≠ n → r 12 i = p 12 i ∧ r 13 i = p 13 i := fun i hi => by rw [← hr, app_ni hi, app_ni hi]; exact ⟨rfl, rfl⟩
  unfold T_under T_cnt
  have r0 : r 0 = a 0 := (orF 0 (by decide) (by decide)).trans p0
  have e0 : ∀ k, S2 (S2 r 0 0 (upd (r 0 0) 5 (r 0 0 5 + 1))) 0 0 (upd (S2 r 0 0 (upd (r 0 0) 5 (r 0 0 5 + 1)) 0 0) 4 (S2 r 0 0 (upd (r 0 0) 5 (r 0 0 5 + 1)) 0 0 4 + 1)) 0 0 k = upd (upd (a 0 0) 5 (a 0 0 5 + 1)) 4 (a 0 0 4 + 1) k := fun k => by
    rw [S2_eq, S2_eq, r0, upd_ne (show 4 ≠ 5 by decide)]
  have eF : ∀ F, F ≠ 0 → S2 (S2 r 0 0 (upd (r 0 0) 5 (r 0 0 5 + 1))) 0 0 (upd (S2 r 0 0 (upd (r 0 0) 5 (r 0 0 5 + 1)) 0 0) 4 (S2 r 0 0 (upd (r 0 0) 5 (r 0 0 5 + 1)) 0 0 4 + 1)) F = r F := fun F hF => by
    funext i
    rw [S2_nf hF, S2_nf hF]
  generalize S2 (S2 r 0 0 (upd (r 0 0) 5 (r 0 0 5 + 1))) 0 0 (upd (S2 r 0 0 (upd (r 0 0) 5 (r 0 0 5 + 1)) 0 0) 4 (S2 r 0 0 (upd (r 0 0) 5 (r 0 0 5 + 1)) 0 0 4 + 1)) = b at e0 eF ⊢
  have b15 : b 15 = p 15 := (eF 15 (by decide)).trans (orF 15 (by decide) (by decide))
  have b16 : b 16 = p 16 := (eF 16 (by decide)).trans (orF 16 (by decide) (by decide))
  have b14 : b 14 = p 14 := (eF 14 (by decide)).trans (orF 14 (by decide) (by decide))
  have b12 := eF 12 (by decide)
  have b13 := eF 13 (by decide)
  refine come_end hT h hck hf hVa hV hbr (s := 0) (n := n) (m := m) (Or.inl rfl) hn hm (fun u hu => by rw [b15]; exact o15 u hu) (fun u hu => by rw [b16]; exact o16 u hu) ?_ (by rw [b15]; exact v0) (by rw [b15]; exact v3) (by rw [b15, v4]; exact hc) (by rw [b15]; exact v7) (by rw [b15]; exact v8) ?_ (fun _ => ⟨⟨by rw [b12]; exact hg.1, fun j hj => by rw [b13, hg.2.1 j hj, p13], by rw [b13]; exact hg.2.2⟩, fun i hi => by rw [b12, b13, (oro i hi).1, (oro i hi).2, p12, p13]; exact ⟨rfl, rfl⟩⟩) (fun h9 => absurd h9 (by decide)) ?_ ?_ ?_ ?_ ?_ ?_ ?_ ?_ (fun i hi => by rw [b14]; exact o14 i hi) ?_
  · rw [eF 30 (by decide), orF 30 (by decide) (by decide), oF 30 (by decide) (by decide) (by decide)]
  · intro hz
    rw [b15] at hz
    obtain ⟨w, w1, w2, w3, w4⟩ := hw hz
    exact ⟨w, by rw [b15]; exact w1, w2, by rw [b16]; exact w3, by rw [b16]; exact w4⟩
  · rw [e0, upd_ne (by decide), upd_ne (by decide)]
  · rw [e0, upd_ne (by decide), upd_ne (by decide)]
  · rw [e0, upd_ne (by decide), upd_ne (by decide)]
  · rw [e0, upd_eq, h4, nI_1]
  · rw [e0, upd_ne (by decide), upd_eq, if_pos rfl]
  · rw [b14, g14, upd_eq]
  · rw [b14, g14, upd_ne (by decide), if_neg (by decide)]
  · intro q q6 q8
    rw [b14, g14, upd_ne q6]
  · rintro F (rfl | rfl | rfl | rfl | rfl | rfl) <;> rw [eF _ (by decide), orF _ (by decide) (by decide), oF _ (by decide) (by decide) (by decide)]
theorem come_given (hT : Tbl nd nl nf lv fv) (h : Jv nd nl nf lv fv ck f a) (hck : ck ≤ 1000) (hf : f < nf) (hVa : nV a = V) (hV : V < 200) (hbr : cB fv f ck + 1 ≤ cB fv f (ck + 1)) (hp : Came a p f V) (hw : p 15 V 2 = 0 → Way nl lv p V) : Jv nd nl nf lv fv ck (f + 1) (T_cnt (T_given p V f)) ∧ Mono a (T_cnt (T_given p V f)) := by
  obtain ⟨n, m, hn, hn0, hm, hmV⟩ := come_row hT h hVa hf
  obtain ⟨o15, o16, v0, v2, v3, v4, v7, v8, g14, o14, oF⟩ := hp.v hVa
  have hc := h.2.1
  have h4 := h.V4
  rw [hVa] at h4
  have p0 : p 0 = a 0 := oF 0 (by decide) (by decide) (by decide)
  unfold T_given T_cnt
  generalize hr : S2 (S2 p 15 V (upd (p 15 V) 3 3)) 14 f (upd (p 14 f) 8 (p 14 f 8 + 1)) = r
  have r0 : r 0 = a 0 := by rw [← hr]; funext i; rw [S2_nf (by decide), S2_nf (by decide), p0]
  have rV : r 15 V = upd (p 15 V) 3 3 := by rw [← hr, S2_nf (by decide), S2_eq]
  have ro : ∀ u, u ≠ V → r 15 u = p 15 u := fun u hu => by rw [← hr, S2_nf (by decide), S2_ni hu]
  have rf : r 14 f = upd (upd (a 14 f) 6 (a 14 f 6 + 1)) 8 (a 14 f 8 + 1) := by rw [← hr, S2_eq, g14, upd_ne (show 8 ≠ 6 by decide)]
  have rfo : ∀ i, i ≠ f → r 14 i = a 14 i := fun i hi => by rw [← hr, S2_ni hi, S2_nf (by decide), o14 i hi]
  have rF : ∀ F, F ≠ 14 → F ≠ 15 → r F = p F := fun F f1 f2 => by rw [← hr]; funext i; rw [S2_nf f1, S2_nf f2]
  have e0 : ∀ k, S2 r 0 0 (upd (r 0 0) 4 (r 0 0 4 + 1)) 0 0 k = upd (a 0 0) 4 (a 0 0 4 + 1) k := fun k => by rw [S2_eq, r0]
  have eF : ∀ F, F ≠ 0 → S2 r 0 0 (upd (r 0 0) 4 (r 0 0 4 + 1)) F = r F := fun F hF => by funext i; rw [S2_nf hF]
  generalize S2 r 0 0 (upd (r 0 0) 4 (r 0 0 4 + 1)) = b at e0 eF ⊢
  have b15 := eF 15 (by decide)
  have b16 : b 16 = p 16 := (eF 16 (by decide)).trans (rF 16 (by decide) (by decide))
  have b14 := eF 14 (by decide)
  refine come_end hT h hck hf hVa hV hbr (s := 3) (n := n) (m := m) (Or.inr rfl) hn hm (fun u hu => by rw [b15, ro u hu]; exact o15 u hu) (fun u hu => by rw [b16]; exact o16 u hu) ?_ (by rw [b15, rV, upd_ne (by decide)]; exact v0) (by rw [b15, rV, upd_eq]; rfl) (by rw [b15, rV, upd_ne (by decide), v4]; exact hc) (by rw [b15, rV, upd_ne (by decide)]; exact v7) (by rw [b15, rV, upd_ne (by decide)]; exact v8) ?_ (fun h9 => absurd h9 (by decide)) (fun _ => ⟨?_, ?_⟩) ?_ ?_ ?_ ?_ ?_ ?_ ?_ ?_ (fun i hi => by rw [b14]; exact rfo i hi) ?_
  · rw [eF 30 (by decide), rF 30 (by decide) (by decide), oF 30 (by decide) (by decide) (by decide)]
  · intro hz
    rw [b15, rV, upd_ne (by decide)] at hz
    obtain ⟨w, w1, w2, w3, w4⟩ := hw hz
    exact ⟨w, by rw [b15, rV, upd_ne (by decide)]; exact w1, w2, by rw [b16]; exact w3, by rw [b16]; exact w4⟩
  · rw [eF 12 (by decide), rF 12 (by decide) (by decide), oF 12 (by decide) (by decide) (by decide)]
  · rw [eF 13 (by decide), rF 13 (by decide) (by decide), oF 13 (by decide) (by decide) (by decide)]
  · rw [e0, upd_ne (by decide)]
  · rw [e0, upd_ne (by decide)]
  · rw [e0, upd_ne (by decide)]
  · rw [e0, upd_eq, h4, nI_1]
  · rw [e0, upd_ne (by decide), if_neg (by decide)]
  · rw [b14, rf, upd_ne (by decide), upd_eq]
  · rw [b14, rf, upd_eq, if_pos rfl]
  · intro q q6 q8
    rw [b14, rf, upd_ne q8, upd_ne q6]
  · rintro F (rfl | rfl | rfl | rfl | rfl | rfl) <;> rw [eF _ (by decide), rF _ (by decide) (by decide), oF _ (by decide) (by decide) (by decide)]
theorem Jv_bring (hT : Tbl nd nl nf lv fv) (h : Jv nd nl nf lv fv ck f a) (hck : ck ≤ 1000) (hf : f < nf) (hV : nV a < 200) (hbr : cB fv f ck + 1 ≤ cB fv f (ck + 1)) : Jv nd nl nf lv fv ck (f + 1) (T_bring a f) ∧ Mono a (T_bring a f) := by
  have hnl := hT.2.1
  unfold T_bring
  rw [show (a 0 0 4).toNatClampNeg = nV a from rfl]
  have hc0 : Came a (T_br2 (T_br1 a f) f) f (nV a) := OnlyWay.refl _ _
  obtain ⟨o15, o16, v0, v2, v3, v4, v7, v8, g14, o14, oF⟩ := hc0.v rfl
  generalize hq : T_br2 (T_br1 a f) f = q at hc0 v2 g14 o14 oF o15 o16 v0 v3 v4 v7 v8 ⊢
  have hq14 : q 14 f 2 = a 14 f 2 := by rw [g14, upd_ne (by decide)]
  unfold T_br3
  by_cases hk : q 14 f 2 = 0
  · rw [if_pos hk]
    have h11 : q 15 (nV a) 11 = 0 := by
      rw [← hq]
      unfold T_br2 T_br1 V_come
      rw [S2_nf (by decide), show (a 0 0 4).toNatClampNeg = nV a from rfl, S2_eq]
      rfl
    obtain ⟨w1, w2⟩ := way_plan (v := nV a) (to := q 15 (nV a) 1) hnl 12 (q 14 f 0) q (by rw [oF 1 (by decide) (by decide) (by decide)]; exact h.1.1) (by rw [oF 2 (by decide) (by decide) (by decide)]; exact h.1.2.2.2.1) ⟨0, h11, by omega, fun j hj => by omega, fun j hj => by omega, fun h9 => by omega⟩
    have hp : Came a (P_way (nV a) (q 15 (nV a) 1) 12 (q 14 f 0) q).1 f (nV a) := by
      unfold Came
      rw [hq]
      exact w2
    split
    · exact come_given hT h hck hf rfl hV hbr hp (fun _ => w1)
    · exact come_wait hT h hck hf rfl hV hbr hp (fun _ => w1)
  · rw [if_neg hk]
    exact come_wait hT h hck hf rfl hV hbr hc0 (fun h9 => absurd (hq14.trans (v2.symm.trans h9)) hk)
end FLOWS
