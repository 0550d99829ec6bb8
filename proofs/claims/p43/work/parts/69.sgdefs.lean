/-! what stands between the law's steps -/
def SG (Inv : IPr) (nd nl nf : Nat) (lv fv : Tb) (ck M : Nat) (K : Lay) (s0 : Nat) (a : St) (κ : Kap) (τ : Tau) : Prop := TL K (some s0) τ ∧ Wf M a ∧ CV a κ ∧ TRab (some s0) a τ ∧ Inv nd nl nf lv fv ck a
theorem U_shut_Wf {M k : Nat} {a : St} {bo : Int32} (hk : k < 24) (h : Wf M a) : Wf M (U_shut a k bo) := by
  unfold U_shut
  split
  · exact h
  · have h1 := h.2.1 k hk
    refine Wz2 h ?_
    simp only [upd]
    exact ⟨h1.1, h1.2.1, h1.2.2.1, h1.2.2.2.1⟩
theorem U_slow_Wf {M k : Nat} {a : St} {ra tk : Int32} (hk : k < 24) (hr : ra.toInt ≤ 3) (h : Wf M a) : Wf M (U_slow a k ra tk) := by
  have h1 := h.2.1 k hk
  unfold U_slow
  refine Wz2 h ?_
  simp only [upd]
  exact ⟨h1.1, h1.2.1, h1.2.2.1, hr⟩
theorem U_refresh_Wf {M : Nat} {a : St} {n : Int32} (h : Wf M a) : Wf M (U_refresh a n) := by
  unfold U_refresh
  refine Wz0 h ?_
  simp only [upd]
  exact h.1.2
theorem U_slow_R {k : Nat} {a : St} {ra tk : Int32} : sameR a (U_slow a k ra tk) := by
  unfold U_slow
  refine ⟨by rw [S2_nf (by decide)], fun i _ => ?_⟩
  by_cases h : i = k
  · subst h
    rw [S2_eq]
    simp only [upd]
    exact ⟨rfl, rfl, rfl, rfl⟩
  · rw [S2_ni h]
    exact ⟨rfl, rfl, rfl, rfl⟩
theorem U_refresh_R {a : St} {n : Int32} : sameR a (U_refresh a n) := by
  unfold U_refresh
  exact sameR.of (by funext j; rw [S2_nf (by decide)]) (by funext j; rw [S2_nf (by decide)])
section SGS
variable {Inv : IPr} {nd nl nf : Nat} {lv fv : Tb} {ck M : Nat} {K : Lay} {s0 : Nat} {a : St} {κ κ2 : Kap} {τ : Tau}
theorem SG.shut (hN : NumFace Inv) (h : SG Inv nd nl nf lv fv ck M K s0 a κ τ) {k : Nat} {bo : Int32} (hk : k < nl) (hn : nl ≤ 24) (hb : bo = 0 ∨ bo = 1) (hc : CV (U_shut a k bo) κ2) : SG Inv nd nl nf lv fv ck M K s0 (U_shut a k bo) κ2 τ := by
  obtain ⟨h1, h2, h3, h4, h5⟩ := h
  refine ⟨h1, U_shut_Wf (by omega) h2, hc, TRab.same ?_ h4, (hN.2 _ _ _ _ _ _ _ h5).1 k bo hk hb⟩
  unfold U_shut
  split
  · exact sameT.refl a
  · exact sameT.off (by decide) (by decide) (by decide)
theorem SG.slow (hN : NumFace Inv) (h : SG Inv nd nl nf lv fv ck M K s0 a κ τ) {k ra tk : Nat} (hk : k < nl) (hn : nl ≤ 24) (hr : ra ≤ 3) (ht : 1 ≤ tk) (ht2 : tk ≤ 200) : SG Inv nd nl nf lv fv ck M K s0 (U_slow a k (nI ra) (nI tk)) κ τ := by
  obtain ⟨h1, h2, h3, h4, h5⟩ := h
  exact ⟨h1, U_slow_Wf (by omega) (in_nI0 (k := 3) hr (by decide)).2 h2, CV.same U_slow_R (in_le h2.1.1) h3, TRab.same (sameT.off (by decide) (by decide) (by decide)) h4, (hN.2 _ _ _ _ _ _ _ h5).2.1 k ra tk hk hr ht ht2⟩
theorem SG.refresh (hN : NumFace Inv) (h : SG Inv nd nl nf lv fv ck M K s0 a κ τ) {n : Nat} (h1n : 1 ≤ n) (hn : n ≤ 30) : SG Inv nd nl nf lv fv ck M K s0 (U_refresh a (nI n)) κ τ := by
  obtain ⟨h1, h2, h3, h4, h5⟩ := h
  refine ⟨h1, U_refresh_Wf h2, CV.same U_refresh_R (in_le h2.1.1) h3, TRab.same (sameT.z0 ?_) h4, (hN.2 _ _ _ _ _ _ _ h5).2.2.1 n h1n hn⟩
  rw [upd_ne (by decide)]
theorem SG.chk (hN : NumFace Inv) (h : SG Inv nd nl nf lv fv ck M K s0 a κ τ) : Chk nd nl nf lv fv ck a := (hN.2 _ _ _ _ _ _ _ h.2.2.2.2).2.2.2.2.1
end SGS
theorem TL.none {L : Lay} {τ τ' : Tau} (h : TL L none τ) : TL L none τ' := ⟨h.1, fun t ht => by cases ht⟩
theorem lcmp_self {x : Int64} : lg_cmp x x = 0 := by
  unfold lg_cmp
  simp
