/-! a trial and the thing itself: links and nodes -/
section ALK
variable {a b : St} {i v l : Nat}
theorem upd_c {x y : Nat → Int32} {q k : Nat} {z w : Int32} (hz : z = w) (h : y k = x k) : upd y q z k = upd x q w k := by
  unfold upd
  split
  · exact hz
  · exact h
theorem X_slow_c {x y : Nat → Int32} (e : ∀ k, k < 9 → y k = x k) (k : Nat) (hk : k < 9) : X_slow y k = X_slow x k := by
  unfold X_slow
  rw [e 6 (by decide), e 4 (by decide)]
  by_cases h1 : x 6 ≤ 0
  · rw [if_pos h1, if_pos h1]
    by_cases h2 : x 6 = 0
    · rw [if_pos h2, if_pos h2]
      exact upd_c rfl (upd_c rfl (e k hk))
    · rw [if_neg h2, if_neg h2]
      exact e k hk
  · rw [if_neg h1, if_neg h1]
    exact upd_c rfl (e k hk)
theorem Sim.slows (h : Sim b a) : Alk a (G_slow b) (G_slow a) := by
  unfold G_slow
  rw [h.eL]
  refine h.loop (g := fun i b => L_slow b i) (N := nL a) (fun i c d hi hcd _ _ _ _ => ?_) _ (Nat.le_refl _)
  exact hcd.two (i := i) (x := X_slow (d 2 i)) (y := X_slow (c 2 i)) (X_slow_k (by decide) (by decide)) fun hi => X_slow_c fun k hk => hcd.l hi hk
theorem Sim.recks (h : Sim b a) (tk : Int32) : Alk a (G_reck b tk) (G_reck a tk) := by
  unfold G_reck
  rw [h.eL]
  refine h.loop (g := L_reck tk) (N := nL a) (fun i c d hi hcd _ _ _ _ => ?_) _ (Nat.le_refl _)
  exact hcd.two (i := i) (x := upd (d 2 i) 8 (L_cost d i tk)) (y := upd (c 2 i) 8 (L_cost c i tk)) (upd_ne (by decide)) fun hi k hk => upd_c (hcd.cost hi tk) (hcd.l hi hk)
theorem Sim.cqs (h : Sim b a) (tk : Int32) : Alk a (G_cq b tk) (G_cq a tk) := by
  unfold G_cq
  rw [h.eL]
  refine h.loop (g := fun i b => L_cq b i tk) (N := nL a) (fun i c d hi hcd _ _ _ _ => ?_) _ (Nat.le_refl _)
  refine hcd.two (i := i) (x := X_cq (d 2 i) (L_q d i tk)) (y := X_cq (c 2 i) (L_q c i tk)) ?_ fun hi k hk => ?_
  · unfold X_cq
    rw [upd_ne (by decide), upd_ne (by decide)]
  · unfold X_cq
    rw [upd_ne (by omega), upd_ne (by omega), upd_ne (by omega), upd_ne (by omega)]
    exact hcd.l hi hk
theorem Sim.costs (h : Sim b a) : Alk a (T_costs b) (T_costs a) := by
  unfold T_costs
  rw [h.z (show 1 < 6 by decide), h.z (show 0 < 6 by decide)]
  by_cases h1 : a 0 0 1 ≤ 0
  · rw [if_pos h1, if_pos h1]
    exact h.alk
  · rw [if_neg h1, if_neg h1]
    by_cases h2 : a 0 0 0 - a 0 0 0 / a 0 0 1 * a 0 0 1 = 0
    · rw [if_pos h2, if_pos h2]
      exact h.recks _
    · rw [if_neg h2, if_neg h2]
      exact h.alk
theorem SigS.idx (h : SigS b a i) (ho : ¬ S_on (a 8 i) = 0) : (a 8 i 1).toNatClampNeg < 4 := by
  obtain ⟨o1, o2⟩ := S_on_in ho
  exact Nat.lt_of_lt_of_le (idx_lt o1 o2) (in_le h.1)
theorem Sim.play1 (h : Sim b a) (hn : i < nN a) (q : Int32) : Alk a (S_play1 b i q) (S_play1 a i q) := by
  have hs := h.s hn
  obtain ⟨h0, h1, h2⟩ := hs
  have eo : S_on (b 8 i) = S_on (a 8 i) := by
    unfold S_on
    rw [h1 0 (by decide), h1 1 (by decide)]
  have hx : Alk a (S_next b i) (S_next a i) := h.s8 (by unfold X_next; rw [upd_ne (by decide), upd_ne (by decide)]) fun _ k hk => by
    unfold X_next
    exact upd_c rfl (upd_c (by rw [h1 0 (by decide), h1 1 (by decide)]) (h1 k hk))
  unfold S_play1
  rw [eo]
  by_cases ho : S_on (a 8 i) = 0
  · rw [if_pos ho, if_pos ho]
    exact hx
  · have hi := (h.s hn).idx ho
    rw [if_neg ho, if_neg ho, h1 1 (by decide), h1 2 (by decide), (h2 _ hi).2.2, (h2 _ hi).2.1]
    by_cases c1 : a 11 i (a 8 i 1).toNatClampNeg < a 8 i 2
    · rw [if_pos c1, if_pos c1]
      exact hx
    · rw [if_neg c1, if_neg c1]
      by_cases c2 : a 8 i 2 ≤ a 10 i (a 8 i 1).toNatClampNeg
      · rw [if_pos c2, if_pos c2]
        exact h.alk
      · rw [if_neg c2, if_neg c2]
        by_cases c3 : q = 0
        · rw [if_pos c3, if_pos c3]
          exact hx
        · rw [if_neg c3, if_neg c3]
          exact h.alk
theorem Sim.sig (h : Sim b a) (hn : i < nN a) (tk : Int32) : Alk a (T_sig tk i b) (T_sig tk i a) := by
  unfold T_sig
  rw [(h.s hn).2.1 0 (by decide), (h.green hn 0).2, h.eL, h.any (nL a) 0 (by omega)]
  by_cases hz : a 8 i 0 ≤ 0
  · rw [if_pos hz, if_pos hz]
    exact h.alk
  · rw [if_neg hz, if_neg hz]
    unfold S_play
    have h1 : Alk a (S_tick b i) (S_tick a i) := h.s8 (upd_ne (by decide)) fun hn k hk => upd_c (by rw [(h.s hn).2.1 2 (by decide)]) ((h.s hn).2.1 k hk)
    exact h1.trans (h1.1.play1 (h1.iN hn) _)
theorem Sim.sigs (h : Sim b a) : Alk a (T_sigs b) (T_sigs a) := by
  unfold T_sigs
  rw [h.eN, h.z (show 0 < 6 by decide)]
  refine h.loop (g := T_sig (a 0 0 0)) (N := nN a) (fun i c d hi hcd _ eN _ _ => ?_) _ (Nat.le_refl _)
  exact hcd.sig (by rw [eN]; exact hi) _
theorem Sim.nxt (h : Sim b a) (hv : v < nV a) (nd : Int32) : T_next b v nd = T_next a v nd := by
  obtain ⟨h0, h1, h2⟩ := h.ve hv
  unfold T_next V_next
  rw [h1 2 (by decide), h1 7 (by decide), h1 11 (by decide), h1 1 (by decide), h.first]
  by_cases c0 : a 15 v 2 = 0
  · rw [if_pos c0, if_pos c0]
    by_cases c1 : a 15 v 7 < 0
    · rw [if_pos c1, if_pos c1]
    · rw [if_neg c1, if_neg c1]
      by_cases c2 : a 15 v 11 ≤ a 15 v 7
      · rw [if_pos c2, if_pos c2]
      · rw [if_neg c2, if_neg c2]
        exact h2 _ (idx_lt c1 c2)
  · rw [if_neg c0, if_neg c0]
theorem Sim.take {x e : Int32} (h : Sim b a) : Alk a (L_take b i x e) (L_take a i x e) := by
  have h1 := h.app3 (i := i) (x := x)
  have h2 := h1.1.app5 (i := i) (x := e)
  refine h1.trans (h2.trans ?_)
  refine h2.1.two (upd_ne (by decide)) fun hi k hk => ?_
  rw [upd_ne (by omega), upd_ne (by omega)]
  exact h2.1.l hi hk
theorem Sim.onto {vn nx : Int32} (h : Sim b a) (hv : v < nV a) (hk : nx.toNatClampNeg < nL a) : Alk a (T_onto b v vn nx) (T_onto a v vn nx) := by
  have h1 : Alk a (T_on1 b v nx) (T_on1 a v nx) := by
    unfold T_on1 V_onto
    rw [h.l hk (show 2 < 9 by decide), h.z (show 0 < 6 by decide)]
    refine h.v15 (by unfold X_onto; rw [upd_ne (by decide), upd_ne (by decide), upd_ne (by decide), upd_ne (by decide), upd_ne (by decide)]) fun hv k hk => ?_
    have e := (h.ve hv).2.1
    unfold X_onto
    exact upd_c (by rw [e 8 (by decide)]) (upd_c (by rw [e 7 (by decide)]) (upd_c rfl (upd_c rfl (upd_c rfl (e k hk)))))
  have e6 : T_on1 b v nx 15 v 6 = T_on1 a v nx 15 v 6 := (h1.1.ve (h1.iV hv)).2.1 6 (by decide)
  have h2 : Alk (T_on1 a v nx) (T_on2 (T_on1 b v nx) v vn nx) (T_on2 (T_on1 a v nx) v vn nx) := by
    unfold T_on2
    rw [e6]
    exact h1.1.take
  exact h1.trans (h2.trans (h2.1.free (Or.inr rfl)))
theorem Sim.comes {vn nx : Int32} (h : Sim b a) (hv : v < nV a) : (T_comes b v vn nx).2 = (T_comes a v vn nx).2 ∧ Alk a (T_comes b v vn nx).1 (T_comes a v vn nx).1 := by
  unfold T_comes
  by_cases hg : G_no a nx
  · have hb : G_no b nx := by
      rcases hg with g | g
      · exact Or.inl g
      · exact Or.inr (by rw [h.n]; exact g)
    rw [if_pos hg, if_pos hb]
    exact ⟨rfl, h.alk⟩
  · have hb : ¬ G_no b nx := fun g => hg (by
      rcases g with g | g
      · exact Or.inl g
      · exact Or.inr (by rw [← h.n]; exact g))
    have hk : nx.toNatClampNeg < nL a := idx_lt2 hg
    rw [if_neg hg, if_neg hb, h.opn hk]
    by_cases ho : L_open a nx.toNatClampNeg = 0
    · rw [if_pos ho, if_pos ho]
      exact ⟨rfl, h.alk⟩
    · rw [if_neg ho, if_neg ho]
      exact ⟨rfl, h.onto hv hk⟩
theorem Sim.arr (h : Sim b a) (hv : v < nV a) : Alk a (T_arrive b v) (T_arrive a v) := by
  unfold T_arrive V_arr T_arr1
  rw [h.z (show 0 < 6 by decide)]
  have h1 : Alk a (S2 b 15 v (X_arr (b 15 v) (a 0 0 0))) (S2 a 15 v (X_arr (a 15 v) (a 0 0 0))) := by
    refine h.v15 (by unfold X_arr; rw [upd_ne (by decide), upd_ne (by decide), upd_ne (by decide), upd_ne (by decide), upd_ne (by decide)]) fun hv k hk => ?_
    have e := (h.ve hv).2.1
    unfold X_arr
    exact upd_c (by rw [e 4 (by decide), e 8 (by decide)]) (upd_c (by rw [e 4 (by decide)]) (upd_c rfl (upd_c rfl (upd_c rfl (e k hk)))))
  generalize S2 b 15 v (X_arr (b 15 v) (a 0 0 0)) = b1 at h1 ⊢
  generalize S2 a 15 v (X_arr (a 15 v) (a 0 0 0)) = a1 at h1 ⊢
  have h2 : Alk a1 (S2 b1 0 0 (upd (b1 0 0) 5 (b1 0 0 5 - 1))) (S2 a1 0 0 (upd (a1 0 0) 5 (a1 0 0 5 - 1))) := h1.1.z0 (fun k hk => upd_c (by rw [h1.1.z (show 5 < 6 by decide)]) (h1.1.z hk)) (upd_ne (by decide)) (upd_ne (by decide)) (upd_ne (by decide)) (upd_ne (by decide))
  refine h1.trans (h2.trans ?_)
  have hv2 := h2.iV (h1.iV hv)
  generalize S2 b1 0 0 (upd (b1 0 0) 5 (b1 0 0 5 - 1)) = b2 at h2 hv2 ⊢
  generalize S2 a1 0 0 (upd (a1 0 0) 5 (a1 0 0 5 - 1)) = a2 at h2 hv2 ⊢
  have e := (h2.1.ve hv2).2.1
  unfold T_arr2
  rw [e 0 (by decide), e 9 (by decide), e 10 (by decide), h2.1.z (show 3 < 6 by decide)]
  by_cases c1 : a2 15 v 0 < 0
  · rw [if_pos c1, if_pos c1]
    exact h2.1.alk
  · rw [if_neg c1, if_neg c1]
    by_cases c2 : a2 0 0 3 ≤ a2 15 v 0
    · rw [if_pos c2, if_pos c2]
      exact h2.1.alk
    · rw [if_neg c2, if_neg c2]
      refine h2.1.f14 (by unfold X_trip; rw [upd_ne (by decide), upd_ne (by decide), upd_ne (by decide), upd_ne (by decide)]) fun hi k hk => ?_
      unfold X_trip
      rw [upd_ne (by omega), upd_ne (by omega), upd_ne (by omega), upd_ne (by omega), upd_ne (by omega), upd_ne (by omega), upd_ne (by omega), upd_ne (by omega)]
      exact h2.1.fl hi hk
theorem Sim.go (h : Sim b a) : Alk a (L_go b i) (L_go a i) := by
  have h1 := h.drop3 (i := i)
  have h2 := h1.1.drop5 (i := i)
  refine h1.trans (h2.trans ?_)
  refine h2.1.two (upd_ne (by decide)) fun hi k hk => ?_
  rw [upd_ne (by omega), upd_ne (by omega)]
  exact h2.1.l hi hk
theorem Sim.turn {n : Int32} (h : Sim b a) : Alk a (L_turn b i n) (L_turn a i n) := by
  unfold L_turn
  by_cases c1 : n < 0
  · rw [if_pos c1, if_pos c1]
    exact h.alk
  · rw [if_neg c1, if_neg c1]
    by_cases c2 : 24 ≤ n
    · rw [if_pos c2, if_pos c2]
      exact h.alk
    · rw [if_neg c2, if_neg c2]
      exact h.free (Or.inl rfl)
theorem Sim.firstV {n : Int32} (h : Sim b a) (hl : l < nL a) (hv : v < nV a) : (T_firstV b l v n).2 = (T_firstV a l v n).2 ∧ Alk a (T_firstV b l v n).1 (T_firstV a l v n).1 := by
  unfold T_firstV
  rw [h.z (show 0 < 6 by decide), h.has hl, (h.ve hv).2.1 1 (by decide), h.l hl (show 1 < 9 by decide), h.nxt hv]
  by_cases hh : L_has a l (a 0 0 0) = 0
  · rw [if_pos hh, if_pos hh]
    exact ⟨rfl, h.alk⟩
  · rw [if_neg hh, if_neg hh]
    by_cases ha : a 15 v 1 = a 2 l 1
    · rw [if_pos ha, if_pos ha]
      have h1 := h.arr hv
      exact ⟨rfl, h1.trans h1.1.go⟩
    · rw [if_neg ha, if_neg ha]
      obtain ⟨c1, c2⟩ := h.comes hv (vn := n) (nx := T_next a v (a 2 l 1))
      rw [c1]
      by_cases hc : (T_comes a v n (T_next a v (a 2 l 1))).2 = 0
      · rw [if_pos hc, if_pos hc]
        exact ⟨rfl, c2⟩
      · rw [if_neg hc, if_neg hc]
        have h1 := c2.1.turn (i := l) (n := T_next a v (a 2 l 1))
        exact ⟨rfl, c2.trans (h1.trans h1.1.go)⟩
theorem Sim.no (h : Sim b a) {x : Int32} : T_no b x ↔ T_no a x := by
  show (x < 0 ∨ b 0 0 4 ≤ x) ↔ (x < 0 ∨ a 0 0 4 ≤ x)
  rw [h.z (show 4 < 6 by decide)]
theorem Sim.firstp (h : Sim b a) (hl : l < nL a) : (T_first b l).2 = (T_first a l).2 ∧ Alk a (T_first b l).1 (T_first a l).1 := by
  unfold T_first
  rw [(h.r3 hl).get0 (by decide)]
  by_cases hn : T_no a (R_get (a 3 l 0) (a 4 l) 0)
  · rw [if_pos hn, if_pos (h.no.mpr hn)]
    exact ⟨rfl, h.alk⟩
  · rw [if_neg hn, if_neg (fun x => hn (h.no.mp x))]
    exact h.firstV hl (idx_lt2 hn)
theorem Sim.many : ∀ (d : Nat) {a b : St}, Sim b a → l < nL a → Alk a (T_many l d b) (T_many l d a)
  | 0, _, _, h, _ => h.alk
  | d + 1, a, b, h, hl => by
    obtain ⟨h1, h2⟩ := h.firstp hl
    unfold T_many
    rw [h1]
    by_cases hc : (T_first a l).2 = 0
    · rw [if_pos hc, if_pos hc]
      exact h2
    · rw [if_neg hc, if_neg hc]
      exact h2.trans (Sim.many d h2.1 (h2.iL hl))
theorem Sim.most (h : Sim b a) (hl : l < nL a) : T_most b l = T_most a l := by
  unfold T_most
  rw [h.l hl (show 1 < 9 by decide), h.l hl (show 5 < 9 by decide), (h.green (h.l1 hl) _).1]
theorem Sim.links {ck nl : Nat} (h : Sim b a) (hc : a 0 0 0 = nI ck) (hck : ck ≤ 2000) (hn : a 1 0 0 = nI nl) (hn1 : 1 ≤ nl) (hnl : nl ≤ 24) : Alk a (T_links b) (T_links a) := by
  have hN : nL a = nl := by show (a 1 0 0).toNatClampNeg = nl; rw [hn, nI_clamp (by omega)]
  unfold T_links
  rw [h.n, h.z (show 0 < 6 by decide), h.eL]
  have h1 : (1 : Int32) ≤ a 1 0 0 := by rw [hn]; exact nI_le (a := 1) hn1 (by omega)
  rw [if_pos h1, if_pos h1]
  obtain ⟨f, hf, hfm⟩ := fmod_in (x := a 0 0 0) (by rw [hc, nI_toInt (by omega)]; omega) hn hn1 hnl
  rw [hfm, hn, hN]
  refine h.loop (g := T_link (nI f) (nI nl)) (N := nl) (fun i c d hi hcd eL _ _ _ => ?_) _ (Nat.le_refl _)
  obtain ⟨r, hr1, hr2⟩ := lnum_in hf hi hnl
  unfold T_link
  rw [hr1, nI_clamp (by omega)]
  have hl : r < nL d := by rw [eL, hN]; exact hr2
  rw [hcd.most hl]
  exact Sim.many _ hcd hl
theorem Sim.nodeV {n : Nat} {vn : Int32} (h : Sim b a) (hv : v < nV a) : Alk a (T_nodeV b n v vn) (T_nodeV a n v vn) := by
  unfold T_nodeV
  rw [h.nxt hv]
  obtain ⟨c1, c2⟩ := h.comes hv (vn := vn) (nx := T_next a v (nI n))
  rw [c1]
  by_cases hc : (T_comes a v vn (T_next a v (nI n))).2 = 0
  · rw [if_pos hc, if_pos hc]
    exact c2
  · rw [if_neg hc, if_neg hc]
    exact c2.trans c2.1.drop12
theorem Sim.node (h : Sim b a) (hi : i < nN a) : Alk a (T_node i b) (T_node i a) := by
  unfold T_node
  rw [(h.w hi).get0 (by decide)]
  by_cases hn : T_no a (R_get (a 12 i 0) (a 13 i) 0)
  · rw [if_pos hn, if_pos (h.no.mpr hn)]
    exact h.alk
  · rw [if_neg hn, if_neg (fun x => hn (h.no.mp x))]
    exact h.nodeV (idx_lt2 hn)
theorem Sim.nodes (h : Sim b a) : Alk a (T_nodes b) (T_nodes a) := by
  unfold T_nodes
  rw [h.eN]
  refine h.loop (g := T_node) (N := nN a) (fun i c d hi hcd _ eN _ _ => ?_) _ (Nat.le_refl _)
  exact hcd.node (by rw [eN]; exact hi)
end ALK
