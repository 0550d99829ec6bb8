/-! what the law asks of the numbers, and what the numbers must give: proved behind the walk -/
def sumI (g : Nat → Int32) : Nat → Int32
  | 0 => 0
  | n + 1 => sumI g n + g n
def cntI (a : St) (s : Int32) : Nat → Int32
  | 0 => 0
  | n + 1 => cntI a s n + (if a 15 n 3 = s then 1 else 0)
/-- the end of the vehicle before the place j on a link -/
def pE (a : St) (k j : Nat) : Int32 := if j = 0 then -1 else a 15 (a 4 k (j - 1)).toNatClampNeg 6
/-- the node to which the link before the place j of a trail leads -/
def hrE (lv : Tb) (a : St) (v j : Nat) : Int32 := if j = 0 then -1 else lv (a 30 v (j - 1)).toNatClampNeg 1
def lstE (lv : Tb) (a : St) (v j : Nat) : Int32 := sumI (fun p => lv (a 30 v p).toNatClampNeg 2) j
abbrev onE (a : St) (nl : Nat) : Int32 := sumI (fun k => a 3 k 0) nl
abbrev wtE (a : St) (nd : Nat) : Int32 := sumI (fun n => a 12 n 0) nd
def ChkL (nl : Nat) (lv : Tb) (a : St) : Prop := ∀ k, k < nl → a 3 k 0 ≤ lv k 3 ∧ a 3 k 0 = a 2 k 9 - a 2 k 10 ∧ L_q a k (a 0 0 0) ≤ a 3 k 0 ∧ lv k 2 ≤ a 2 k 8
def ChkR (nl : Nat) (a : St) : Prop := ∀ k, k < nl → ∀ j, j < (a 3 k 0).toNatClampNeg → ∃ v, v < nV a ∧ a 4 k j = nI v ∧ a 15 v 5 = nI k ∧ a 15 v 3 = 1 ∧ pE a k j ≤ a 15 v 6
def ChkV (nl : Nat) (lv : Tb) (a : St) : Prop := ∀ v, v < nV a → (∃ s, s < 4 ∧ a 15 v 3 = nI s) ∧ (∀ p, p < (a 15 v 7).toNatClampNeg → ∃ k, k < nl ∧ a 30 v p = nI k ∧ ¬ lv k 1 < 0 ∧ (¬ hrE lv a v p < 0 → lv k 0 = hrE lv a v p)) ∧ (a 15 v 3 = 2 → lstE lv a v (a 15 v 7).toNatClampNeg ≤ a 15 v 9 ∧ a 15 v 10 = a 15 v 9 - lstE lv a v (a 15 v 7).toNatClampNeg)
def ChkF (nf : Nat) (fv : Tb) (a : St) : Prop := ∀ f, f < nf → a 14 f 6 ≤ fv f 5 ∧ a 14 f 10 ≤ a 14 f 9 ∧ (a 14 f 7 = 0 → a 14 f 11 = 0)
def ChkS (nd nl nf : Nat) (a : St) : Prop := cntI a 0 (nV a) = wtE a nd ∧ cntI a 1 (nV a) = onE a nl ∧ sumI (fun f => a 14 f 6) nf = a 0 0 4 ∧ sumI (fun f => a 14 f 7 + a 14 f 8) nf = cntI a 2 (nV a) + cntI a 3 (nV a)
def ChkN (nd nl nf ck : Nat) (a : St) : Prop := a 0 0 0 = nI ck ∧ a 1 0 0 = nI nl ∧ a 0 0 2 = nI nd ∧ a 0 0 3 = nI nf ∧ (∀ i, i < 24 → a 2 i 7 = 0 ∨ a 2 i 7 = 1)
def Chk (nd nl nf : Nat) (lv fv : Tb) (ck : Nat) (a : St) : Prop := ChkN nd nl nf ck a ∧ ChkL nl lv a ∧ ChkR nl a ∧ ChkV nl lv a ∧ ChkF nf fv a ∧ ChkS nd nl nf a
def eIn (N : Nat) (b a : St) : Int32 := if a 0 0 5 = 0 then 0 else E_scan N 1 (T_copy b a)
def aIn (v N : Nat) (b a : St) : Int32 := if a 15 v 3 = 2 then 0 else A_scan v N 1 (T_copy b a)
abbrev IPr : Type := Nat → Nat → Nat → Tb → Tb → Nat → St → Prop
def NumFace (Inv : IPr) : Prop :=
  (∀ (a : St) (nd nl : Nat) (lv : Tb) (pl : Nat → Nat) (nf : Nat) (fv : Tb), 1 ≤ nl → Bld a nd nl lv pl nf fv → Inv nd nl nf lv fv 0 a) ∧
  (∀ (nd nl nf : Nat) (lv fv : Tb) (ck : Nat) (a : St), Inv nd nl nf lv fv ck a →
    (∀ (k : Nat) (bo : Int32), k < nl → bo = 0 ∨ bo = 1 → Inv nd nl nf lv fv ck (U_shut a k bo)) ∧
    (∀ k ra tk : Nat, k < nl → ra ≤ 3 → 1 ≤ tk → tk ≤ 200 → Inv nd nl nf lv fv ck (U_slow a k (nI ra) (nI tk))) ∧
    (∀ n : Nat, 1 ≤ n → n ≤ 30 → Inv nd nl nf lv fv ck (U_refresh a (nI n))) ∧
    (∀ (N M : Nat), N ≤ 60 → ck + N ≤ 1000 → M < 10000 → Wf M a → Inv nd nl nf lv fv (ck + N) (T_ticks N a) ∧ nV a ≤ nV (T_ticks N a)) ∧
    Chk nd nl nf lv fv ck a ∧
    (∀ (N M : Nat) (b : St), 1 ≤ N → N ≤ 60 → ck + N ≤ 1000 → M < 10000 → Wf M a → Wf M b → (eIn N b a = nI N → onE (T_ticks N a) nl + wtE (T_ticks N a) nd = 0) ∧ (onE (T_ticks N a) nl + wtE (T_ticks N a) nd = 0 → ¬ eIn N b a < 0)) ∧
    ∀ (N M : Nat) (b : St) (v : Nat), 1 ≤ N → N ≤ 60 → ck + N ≤ 1000 → M < 10000 → Wf M a → Wf M b → v < nV a → (¬ aIn v N b a < 0 ↔ T_ticks N a 15 v 3 = 2))
