/-! answers of a kind, calls by arity, rows at a counted place -/
def Ri (P : Int32 → Hp → Prop) : Option Value → Hp → Prop := fun r h' => ∃ v, r = some (.int v) ∧ P v h'
def Rv (P : Hp → Prop) : Option Value → Hp → Prop := fun r h' => r = none ∧ P h'
def Ra (P : Nat → Hp → Prop) : Option Value → Hp → Prop := fun r h' => ∃ a, r = some (.ref a) ∧ P a h'
section KND
variable {g : GG} {mi mj : MI} {pc idx : Nat} {lv lv0 : List (Option Value)} {st : List Value} {h : Hp} {Q : Option Value → Hp → Prop}
theorem ret_i {P : Int32 → Hp → Prop} {v : Int32} (hd : decode mi.2.1 pc = .ok (.ireturn, 1)) (ht : mi.2.2.2.1 = some .int) (hq : P v h) : R g mi pc lv [.int v] h (Ri P) := R.ret_i hd ht ⟨v, rfl, hq⟩
theorem ret_z {P : Int32 → Hp → Prop} {v : Int32} (hd : decode mi.2.1 pc = .ok (.ireturn, 1)) (ht : mi.2.2.2.1 = some .boolean) (hv : v = 0 ∨ v = 1) (hq : P v h) : R g mi pc lv [.int v] h (Ri P) := R.ret_z hd ht hv ⟨v, rfl, hq⟩
theorem ret_v {P : Hp → Prop} (hd : decode mi.2.1 pc = .ok (.return_, 1)) (ht : mi.2.2.2.1 = none) (hq : P h) : R g mi pc lv [] h (Rv P) := R.ret_v hd ht ⟨rfl, hq⟩
theorem ret_a {P : Nat → Hp → Prop} {a : Nat} {t : FieldType} (hd : decode mi.2.1 pc = .ok (.areturn, 1)) (ht : mi.2.2.2.1 = some (.array t)) (hq : P a h) : R g mi pc lv [.ref a] h (Ra P) := R.ret_a hd ht ⟨a, rfl, hq⟩
theorem Ri.imp {P P' : Int32 → Hp → Prop} (k : R g mi pc lv st h (Ri P)) (hq : ∀ v h', P v h' → P' v h') : R g mi pc lv st h (Ri P') := R.imp (fun r h' ⟨v, e, q⟩ => ⟨v, e, hq v h' q⟩) k
theorem Rv.imp {P P' : Hp → Prop} (k : R g mi pc lv st h (Rv P)) (hq : ∀ h', P h' → P' h') : R g mi pc lv st h (Rv P') := R.imp (fun r h' ⟨e, q⟩ => ⟨e, hq h' q⟩) k
theorem r_ild {o n j : Nat} {x : Int32} (hsh : shl[o]? = some (.inl n)) (hx : x = nI j) (hj : j < n) (hn : n < 2 ^ 31) (hd : decode mi.2.1 pc = .ok (.iaload, 1)) (k : R g mi (pc + 1) lv (.int (h o j) :: st) h Q) : R g mi pc lv (.int x :: .ref (ad g o) :: st) h Q := by
  subst hx
  refine r_iald hsh (vp_in_nI hj hn) hd ?_
  rw [nI_clamp (Nat.lt_trans hj hn)]
  exact k
theorem r_ias {o n j : Nat} {x y : Int32} (hsh : shl[o]? = some (.inl n)) (hx : x = nI j) (hj : j < n) (hn : n < 2 ^ 31) (hd : decode mi.2.1 pc = .ok (.iastore, 1)) (k : R g mi (pc + 1) lv st (hset h o j y) Q) : R g mi pc lv (.int y :: .int x :: .ref (ad g o) :: st) h Q := by
  subst hx
  refine r_iast hsh (vp_in_nI hj hn) hd ?_
  rw [nI_clamp (Nat.lt_trans hj hn)]
  exact k
theorem r_irn {o j : Nat} {x : Int32} (h1 : 1000 ≤ o) (h2 : o < 1003) (hx : x = nI j) (hj : j < roN g o) (hn : j < 2 ^ 31) (hd : decode mi.2.1 pc = .ok (.iaload, 1)) (k : R g mi (pc + 1) lv (.int (ro g o j) :: st) h Q) : R g mi pc lv (.int x :: .ref (ad g o) :: st) h Q := by
  subst hx
  have hc : (nI j).toNatClampNeg = j := nI_clamp hn
  refine r_iro h1 h2 ?_ hd ?_
  · intro q
    rcases q with q | q
    · exact nI_pos hn q
    · rw [hc] at q; omega
  · rw [hc]
    exact k

theorem r_cV0i {o ci : Nat} {fs : List (Option Nat)} {T : u_T} {N : Nat} {P : Int32 → Hp → Prop} (hm : MO mj 0) (hw : Cond.methodLink mi.2.2.2.2.1 idx mj.1 ∈ lw_g ∧ Cond.instanceMethod mj.1 ∈ lw_g ∧ Cond.selects mj.1.cls mj.1 mj.1 ∈ lw_g) (hsh : shl[o]? = some (.inr (ci, fs))) (hci : vwCl[ci]? = some (mj.1.cls, T, N)) (hsl : (lg_sl (.ref (ad g o) :: [])).length ≤ mj.2.2.1) (hroom : mj.2.2.2.2.2.1 + 1 ≤ mi.2.2.2.2.2.1 ∧ 8 + (mj.2.2.1 + 11) + mj.2.2.2.2.2.2 ≤ mi.2.2.2.2.2.2) (hcat : (st.map fun v => v.category).sum ≤ 8)
    (hd : decode mi.2.1 pc = .ok (.invokevirtual idx, 3)) (hE : ent (.ref (ad g o) :: []) mj.2.2.1 = lv0) (hM : R g mj 0 lv0 [] h (Ri P)) (kk : ∀ v h', P v h' → R g mi (pc + 3) lv (.int v :: st) h' Q) : R g mi pc lv (.ref (ad g o) :: st) h Q := by
  subst hE
  exact r_callV [] hm hw hsh hci rfl hsl hroom hcat hd hM (fun r h' ⟨v, e, q⟩ => by subst e; exact kk v h' q)
theorem r_cV0v {o ci : Nat} {fs : List (Option Nat)} {T : u_T} {N : Nat} {P : Hp → Prop} (hm : MO mj 0) (hw : Cond.methodLink mi.2.2.2.2.1 idx mj.1 ∈ lw_g ∧ Cond.instanceMethod mj.1 ∈ lw_g ∧ Cond.selects mj.1.cls mj.1 mj.1 ∈ lw_g) (hsh : shl[o]? = some (.inr (ci, fs))) (hci : vwCl[ci]? = some (mj.1.cls, T, N)) (hsl : (lg_sl (.ref (ad g o) :: [])).length ≤ mj.2.2.1) (hroom : mj.2.2.2.2.2.1 + 1 ≤ mi.2.2.2.2.2.1 ∧ 8 + (mj.2.2.1 + 11) + mj.2.2.2.2.2.2 ≤ mi.2.2.2.2.2.2) (hcat : (st.map fun v => v.category).sum ≤ 8)
    (hd : decode mi.2.1 pc = .ok (.invokevirtual idx, 3)) (hE : ent (.ref (ad g o) :: []) mj.2.2.1 = lv0) (hM : R g mj 0 lv0 [] h (Rv P)) (kk : ∀ h', P h' → R g mi (pc + 3) lv st h' Q) : R g mi pc lv (.ref (ad g o) :: st) h Q := by
  subst hE
  exact r_callV [] hm hw hsh hci rfl hsl hroom hcat hd hM (fun r h' ⟨e, q⟩ => by subst e; exact kk h' q)
theorem r_cV1i {o ci : Nat} {fs : List (Option Nat)} {T : u_T} {N : Nat} {a1 : Value} {P : Int32 → Hp → Prop} (hm : MO mj 1) (hw : Cond.methodLink mi.2.2.2.2.1 idx mj.1 ∈ lw_g ∧ Cond.instanceMethod mj.1 ∈ lw_g ∧ Cond.selects mj.1.cls mj.1 mj.1 ∈ lw_g) (hsh : shl[o]? = some (.inr (ci, fs))) (hci : vwCl[ci]? = some (mj.1.cls, T, N)) (hsl : (lg_sl (.ref (ad g o) :: [a1])).length ≤ mj.2.2.1) (hroom : mj.2.2.2.2.2.1 + 1 ≤ mi.2.2.2.2.2.1 ∧ 8 + (mj.2.2.1 + 11) + mj.2.2.2.2.2.2 ≤ mi.2.2.2.2.2.2) (hcat : (st.map fun v => v.category).sum ≤ 8)
    (hd : decode mi.2.1 pc = .ok (.invokevirtual idx, 3)) (hE : ent (.ref (ad g o) :: [a1]) mj.2.2.1 = lv0) (hM : R g mj 0 lv0 [] h (Ri P)) (kk : ∀ v h', P v h' → R g mi (pc + 3) lv (.int v :: st) h' Q) : R g mi pc lv (a1 :: .ref (ad g o) :: st) h Q := by
  subst hE
  exact r_callV [a1] hm hw hsh hci rfl hsl hroom hcat hd hM (fun r h' ⟨v, e, q⟩ => by subst e; exact kk v h' q)
theorem r_cV1v {o ci : Nat} {fs : List (Option Nat)} {T : u_T} {N : Nat} {a1 : Value} {P : Hp → Prop} (hm : MO mj 1) (hw : Cond.methodLink mi.2.2.2.2.1 idx mj.1 ∈ lw_g ∧ Cond.instanceMethod mj.1 ∈ lw_g ∧ Cond.selects mj.1.cls mj.1 mj.1 ∈ lw_g) (hsh : shl[o]? = some (.inr (ci, fs))) (hci : vwCl[ci]? = some (mj.1.cls, T, N)) (hsl : (lg_sl (.ref (ad g o) :: [a1])).length ≤ mj.2.2.1) (hroom : mj.2.2.2.2.2.1 + 1 ≤ mi.2.2.2.2.2.1 ∧ 8 + (mj.2.2.1 + 11) + mj.2.2.2.2.2.2 ≤ mi.2.2.2.2.2.2) (hcat : (st.map fun v => v.category).sum ≤ 8)
    (hd : decode mi.2.1 pc = .ok (.invokevirtual idx, 3)) (hE : ent (.ref (ad g o) :: [a1]) mj.2.2.1 = lv0) (hM : R g mj 0 lv0 [] h (Rv P)) (kk : ∀ h', P h' → R g mi (pc + 3) lv st h' Q) : R g mi pc lv (a1 :: .ref (ad g o) :: st) h Q := by
  subst hE
  exact r_callV [a1] hm hw hsh hci rfl hsl hroom hcat hd hM (fun r h' ⟨e, q⟩ => by subst e; exact kk h' q)
theorem r_cV1a {o ci : Nat} {fs : List (Option Nat)} {T : u_T} {N : Nat} {a1 : Value} {P : Nat → Hp → Prop} (hm : MO mj 1) (hw : Cond.methodLink mi.2.2.2.2.1 idx mj.1 ∈ lw_g ∧ Cond.instanceMethod mj.1 ∈ lw_g ∧ Cond.selects mj.1.cls mj.1 mj.1 ∈ lw_g) (hsh : shl[o]? = some (.inr (ci, fs))) (hci : vwCl[ci]? = some (mj.1.cls, T, N)) (hsl : (lg_sl (.ref (ad g o) :: [a1])).length ≤ mj.2.2.1) (hroom : mj.2.2.2.2.2.1 + 1 ≤ mi.2.2.2.2.2.1 ∧ 8 + (mj.2.2.1 + 11) + mj.2.2.2.2.2.2 ≤ mi.2.2.2.2.2.2) (hcat : (st.map fun v => v.category).sum ≤ 8)
    (hd : decode mi.2.1 pc = .ok (.invokevirtual idx, 3)) (hE : ent (.ref (ad g o) :: [a1]) mj.2.2.1 = lv0) (hM : R g mj 0 lv0 [] h (Ra P)) (kk : ∀ a h', P a h' → R g mi (pc + 3) lv (.ref a :: st) h' Q) : R g mi pc lv (a1 :: .ref (ad g o) :: st) h Q := by
  subst hE
  exact r_callV [a1] hm hw hsh hci rfl hsl hroom hcat hd hM (fun r h' ⟨a, e, q⟩ => by subst e; exact kk a h' q)
theorem r_cV2i {o ci : Nat} {fs : List (Option Nat)} {T : u_T} {N : Nat} {a1 a2 : Value} {P : Int32 → Hp → Prop} (hm : MO mj 2) (hw : Cond.methodLink mi.2.2.2.2.1 idx mj.1 ∈ lw_g ∧ Cond.instanceMethod mj.1 ∈ lw_g ∧ Cond.selects mj.1.cls mj.1 mj.1 ∈ lw_g) (hsh : shl[o]? = some (.inr (ci, fs))) (hci : vwCl[ci]? = some (mj.1.cls, T, N)) (hsl : (lg_sl (.ref (ad g o) :: [a1, a2])).length ≤ mj.2.2.1) (hroom : mj.2.2.2.2.2.1 + 1 ≤ mi.2.2.2.2.2.1 ∧ 8 + (mj.2.2.1 + 11) + mj.2.2.2.2.2.2 ≤ mi.2.2.2.2.2.2) (hcat : (st.map fun v => v.category).sum ≤ 8)
    (hd : decode mi.2.1 pc = .ok (.invokevirtual idx, 3)) (hE : ent (.ref (ad g o) :: [a1, a2]) mj.2.2.1 = lv0) (hM : R g mj 0 lv0 [] h (Ri P)) (kk : ∀ v h', P v h' → R g mi (pc + 3) lv (.int v :: st) h' Q) : R g mi pc lv (a2 :: a1 :: .ref (ad g o) :: st) h Q := by
  subst hE
  exact r_callV [a1, a2] hm hw hsh hci rfl hsl hroom hcat hd hM (fun r h' ⟨v, e, q⟩ => by subst e; exact kk v h' q)
theorem r_cV2v {o ci : Nat} {fs : List (Option Nat)} {T : u_T} {N : Nat} {a1 a2 : Value} {P : Hp → Prop} (hm : MO mj 2) (hw : Cond.methodLink mi.2.2.2.2.1 idx mj.1 ∈ lw_g ∧ Cond.instanceMethod mj.1 ∈ lw_g ∧ Cond.selects mj.1.cls mj.1 mj.1 ∈ lw_g) (hsh : shl[o]? = some (.inr (ci, fs))) (hci : vwCl[ci]? = some (mj.1.cls, T, N)) (hsl : (lg_sl (.ref (ad g o) :: [a1, a2])).length ≤ mj.2.2.1) (hroom : mj.2.2.2.2.2.1 + 1 ≤ mi.2.2.2.2.2.1 ∧ 8 + (mj.2.2.1 + 11) + mj.2.2.2.2.2.2 ≤ mi.2.2.2.2.2.2) (hcat : (st.map fun v => v.category).sum ≤ 8)
    (hd : decode mi.2.1 pc = .ok (.invokevirtual idx, 3)) (hE : ent (.ref (ad g o) :: [a1, a2]) mj.2.2.1 = lv0) (hM : R g mj 0 lv0 [] h (Rv P)) (kk : ∀ h', P h' → R g mi (pc + 3) lv st h' Q) : R g mi pc lv (a2 :: a1 :: .ref (ad g o) :: st) h Q := by
  subst hE
  exact r_callV [a1, a2] hm hw hsh hci rfl hsl hroom hcat hd hM (fun r h' ⟨e, q⟩ => by subst e; exact kk h' q)
theorem r_cV3i {o ci : Nat} {fs : List (Option Nat)} {T : u_T} {N : Nat} {a1 a2 a3 : Value} {P : Int32 → Hp → Prop} (hm : MO mj 3) (hw : Cond.methodLink mi.2.2.2.2.1 idx mj.1 ∈ lw_g ∧ Cond.instanceMethod mj.1 ∈ lw_g ∧ Cond.selects mj.1.cls mj.1 mj.1 ∈ lw_g) (hsh : shl[o]? = some (.inr (ci, fs))) (hci : vwCl[ci]? = some (mj.1.cls, T, N)) (hsl : (lg_sl (.ref (ad g o) :: [a1, a2, a3])).length ≤ mj.2.2.1) (hroom : mj.2.2.2.2.2.1 + 1 ≤ mi.2.2.2.2.2.1 ∧ 8 + (mj.2.2.1 + 11) + mj.2.2.2.2.2.2 ≤ mi.2.2.2.2.2.2) (hcat : (st.map fun v => v.category).sum ≤ 8)
    (hd : decode mi.2.1 pc = .ok (.invokevirtual idx, 3)) (hE : ent (.ref (ad g o) :: [a1, a2, a3]) mj.2.2.1 = lv0) (hM : R g mj 0 lv0 [] h (Ri P)) (kk : ∀ v h', P v h' → R g mi (pc + 3) lv (.int v :: st) h' Q) : R g mi pc lv (a3 :: a2 :: a1 :: .ref (ad g o) :: st) h Q := by
  subst hE
  exact r_callV [a1, a2, a3] hm hw hsh hci rfl hsl hroom hcat hd hM (fun r h' ⟨v, e, q⟩ => by subst e; exact kk v h' q)
theorem r_cV3v {o ci : Nat} {fs : List (Option Nat)} {T : u_T} {N : Nat} {a1 a2 a3 : Value} {P : Hp → Prop} (hm : MO mj 3) (hw : Cond.methodLink mi.2.2.2.2.1 idx mj.1 ∈ lw_g ∧ Cond.instanceMethod mj.1 ∈ lw_g ∧ Cond.selects mj.1.cls mj.1 mj.1 ∈ lw_g) (hsh : shl[o]? = some (.inr (ci, fs))) (hci : vwCl[ci]? = some (mj.1.cls, T, N)) (hsl : (lg_sl (.ref (ad g o) :: [a1, a2, a3])).length ≤ mj.2.2.1) (hroom : mj.2.2.2.2.2.1 + 1 ≤ mi.2.2.2.2.2.1 ∧ 8 + (mj.2.2.1 + 11) + mj.2.2.2.2.2.2 ≤ mi.2.2.2.2.2.2) (hcat : (st.map fun v => v.category).sum ≤ 8)
    (hd : decode mi.2.1 pc = .ok (.invokevirtual idx, 3)) (hE : ent (.ref (ad g o) :: [a1, a2, a3]) mj.2.2.1 = lv0) (hM : R g mj 0 lv0 [] h (Rv P)) (kk : ∀ h', P h' → R g mi (pc + 3) lv st h' Q) : R g mi pc lv (a3 :: a2 :: a1 :: .ref (ad g o) :: st) h Q := by
  subst hE
  exact r_callV [a1, a2, a3] hm hw hsh hci rfl hsl hroom hcat hd hM (fun r h' ⟨e, q⟩ => by subst e; exact kk h' q)
theorem r_cV4i {o ci : Nat} {fs : List (Option Nat)} {T : u_T} {N : Nat} {a1 a2 a3 a4 : Value} {P : Int32 → Hp → Prop} (hm : MO mj 4) (hw : Cond.methodLink mi.2.2.2.2.1 idx mj.1 ∈ lw_g ∧ Cond.instanceMethod mj.1 ∈ lw_g ∧ Cond.selects mj.1.cls mj.1 mj.1 ∈ lw_g) (hsh : shl[o]? = some (.inr (ci, fs))) (hci : vwCl[ci]? = some (mj.1.cls, T, N)) (hsl : (lg_sl (.ref (ad g o) :: [a1, a2, a3, a4])).length ≤ mj.2.2.1) (hroom : mj.2.2.2.2.2.1 + 1 ≤ mi.2.2.2.2.2.1 ∧ 8 + (mj.2.2.1 + 11) + mj.2.2.2.2.2.2 ≤ mi.2.2.2.2.2.2) (hcat : (st.map fun v => v.category).sum ≤ 8)
    (hd : decode mi.2.1 pc = .ok (.invokevirtual idx, 3)) (hE : ent (.ref (ad g o) :: [a1, a2, a3, a4]) mj.2.2.1 = lv0) (hM : R g mj 0 lv0 [] h (Ri P)) (kk : ∀ v h', P v h' → R g mi (pc + 3) lv (.int v :: st) h' Q) : R g mi pc lv (a4 :: a3 :: a2 :: a1 :: .ref (ad g o) :: st) h Q := by
  subst hE
  exact r_callV [a1, a2, a3, a4] hm hw hsh hci rfl hsl hroom hcat hd hM (fun r h' ⟨v, e, q⟩ => by subst e; exact kk v h' q)
theorem r_cV4v {o ci : Nat} {fs : List (Option Nat)} {T : u_T} {N : Nat} {a1 a2 a3 a4 : Value} {P : Hp → Prop} (hm : MO mj 4) (hw : Cond.methodLink mi.2.2.2.2.1 idx mj.1 ∈ lw_g ∧ Cond.instanceMethod mj.1 ∈ lw_g ∧ Cond.selects mj.1.cls mj.1 mj.1 ∈ lw_g) (hsh : shl[o]? = some (.inr (ci, fs))) (hci : vwCl[ci]? = some (mj.1.cls, T, N)) (hsl : (lg_sl (.ref (ad g o) :: [a1, a2, a3, a4])).length ≤ mj.2.2.1) (hroom : mj.2.2.2.2.2.1 + 1 ≤ mi.2.2.2.2.2.1 ∧ 8 + (mj.2.2.1 + 11) + mj.2.2.2.2.2.2 ≤ mi.2.2.2.2.2.2) (hcat : (st.map fun v => v.category).sum ≤ 8)
    (hd : decode mi.2.1 pc = .ok (.invokevirtual idx, 3)) (hE : ent (.ref (ad g o) :: [a1, a2, a3, a4]) mj.2.2.1 = lv0) (hM : R g mj 0 lv0 [] h (Rv P)) (kk : ∀ h', P h' → R g mi (pc + 3) lv st h' Q) : R g mi pc lv (a4 :: a3 :: a2 :: a1 :: .ref (ad g o) :: st) h Q := by
  subst hE
  exact r_callV [a1, a2, a3, a4] hm hw hsh hci rfl hsl hroom hcat hd hM (fun r h' ⟨e, q⟩ => by subst e; exact kk h' q)
theorem r_cS1i {a1 : Value} {P : Int32 → Hp → Prop} (hm : MO mj 1) (hw : Cond.methodLink mi.2.2.2.2.1 idx mj.1 ∈ lw_g ∧ Cond.static mj.1 ∈ lw_g) (hsl : (lg_sl [a1]).length ≤ mj.2.2.1) (hroom : mj.2.2.2.2.2.1 + 1 ≤ mi.2.2.2.2.2.1 ∧ 8 + (mj.2.2.1 + 11) + mj.2.2.2.2.2.2 ≤ mi.2.2.2.2.2.2) (hcat : (st.map fun v => v.category).sum ≤ 8)
    (hd : decode mi.2.1 pc = .ok (.invokestatic idx, 3)) (hE : ent [a1] mj.2.2.1 = lv0) (hM : R g mj 0 lv0 [] h (Ri P)) (kk : ∀ v h', P v h' → R g mi (pc + 3) lv (.int v :: st) h' Q) : R g mi pc lv (a1 :: st) h Q := by
  subst hE
  exact r_callS [a1] hm hw rfl hsl hroom hcat hd hM (fun r h' ⟨v, e, q⟩ => by subst e; exact kk v h' q)
theorem r_cS2i {a1 a2 : Value} {P : Int32 → Hp → Prop} (hm : MO mj 2) (hw : Cond.methodLink mi.2.2.2.2.1 idx mj.1 ∈ lw_g ∧ Cond.static mj.1 ∈ lw_g) (hsl : (lg_sl [a1, a2]).length ≤ mj.2.2.1) (hroom : mj.2.2.2.2.2.1 + 1 ≤ mi.2.2.2.2.2.1 ∧ 8 + (mj.2.2.1 + 11) + mj.2.2.2.2.2.2 ≤ mi.2.2.2.2.2.2) (hcat : (st.map fun v => v.category).sum ≤ 8)
    (hd : decode mi.2.1 pc = .ok (.invokestatic idx, 3)) (hE : ent [a1, a2] mj.2.2.1 = lv0) (hM : R g mj 0 lv0 [] h (Ri P)) (kk : ∀ v h', P v h' → R g mi (pc + 3) lv (.int v :: st) h' Q) : R g mi pc lv (a2 :: a1 :: st) h Q := by
  subst hE
  exact r_callS [a1, a2] hm hw rfl hsl hroom hcat hd hM (fun r h' ⟨v, e, q⟩ => by subst e; exact kk v h' q)
theorem r_cS3i {a1 a2 a3 : Value} {P : Int32 → Hp → Prop} (hm : MO mj 3) (hw : Cond.methodLink mi.2.2.2.2.1 idx mj.1 ∈ lw_g ∧ Cond.static mj.1 ∈ lw_g) (hsl : (lg_sl [a1, a2, a3]).length ≤ mj.2.2.1) (hroom : mj.2.2.2.2.2.1 + 1 ≤ mi.2.2.2.2.2.1 ∧ 8 + (mj.2.2.1 + 11) + mj.2.2.2.2.2.2 ≤ mi.2.2.2.2.2.2) (hcat : (st.map fun v => v.category).sum ≤ 8)
    (hd : decode mi.2.1 pc = .ok (.invokestatic idx, 3)) (hE : ent [a1, a2, a3] mj.2.2.1 = lv0) (hM : R g mj 0 lv0 [] h (Ri P)) (kk : ∀ v h', P v h' → R g mi (pc + 3) lv (.int v :: st) h' Q) : R g mi pc lv (a3 :: a2 :: a1 :: st) h Q := by
  subst hE
  exact r_callS [a1, a2, a3] hm hw rfl hsl hroom hcat hd hM (fun r h' ⟨v, e, q⟩ => by subst e; exact kk v h' q)
theorem r_cS4i {a1 a2 a3 a4 : Value} {P : Int32 → Hp → Prop} (hm : MO mj 4) (hw : Cond.methodLink mi.2.2.2.2.1 idx mj.1 ∈ lw_g ∧ Cond.static mj.1 ∈ lw_g) (hsl : (lg_sl [a1, a2, a3, a4]).length ≤ mj.2.2.1) (hroom : mj.2.2.2.2.2.1 + 1 ≤ mi.2.2.2.2.2.1 ∧ 8 + (mj.2.2.1 + 11) + mj.2.2.2.2.2.2 ≤ mi.2.2.2.2.2.2) (hcat : (st.map fun v => v.category).sum ≤ 8)
    (hd : decode mi.2.1 pc = .ok (.invokestatic idx, 3)) (hE : ent [a1, a2, a3, a4] mj.2.2.1 = lv0) (hM : R g mj 0 lv0 [] h (Ri P)) (kk : ∀ v h', P v h' → R g mi (pc + 3) lv (.int v :: st) h' Q) : R g mi pc lv (a4 :: a3 :: a2 :: a1 :: st) h Q := by
  subst hE
  exact r_callS [a1, a2, a3, a4] hm hw rfl hsl hroom hcat hd hM (fun r h' ⟨v, e, q⟩ => by subst e; exact kk v h' q)
end KND
