def ent (vs : List Value) (n : Nat) : List (Option Value) := vs.flatMap (fun v => if v.category = 2 then [some v, none] else [some v]) ++ List.replicate (n - (lg_sl vs).length) none
theorem ent_args (vs : List Value) : ∀ (b i : Nat) (v : Value), (vs.flatMap (fun v => if v.category = 2 then [some v, none] else [some v]))[i]? = some (some v) → (b + i, v) ∈ lv_args b vs := by
  induction vs with
  | nil => intro b i v h; simp at h
  | cons a t ih =>
    intro b i v h
    rw [List.flatMap_cons] at h
    by_cases hc : a.category = 2
    · rw [if_pos hc] at h
      match i, h with
      | 0, h => cases h; simp [lv_args]
      | 1, h => cases h
      | j + 2, h =>
        have := ih (b + 2) j v h
        rw [lv_args, if_pos hc]
        refine List.mem_cons_of_mem _ ?_
        rw [show b + (j + 2) = b + 2 + j by omega]
        exact this
    · rw [if_neg hc] at h
      match i, h with
      | 0, h => cases h; simp [lv_args]
      | j + 1, h =>
        have := ih (b + 1) j v h
        rw [lv_args, if_neg hc]
        refine List.mem_cons_of_mem _ ?_
        rw [show b + (j + 1) = b + 1 + j by omega]
        exact this
theorem ent_lvr {vs : List Value} {n : Nat} (hs : (lg_sl vs).length ≤ n) : lvr ((lg_sl vs ++ List.replicate (n - (lg_sl vs).length) Slot.unset).toArray) n (ent vs n) := by
  have h := lv_entry vs hs
  refine ⟨h.1, h.2.1, fun i v hi => ?_⟩
  unfold ent at hi
  have hm : (i, v) ∈ lv_args 0 vs := by
    rcases Nat.lt_or_ge i (vs.flatMap (fun v : Value => if v.category = 2 then [some v, none] else [some v])).length with q | q
    · rw [List.getElem?_append_left q] at hi
      have := ent_args vs 0 i v hi
      rwa [Nat.zero_add] at this
    · rw [List.getElem?_append_right q, List.getElem?_replicate] at hi
      split at hi <;> simp at hi
  exact h.2.2 (i, v) hm
theorem ROk.to {g : GG} {A B : Nat → Prop} {s U : State} {H : Heap} (hR : ROk g A s s.heap) (hW : s.WarmedH U.vm) (hk : ∀ q : Nat, q < s.heap.size → ¬ A q → H[q]? = s.heap[q]?) (hAB : ∀ q, B q → A q) : ROk g B U H := by
  obtain ⟨h1, h2, h3, h4⟩ := hR
  exact ⟨((h1.moved hW.alike).kept hk).narrow hAB, ((h2.moved hW.alike).kept hk).narrow hAB, fun k a b => (((h3 k a b).moved hW.alike).kept hk).narrow hAB, va_Nw.warmF hW h4⟩
theorem ROk.blind {g : GG} {A : Nat → Prop} {U : State} (a : Array Value) (f : JFrame) (mk : MethodId) (hR : ROk g A U U.heap) : ROk g A (U.calling f mk a) (U.calling f mk a).heap := by
  obtain ⟨h1, h2, h3, h4⟩ := hR
  exact ⟨h1.moved (u := U) (U := U.calling f mk a) (Vm.Alike.refl U.vm), h2.moved (u := U) (U := U.calling f mk a) (Vm.Alike.refl U.vm), fun k x y => (h3 k x y).moved (u := U) (U := U.calling f mk a) (Vm.Alike.refl U.vm), va_Nw.same (U := U.calling f mk a) rfl rfl h4⟩
abbrev gPc (g : GG) (vals : List Value) (h : Hp) (sz : Nat) : Array Value → State → Prop := va_Pc vals (fun U => U.heap.size = sz ∧ va_P (gD g) vwCl (wl g h) U.heap ∧ va_K (gD g) vwCl [(gA g, .int)] U ∧ va_D (fun _ => True) (wl g h) ∧ ROk g (va_A (wl g h) sz) U U.heap)
abbrev gQc (g : GG) (Q : Option Value → Hp → Prop) (h : Hp) (sz : Nat) : Array Value → State → Outcome → State → Prop := fun _ st oc t => (∃ r h', oc = .returned r ∧ Q r h' ∧ va_P (gD g) vwCl (wl g h') t.heap) ∧ va_F (va_A (wl g h) sz) st t
abbrev gWs (mi : MI) : List Cond := Cond.code mi.1 mi.2.1 mi.2.2.1 mi.2.2.2.1 :: lw_g
abbrev gRm (mi : MI) : Room := { frames := mi.2.2.2.2.2.1, cells := 0, slots := 0, locals := mi.2.2.2.2.2.2 }
theorem gBlind (g : GG) (vals : List Value) (h : Hp) (sz : Nat) : FrameBlind (gPc g vals h sz) := by
  intro a U f mk q
  obtain ⟨q0, q1, qP, qK, qD, qR⟩ := q
  exact ⟨q0, q1, qP, va_K.moved (u := U) (U := U.calling f mk a) (Vm.Alike.refl U.vm) qK, qD, ROk.blind a f mk qR⟩
theorem met_of {g : GG} {mi : MI} (hy : plainName mi.1.cls = true) (hown : mi.2.2.2.2.1 = mi.1.cls) {vals : List Value} (hsl : (lg_sl vals).length ≤ mi.2.2.1) {h : Hp} {Q : Option Value → Hp → Prop} (hM : R g mi 0 (ent vals mi.2.2.1) [] h Q) (sz : Nat) :
    Met (gL g) mi.1 (gWs mi) (gRm mi) (gPc g vals h sz) (gQc g Q h sz) 0 0 (va_A (wl g h) sz) := by
  refine Met.ofW (cc := mi.2.1) (maxL := mi.2.2.1) (ret := mi.2.2.2.1) hy rfl ?_
  intro p e s m args below meth c s₁ B hml hv
  obtain ⟨rfl, hsz, hP, hK, hD0, hRO⟩ := hv
  subst hsz
  have hts := atoms_spec (ws := gWs mi) B.pre
  have hown' : s.vm.findClass mi.1.cls = some m.cls := findClass_of_methodNamed B.named
  have hlocks := B.notSynchronized
  rw [lg_entry_eq]
  refine hM p e _ s m _ below meth c s.heap [] 0 0 (va_A (wl g h) s.heap.size) _ _ ⟨B.exec, B.bytes, hml, by rw [hown]; exact hown', fun w hw => hts w (List.mem_cons_of_mem _ hw), B.returns, B.notSynchronized, hK, hRO, ⟨Nat.le_refl _, Nat.le_refl _, Nat.le_refl _, Nat.le_refl _⟩, fun q hq => Or.inr hq⟩ ⟨hP, hD0.self, va_S.rf⟩ (ent_lvr hsl) ?_
  intro r h' H' locs' pc' ls' hq wo hri
  rcases hri with ⟨rfl, hd, ht⟩ | ⟨v, ty, rfl, hd, ht, hn⟩ | ⟨a, ta, rfl, hd, ht⟩
  · exact W.vret B.exec B.bytes (B.returns.trans ht) (fun t et hW => ⟨⟨none, h', rfl, hq, by rw [et]; exact wo.1⟩, wo.2.2.F et⟩) wo.2.2.2.2 hd
  · exact W.zret B.exec B.bytes (B.returns.trans ht) hn (fun t et hW => ⟨⟨some (.int v), h', rfl, hq, by rw [et]; exact wo.1⟩, wo.2.2.F et⟩) wo.2.2.2.2 hd
  · exact W.aret B.exec B.bytes (B.returns.trans ht) (Or.inr ⟨ta, rfl⟩) (Or.inr ⟨a, rfl⟩) (fun t et hW => ⟨⟨some (.ref a), h', rfl, hq, by rw [et]; exact wo.1⟩, wo.2.2.F et⟩) wo.2.2.2.2 hd
/-- what the tables say of a method that is called -/
def MO (mi : MI) (n : Nat) : Prop := plainName mi.1.cls = true ∧ mi.2.2.2.2.1 = mi.1.cls ∧ Cond.code mi.1 mi.2.1 mi.2.2.1 mi.2.2.2.1 ∈ lw_g ∧ Cond.initialized mi.1.cls ∈ lw_g ∧ (mi.1.cls ≠ "java/lang/invoke/MethodHandle" ∧ mi.1.cls ≠ "java/lang/invoke/VarHandle" ∧ (parseMethodDescriptor mi.1.desc).map (fun d => d.parameters.length) = some n)
theorem gGood {mi : MI} {n : Nat} (hm : MO mi n) : GoodIn lw_g (gWs mi) := by
  intro w hw
  rcases List.mem_cons.mp hw with rfl | hw
  · exact ⟨hm.2.2.1, good_of_word (lw_g_good _ hm.2.2.1)⟩
  · exact ⟨hw, good_of_word (lw_g_good _ hw)⟩
section CALL
variable {g : GG} {mi mj : MI} {pc idx n : Nat} {lv : List (Option Value)} {st : List Value} {h : Hp} {Q Q' : Option Value → Hp → Prop}
theorem r_behind {p : Program} {e : Env} {Rm : Room} {s : State} {m : MethodId} {args : Array Value} {below : List Frame} {meth : Method} {c : Code} {H : Heap} {locs : List Loc} {cells slots : Nat} {A : Nat → Prop} {Z : State → Prop} {ls : Array Slot} {stk : List Value} {a : Array Value}
    (cx : Cx g mi p Rm s m args meth c cells slots A) (wo : Wo g A s h H locs) (hl : lvr ls mi.2.2.1 lv)
    (hret : ∀ (r : Option Value) (h' : Hp) (H' : Heap) (locs' : List Loc) (pc' : Nat) (ls' : Array Slot), Q r h' → Wo g A s h' H' locs' → RetI mi pc' r → W p (gL g) e Rm s m args below meth c H' locs' cells slots Z (F0 m pc' ls' r.toList))
    (hr : va_Run p (gL g) e Rm s m args below meth c H locs cells slots 0 0 (F0 m pc ls stk) st (gQc g Q' h H.size a) (va_A (wl g h) H.size))
    (kk : ∀ r h', Q' r h' → R g mi (pc + 3) lv (r.toList ++ st) h' Q) : W p (gL g) e Rm s m args below meth c H locs cells slots Z (F0 m pc ls stk) := by
  have hF : ∀ q, va_A (wl g h) H.size q → A q := by
    rintro q (⟨k, x, hk⟩ | hq)
    · exact wo.2.1.2 k _ hk
    · exact cx.2.2.2.2.2.2.2.2.2.2 q (Nat.le_trans wo.2.2.1 hq)
  intro T hT X
  obtain ⟨v, st₀, t, T', L, h0, X', hL, e1, e2, ⟨⟨r, h', hv, hq, hP'⟩, hz, hk⟩, stp⟩ := hr T hT X
  cases hv
  rw [h0] at hz hk
  have wo' : Wo g A s h' T'.heap (locs ++ L) := by
    refine ⟨by rw [e1]; exact hP', wl_D wo.2.1, Nat.le_trans wo.2.2.1 (by rw [e1]; exact hz), fun q h1 h2 => ?_, fun q hq => ?_⟩
    · rw [e1, hk q (Nat.lt_of_lt_of_le h1 wo.2.2.1) (fun z => h2 (hF q z))]
      exact wo.2.2.2.1 q h1 h2
    · rcases List.mem_append.mp hq with h | h
      · exact wo.2.2.2.2 q h
      · exact hF _ (hL q h)
  obtain ⟨t2, a1, b1⟩ := kk v h' hq p e Rm s m args below meth c T'.heap (locs ++ L) cells slots A Z ls cx wo' hl hret T' rfl X'
  exact ⟨t2, stp t2 a1, b1⟩
theorem r_pre {p : Program} {Rm : Room} {s : State} {m : MethodId} {args : Array Value} {meth : Method} {c : Code} {H : Heap} {locs : List Loc} {cells slots : Nat} {A : Nat → Prop}
    (cx : Cx g mi p Rm s m args meth c cells slots A) (wo : Wo g A s h H locs) (vals : List Value) : ∀ U : State, U.heap = H → s.WarmedH U.vm → gPc g vals h H.size vals.toArray U := by
  intro U hU hW
  refine ⟨rfl, by rw [hU], by rw [hU]; exact wo.1, va_K.moved hW.alike cx.2.2.2.2.2.2.2.1, wo.2.1.weaken (fun _ _ _ _ => trivial), ?_⟩
  rw [hU]
  refine ROk.to cx.2.2.2.2.2.2.2.2.1 hW wo.2.2.2.1 ?_
  rintro q (⟨k, x, hk⟩ | hq)
  · exact wo.2.1.2 k _ hk
  · exact cx.2.2.2.2.2.2.2.2.2.2 q (Nat.le_trans wo.2.2.1 hq)
theorem r_callV {o ci : Nat} {fs : List (Option Nat)} {T : u_T} {N : Nat} (vals : List Value) (hm : MO mj n) (hw : Cond.methodLink mi.2.2.2.2.1 idx mj.1 ∈ lw_g ∧ Cond.instanceMethod mj.1 ∈ lw_g ∧ Cond.selects mj.1.cls mj.1 mj.1 ∈ lw_g) (hsh : shl[o]? = some (.inr (ci, fs))) (hci : vwCl[ci]? = some (mj.1.cls, T, N))
    (hn : vals.length = n) (hsl : (lg_sl (.ref (ad g o) :: vals)).length ≤ mj.2.2.1) (hroom : mj.2.2.2.2.2.1 + 1 ≤ mi.2.2.2.2.2.1 ∧ 8 + (mj.2.2.1 + 11) + mj.2.2.2.2.2.2 ≤ mi.2.2.2.2.2.2) (hcat : (st.map fun v => v.category).sum ≤ 8)
    (hd : decode mi.2.1 pc = .ok (.invokevirtual idx, 3)) (hM : R g mj 0 (ent (.ref (ad g o) :: vals) mj.2.2.1) [] h Q') (kk : ∀ r h', Q' r h' → R g mi (pc + 3) lv (r.toList ++ st) h' Q) : R g mi pc lv (vals.reverse ++ .ref (ad g o) :: st) h Q := by
  intro p e Rm s m args below meth c H locs cells slots A Z ls cx wo hl hret
  have hrm := cx.2.2.2.2.2.2.2.2.2.1
  have hgood : GoodIn lw_g (wsV mi.2.2.2.2.1 idx mj.1.cls mj.1 (gWs mj)) := by
    intro w h1
    rcases List.mem_append.mp h1 with h1 | h1
    · have h2 : w ∈ lw_g := by
        rcases List.mem_cons.mp h1 with rfl | h1
        · exact hw.1
        rcases List.mem_cons.mp h1 with rfl | h1
        · exact hw.2.1
        rcases List.mem_cons.mp h1 with rfl | h1
        · exact hw.2.2
        rcases List.mem_cons.mp h1 with rfl | h1
        · exact hm.2.2.2.1
        · cases h1
      exact ⟨h2, good_of_word (lw_g_good _ h2)⟩
    · exact gGood hm w h1
  have cw := cwV (R := Rm) (s := s) (args := args) (own := mi.2.2.2.2.1) (index := idx) (C := mj.1.cls) (y := mj.1) (bytes := mj.2.1) (maxL := mj.2.2.1) (ret := mj.2.2.2.1) (ws := gWs mj) (ws' := lw_g) (rm := gRm mj) (mc := 0) (ms := 0) n cx.2.2.2.2.1 hgood rfl rfl rfl ⟨rfl, hm.2.2.2.2⟩ ⟨by show mj.2.2.2.2.2.1 + 1 ≤ _; omega, by show _ + mj.2.2.2.2.2.2 ≤ _; omega⟩
  refine r_behind cx wo hl hret (va_runV (As := vals) (rest := st) (b := ad g o) ⟨cx.1, cx.2.1, cx.2.2.1, cx.2.2.2.1, cx.2.2.2.2.1⟩ (met_of hm.1 hm.2.1 hsl hM H.size) cw ⟨gBlind _ _ _ _, va_recv cx.2.2.2.2.2.2.2.1 wo.1 hci (wl_at hsh), r_pre cx wo (.ref (ad g o) :: vals)⟩ rfl hn hl.1 rfl (lv_room hcat) hd ⟨hrm.2.2.1, hrm.2.2.2⟩) kk
theorem r_callS (vals : List Value) (hm : MO mj n) (hw : Cond.methodLink mi.2.2.2.2.1 idx mj.1 ∈ lw_g ∧ Cond.static mj.1 ∈ lw_g)
    (hn : vals.length = n) (hsl : (lg_sl vals).length ≤ mj.2.2.1) (hroom : mj.2.2.2.2.2.1 + 1 ≤ mi.2.2.2.2.2.1 ∧ 8 + (mj.2.2.1 + 11) + mj.2.2.2.2.2.2 ≤ mi.2.2.2.2.2.2) (hcat : (st.map fun v => v.category).sum ≤ 8)
    (hd : decode mi.2.1 pc = .ok (.invokestatic idx, 3)) (hM : R g mj 0 (ent vals mj.2.2.1) [] h Q') (kk : ∀ r h', Q' r h' → R g mi (pc + 3) lv (r.toList ++ st) h' Q) : R g mi pc lv (vals.reverse ++ st) h Q := by
  intro p e Rm s m args below meth c H locs cells slots A Z ls cx wo hl hret
  have hrm := cx.2.2.2.2.2.2.2.2.2.1
  have hgood : GoodIn lw_g (va_wsS mi.2.2.2.2.1 idx mj.1 (gWs mj)) := by
    intro w h1
    rcases List.mem_append.mp h1 with h1 | h1
    · have h2 : w ∈ lw_g := by
        rcases List.mem_cons.mp h1 with rfl | h1
        · exact hw.1
        rcases List.mem_cons.mp h1 with rfl | h1
        · exact hw.2
        rcases List.mem_cons.mp h1 with rfl | h1
        · exact hm.2.2.2.1
        · cases h1
      exact ⟨h2, good_of_word (lw_g_good _ h2)⟩
    · exact gGood hm w h1
  have cw := va_cwS (R := Rm) (s := s) (args := args) (own := mi.2.2.2.2.1) (index := idx) (y := mj.1) (bytes := mj.2.1) (maxL := mj.2.2.1) (ret := mj.2.2.2.1) (ws := gWs mj) (ws' := lw_g) (rm := gRm mj) (mc := 0) (ms := 0) n cx.2.2.2.2.1 hgood rfl rfl rfl hm.2.2.2.2 ⟨by show mj.2.2.2.2.2.1 + 1 ≤ _; omega, by show _ + mj.2.2.2.2.2.2 ≤ _; omega⟩
  refine r_behind cx wo hl hret (va_runS (As := vals) (rest := st) ⟨cx.1, cx.2.1, cx.2.2.1, cx.2.2.2.1, cx.2.2.2.2.1⟩ (met_of hm.1 hm.2.1 hsl hM H.size) cw ⟨gBlind _ _ _ _, r_pre cx wo vals⟩ rfl hn hl.1 rfl (lv_room hcat) hd ⟨hrm.2.2.1, hrm.2.2.2⟩) kk
end CALL
