/-! THE SMALL MACHINE: what a method does to the 78 cells, told as a function of their ints; one row an instruction. -/
abbrev Hp : Type := Nat → Nat → Int32
/-- what one run of the law fixes: the launch, class numbers and slots, the cells' addresses, the class of int rows, the rows that nobody writes -/
abbrev GG : Type := Launch × va_G × (Nat → Nat) × ClassId × (Nat → Nat) × (Nat → Nat → Int32)
def ad (g : GG) (k : Nat) : Nat := g.2.2.1 k
abbrev gL (g : GG) : Launch := g.1
abbrev gD (g : GG) : va_G := g.2.1
abbrev gA (g : GG) : ClassId := g.2.2.2.1
def roN (g : GG) : Nat → Nat := g.2.2.2.2.1
def ro (g : GG) : Nat → Nat → Int32 := g.2.2.2.2.2
abbrev ShE : Type := Nat ⊕ (Nat × List (Option Nat))
/-- the 78 cells: a row of ints and its length, or an object: its class, its fields (an int, or the cell that it names) -/
def shl : List ShE := [
  .inr (8, [some 1, some 20, some 3, some 2, some 39, some 42, some 47, some 54, some 56, some 59]),
  .inr (2, [some 2, some 3, some 17]),
  .inr (0, [some 3, some 8, some 15, some 16]),
  .inr (3, [none, none, none, none, some 4, some 5, some 6, some 7]), .inl 6, .inl 6, .inl 6, .inl 6,
  .inr (4, [some 9, some 10, some 11, some 12, some 13, some 14]), .inl 6, .inl 6, .inl 6, .inl 6, .inl 6, .inl 6,
  .inl 203, .inl 1218,
  .inr (6, [none, none, some 18, some 19]), .inl 6, .inl 6,
  .inr (2, [some 21, some 22, some 36]),
  .inr (0, [some 22, some 27, some 34, some 35]),
  .inr (3, [none, none, none, none, some 23, some 24, some 25, some 26]), .inl 6, .inl 6, .inl 6, .inl 6,
  .inr (4, [some 28, some 29, some 30, some 31, some 32, some 33]), .inl 6, .inl 6, .inl 6, .inl 6, .inl 6, .inl 6,
  .inl 203, .inl 1218,
  .inr (6, [none, none, some 37, some 38]), .inl 6, .inl 6,
  .inr (7, [some 40, some 41]), .inl 609, .inl 609,
  .inr (1, [some 43, none, none, none, none, none, some 46]),
  .inr (6, [none, none, some 44, some 45]), .inl 6, .inl 6, .inl 501,
  .inr (4, [some 48, some 49, some 50, some 51, some 52, some 53]), .inl 6, .inl 6, .inl 6, .inl 6, .inl 6, .inl 6,
  .inr (5, [none, some 55]), .inl 20,
  .inr (6, [none, none, some 57, some 58]), .inl 6, .inl 6,
  .inr (6, [none, none, some 60, some 61]), .inl 6, .inl 6,
  .inr (9, [some 63, none, none, none, some 64, some 65, some 66, none, some 67, some 68, some 69, some 70, some 71, some 72, some 73, some 74, some 75, some 76, some 77, none, none]),
  .inl 24, .inl 6, .inl 6, .inl 20, .inl 8, .inl 6, .inl 6, .inl 6, .inl 6, .inl 6, .inl 6, .inl 6, .inl 6, .inl 6, .inl 501]
def fv (g : GG) (h : Hp) (k i : Nat) (f : Option Nat) : Value := match f with
  | none => .int (h k i)
  | some j => .ref (ad g j)
def cel (g : GG) (h : Hp) (k : Nat) (e : ShE) : va_E := match e with
  | .inl n => .inl (gA g, n, .inl (h k))
  | .inr o => .inr (o.1, o.2.mapIdx (fun i f => fv g h k i f))
def wl (g : GG) (h : Hp) : va_W := shl.mapIdx (fun k e => (ad g k, cel g h k e))
def hset (h : Hp) (o i : Nat) (x : Int32) : Hp := fun q => if q = o then upd (h o) i x else h q
theorem hset_same (h : Hp) (o i : Nat) (x : Int32) : hset h o i x o = upd (h o) i x := by simp [hset]
theorem hset_ne {h : Hp} {o i q : Nat} {x : Int32} (hq : ¬ q = o) : hset h o i x q = h q := by simp [hset, hq]
theorem wl_at {g : GG} {h : Hp} {k : Nat} {e : ShE} (hk : shl[k]? = some e) : (wl g h)[k]? = some (ad g k, cel g h k e) := by
  unfold wl
  rw [List.getElem?_mapIdx, hk]
  rfl
theorem wl_inv {g : GG} {h : Hp} {k : Nat} {q : Nat × va_E} (hk : (wl g h)[k]? = some q) : ∃ e, shl[k]? = some e ∧ q = (ad g k, cel g h k e) := by
  unfold wl at hk
  rw [List.getElem?_mapIdx] at hk
  cases he : shl[k]? with
  | none => rw [he] at hk; cases hk
  | some e =>
    rw [he] at hk
    exact ⟨e, rfl, (Option.some.inj hk).symm⟩
theorem cel_congr {g : GG} {h h' : Hp} {k : Nat} (hk : h k = h' k) (e : ShE) : cel g h k e = cel g h' k e := by
  cases e with
  | inl n => simp only [cel, hk]
  | inr o => simp only [cel, fv, hk]
theorem wl_len (g : GG) (h : Hp) : (wl g h).length = shl.length := by simp [wl]
theorem wl_ext {g : GG} {h' : Hp} {ws : va_W} (hl : ws.length = shl.length) (hw : ∀ k e, shl[k]? = some e → ws[k]? = some (ad g k, cel g h' k e)) : ws = wl g h' := by
  apply List.ext_getElem?
  intro k
  cases he : shl[k]? with
  | none =>
    have h1 : shl.length ≤ k := List.getElem?_eq_none_iff.mp he
    rw [List.getElem?_eq_none_iff.mpr (by omega), List.getElem?_eq_none_iff.mpr (by rw [wl_len]; omega)]
  | some e => rw [hw k e he, wl_at he]
theorem wl_set_arr {g : GG} {h : Hp} {o n i : Nat} {x : Int32} (ho : shl[o]? = some (.inl n)) : (wl g h).set o (ad g o, .inl (gA g, n, .inl (upd (h o) i x))) = wl g (hset h o i x) := by
  apply wl_ext (by rw [List.length_set, wl_len])
  intro k e he
  by_cases hk : k = o
  · subst hk
    rw [ho] at he
    cases he
    rw [List.getElem?_set_self (by rw [wl_len]; exact (List.getElem?_eq_some_iff.mp ho).1)]
    simp only [cel, hset_same]
  · rw [List.getElem?_set_ne (fun q => hk q.symm), wl_at he, cel_congr (hset_ne hk).symm]
theorem wl_set_fld {g : GG} {h : Hp} {o ci i : Nat} {fs : List (Option Nat)} {x : Int32} (ho : shl[o]? = some (.inr (ci, fs))) (hf : fs[i]? = some none) : (wl g h).set o (ad g o, .inr (ci, (fs.mapIdx (fun i f => fv g h o i f)).set i (.int x))) = wl g (hset h o i x) := by
  apply wl_ext (by rw [List.length_set, wl_len])
  intro k e he
  by_cases hk : k = o
  · subst hk
    rw [ho] at he
    cases he
    rw [List.getElem?_set_self (by rw [wl_len]; exact (List.getElem?_eq_some_iff.mp ho).1)]
    simp only [cel]
    refine congrArg (fun z => some (ad g k, Sum.inr (ci, z))) ?_
    apply List.ext_getElem?
    intro j
    by_cases hj : j = i
    · subst hj
      rw [List.getElem?_set_self (by rw [List.length_mapIdx]; exact (List.getElem?_eq_some_iff.mp hf).1), List.getElem?_mapIdx, hf]
      simp [fv, hset_same, upd]
    · rw [List.getElem?_set_ne (fun q => hj q.symm), List.getElem?_mapIdx, List.getElem?_mapIdx]
      cases fs[j]? with
      | none => rfl
      | some f =>
        cases f with
        | none => simp [fv, hset_same, upd, hj]
        | some q => rfl
  · rw [List.getElem?_set_ne (fun q => hk q.symm), wl_at he, cel_congr (hset_ne hk).symm]
theorem wl_D {g : GG} {h h' : Hp} {A : Nat → Prop} (hD : va_D A (wl g h)) : va_D A (wl g h') := by
  have key : ∀ (k : Nat) (q : Nat × va_E), (wl g h')[k]? = some q → ∃ q', (wl g h)[k]? = some q' ∧ q'.1 = q.1 := by
    intro k q hq
    obtain ⟨e, he, rfl⟩ := wl_inv hq
    exact ⟨_, wl_at he, rfl⟩
  refine ⟨fun i j a b ha hb hab => ?_, fun k q hk => ?_⟩
  · obtain ⟨a', ha', ea⟩ := key i a ha
    obtain ⟨b', hb', eb⟩ := key j b hb
    exact hD.1 i j a' b' ha' hb' (by rw [ea, eb, hab])
  · obtain ⟨q', hq', eq'⟩ := key k q hk
    rw [← eq']
    exact hD.2 k q' hq'
/-! a method: its name, code, locals, answer, class, the frames and words that it needs below -/
abbrev MI : Type := MethodName × ByteArray × Nat × Option FieldType × String × Nat × Nat
def lw_g : List Cond := lw_tbl.filter goodWord
theorem lw_g_good : ∀ w ∈ lw_g, goodWord w = true := fun w h => (List.mem_filter.mp h).2
theorem lw_g_in : ∀ w ∈ lw_g, w ∈ lw_tbl := fun w h => (List.mem_filter.mp h).1
def wNest : Cond := .fieldLinkNest "LandUnions$Parting" 44 "LandUnions" "WAYS" "[I" "LandUnions"
def ROk (g : GG) (A : Nat → Prop) (U : State) (H : Heap) : Prop :=
  va_Z "LandUnions" "PARTINGS" "[I" (.ref (ad g 1000)) A U H ∧ va_Z "LandUnions" "WAYS" "[I" (.ref (ad g 1001)) A U H ∧ (∀ k, 1000 ≤ k → k < 1003 → va_T .int (ad g k) (roN g k) (fun j => .int (ro g k j)) A U H) ∧ va_Nw wNest U
def Cx (g : GG) (mi : MI) (p : Program) (Rm : Room) (s : State) (m : MethodId) (args : Array Value) (meth : Method) (c : Code) (cells slots : Nat) (A : Nat → Prop) : Prop :=
  p.tables.exec = Jvm.exec ∧ c.code = mi.2.1 ∧ c.maxLocals = mi.2.2.1 ∧ s.vm.findClass mi.2.2.2.2.1 = some m.cls ∧ (∀ w ∈ lw_g, w.before args s = true) ∧ meth.sig.returnType = mi.2.2.2.1 ∧ meth.locks = false ∧ va_K (gD g) vwCl [(gA g, .int)] s ∧ ROk g A s s.heap ∧
  (mi.2.2.2.2.2.1 ≤ Rm.frames ∧ mi.2.2.2.2.2.2 ≤ Rm.locals ∧ cells ≤ Rm.cells ∧ slots ≤ Rm.slots) ∧ (∀ q, s.heap.size ≤ q → A q)
def Wo (g : GG) (A : Nat → Prop) (s : State) (h : Hp) (H : Heap) (locs : List Loc) : Prop := va_P (gD g) vwCl (wl g h) H ∧ va_D A (wl g h) ∧ va_S A s.heap H locs
def lvr (ls : Array Slot) (nL : Nat) (lv : List (Option Value)) : Prop := ls.size = nL ∧ lv_wf ls ∧ ∀ (i : Nat) (v : Value), lv[i]? = some (some v) → ls[i]? = some (.val v)
def RetI (mi : MI) (pc : Nat) (r : Option Value) : Prop :=
  (r = none ∧ decode mi.2.1 pc = .ok (.return_, 1) ∧ mi.2.2.2.1 = none) ∨ (∃ v ty, r = some (.int v) ∧ decode mi.2.1 pc = .ok (.ireturn, 1) ∧ mi.2.2.2.1 = some ty ∧ narrow ty (.int v) = .int v) ∨ ∃ a t, r = some (.ref a) ∧ decode mi.2.1 pc = .ok (.areturn, 1) ∧ mi.2.2.2.1 = some (.array t)
/-- from the instruction pc of the method mi, with these locals, this stack, these ints in the cells, it returns, and Q holds of the answer and the ints -/
def R (g : GG) (mi : MI) (pc : Nat) (lv : List (Option Value)) (st : List Value) (h : Hp) (Q : Option Value → Hp → Prop) : Prop :=
  ∀ (p : Program) (e : Env) (Rm : Room) (s : State) (m : MethodId) (args : Array Value) (below : List Frame) (meth : Method) (c : Code) (H : Heap) (locs : List Loc) (cells slots : Nat) (A : Nat → Prop) (Z : State → Prop) (ls : Array Slot),
    Cx g mi p Rm s m args meth c cells slots A → Wo g A s h H locs → lvr ls mi.2.2.1 lv →
    (∀ (r : Option Value) (h' : Hp) (H' : Heap) (locs' : List Loc) (pc' : Nat) (ls' : Array Slot), Q r h' → Wo g A s h' H' locs' → RetI mi pc' r → W p (gL g) e Rm s m args below meth c H' locs' cells slots Z (F0 m pc' ls' r.toList)) →
    W p (gL g) e Rm s m args below meth c H locs cells slots Z (F0 m pc ls st)
def lvl (lv : List (Option Value)) : List (Nat × Value) := (List.range lv.length).filterMap (fun j => match lv[j]? with
  | some (some v) => some (j, v)
  | _ => none)
theorem lvl_mem {lv : List (Option Value)} {j : Nat} {v : Value} : (j, v) ∈ lvl lv ↔ lv[j]? = some (some v) := by
  unfold lvl
  rw [List.mem_filterMap]
  constructor
  · rintro ⟨k, -, hk⟩
    split at hk
    next w hw => cases hk; exact hw
    next => cases hk
  · intro h
    refine ⟨j, List.mem_range.mpr (List.getElem?_eq_some_iff.mp h).1, ?_⟩
    rw [h]
theorem lvr_has {ls : Array Slot} {nL : Nat} {lv : List (Option Value)} (h : lvr ls nL lv) : lv_has ls nL (lvl lv) := ⟨h.1, h.2.1, fun q hq => h.2.2 q.1 q.2 (lvl_mem.mp hq)⟩
def cat1 (o : Option Value) : Bool := match o with
  | some v => v.category == 1
  | none => true
theorem lvr_back {ls : Array Slot} {nL i : Nat} {lv : List (Option Value)} {v : Value} (hp : ∀ j w, j + 1 = i → lv[j]? = some (some w) → w.category = 1) (h : lv_has ls nL ((i, v) :: (lvl lv).filter (fun q => !(q.1 == i) && !(q.1 + 1 == i && q.2.category == 2)))) : lvr ls nL (lv.set i (some v)) := by
  refine ⟨h.1, h.2.1, fun j w hj => ?_⟩
  by_cases hji : j = i
  · subst hji
    by_cases hlt : j < lv.length
    · rw [List.getElem?_set_self hlt] at hj
      cases hj
      exact h.2.2 (j, v) List.mem_cons_self
    · rw [List.getElem?_eq_none_iff.mpr (by rw [List.length_set]; omega)] at hj
      cases hj
  · rw [List.getElem?_set_ne (fun q => hji q.symm)] at hj
    refine h.2.2 (j, w) (List.mem_cons_of_mem _ (List.mem_filter.mpr ⟨lvl_mem.mpr hj, ?_⟩))
    by_cases hj2 : j + 1 = i
    · have := hp j w hj2 hj
      simp [hji, this]
    · simp [hji, hj2]
