/-! THE CLAIM OUT OF ONE WALK OF THE LAW'S BODY. Your part is whole_start (and what it stands on); all else here is the same for every law, but numbers. -/
def R_law : String := "LandUnionsLaw"
def lw_P (b : Addr) (xs : List Int32) (args : Array Value) (s : State) : Prop := args = #[.ref b] ∧ s.IntsAt b xs ∧ xs.length ≤ 2560 ∧ (Jvm.Cond.and given_1 narrow_1).before args s = true
def lw_Q (_ : Array Value) (s : State) (o : Outcome) (t : State) : Prop := o = .returned (some (.int 1)) ∧ Framed s o t [] 78 5526
def lw_Z (below : List Frame) (a : Array Value) (s : State) : State → Prop := fun t => ∃ o, t.status = .running ∧ Ended t below o ∧ lw_Q a s o t
/-- the law's own end, with 1 on the stack, nothing written that was there before, its room as the claim has it -/
theorem lw_ret {p : Program} {l : Launch} {e : Env} {s : State} {m : MethodId} {below : List Frame} {meth : Method} {c : Code} {b : Nat} (hx : p.tables.exec = Jvm.exec) (hb : c.code = code) (hr : meth.sig.returnType = ret) (hlocks : meth.locks = false) {pc : Nat} {H : Heap} {ls : Array Slot} (hdg : decode code pc = .ok (.ireturn, 1)) : W p l e room_1 s m #[Value.ref b] below meth c H [] 78 5526 (lw_Z below #[Value.ref b] s) (F0 m pc ls [.int 1]) := by
  intro T hT X
  obtain ⟨fs, hret, hrun, hended, hW, hframe⟩ := X.leave (v := some (.int 1)) (hlocks := hlocks) (fun h => by rw [hr] at h; cases h)
  have hmeth' : T.vm.method? m = some meth := X.method'
  refine ⟨T.setFrames fs, ?_, .returned (some (.int 1)), hrun, hended, rfl, ⟨_, rfl⟩, hW, hframe⟩
  jvm_step X.here [X.here.top, hx, hb, hdg, hmeth', hr, ret, narrow_b1]
  (try refine ⟨rfl, ?_⟩); (try refine ⟨rfl, ?_⟩)
  first | (intro acts; rw [hret _ acts rfl rfl rfl]) | rw [hret _ _ rfl rfl rfl]
  exact Steps.refl _
/-- what holds at the law's entry: the machine, the code, the tables' words (any of lw_tbl by 'hts w (by decide +kernel)'), the script of L ints xs at the cell b, what the Statement gives of the start (any of its parts by flat_of_before) -/
def lw_At (p : Program) (s : State) (m : MethodId) (meth : Method) (c : Code) (b L : Nat) (xs : Nat → Int32) : Prop :=
  p.tables.exec = Jvm.exec ∧ c.code = code ∧ meth.sig.returnType = ret ∧ c.maxLocals = 4 ∧ s.vm.findClass R_law = some m.cls ∧ (∀ w ∈ lw_tbl, w.before #[Value.ref b] s = true) ∧ va_X b L xs s s.heap ∧ b < s.heap.size ∧ meth.locks = false ∧ (Jvm.Cond.and given_1 narrow_1).before #[Value.ref b] s = true
set_option maxRecDepth 20000 in
theorem wcL_7 : Cond.classLink RL 7 RX8 ∈ lw_g := lw_ix 12 (by decide +kernel) rfl
set_option maxRecDepth 20000 in
theorem wcL_10 : Cond.classLink RL 10 RX9 ∈ lw_g := lw_ix 572 (by decide +kernel) rfl
set_option maxRecDepth 20000 in
theorem wmL_9 : Cond.methodLink RL 9 yX8_init ∈ lw_g := lw_ix 14 (by decide +kernel) rfl
set_option maxRecDepth 20000 in
theorem wmL_12 : Cond.methodLink RL 12 yX9_init ∈ lw_g := lw_ix 574 (by decide +kernel) rfl
set_option maxRecDepth 20000 in
theorem tNest : wNest ∈ lw_tbl := List.mem_append_right _ (List.mem_of_getElem? (i := 382) (by decide +kernel))
set_option maxRecDepth 20000 in
theorem tWay : Cond.laysStatic "LandUnions" "WAYS" "[I" ∈ lw_tbl := List.mem_append_right _ (List.mem_of_getElem? (i := 383) (by decide +kernel))
set_option maxRecDepth 20000 in
theorem tPar : Cond.laysStatic "LandUnions" "PARTINGS" "[I" ∈ lw_tbl := List.mem_append_right _ (List.mem_of_getElem? (i := 401) (by decide +kernel))
set_option maxRecDepth 20000 in
theorem tNl : ∀ q ∈ nl, Cond.methodLinkNest q.1 q.2.1 q.2.2 "LandUnions" ∈ lw_tbl := by decide +kernel
set_option maxRecDepth 100000 in
theorem el_way : ∀ j, j < 36 → Cond.eq (Term.elem (Term.static "LandUnions" "WAYS" "[I") (.int (Int32.ofNat j))) (.int (nI (way j))) ∈ flatC (Jvm.Cond.and given_1 narrow_1) := by decide +kernel
set_option maxRecDepth 100000 in
theorem le_way : Cond.eq (Term.length (Term.static "LandUnions" "WAYS" "[I")) (.int (Int32.ofNat 36)) ∈ flatC (Jvm.Cond.and given_1 narrow_1) ∧ Cond.arrayOf (Term.static "LandUnions" "WAYS" "[I") .int ∈ flatC (Jvm.Cond.and given_1 narrow_1) := by decide +kernel
theorem st_way {args : Array Value} {s : State} {A : Nat → Prop} (hgv : (Jvm.Cond.and given_1 narrow_1).before args s = true) (hA : ∀ a : Nat, a < s.heap.size → ¬ A a) : ∃ t : Nat, (Term.static "LandUnions" "WAYS" "[I").eval args s none [] s = some (.ref t) ∧ va_T .int t 36 (fun j => .int (nI (way j))) A s s.heap := by
  have hs := flat_of_before _ hgv
  exact va_Tof (by decide) (hs _ le_way.2) (va_eqt (hs _ le_way.1)) (fun j hj => va_eqt (hs _ (el_way j hj))) hA
set_option maxRecDepth 100000 in
theorem el_bell : ∀ j, j < 7 → Cond.eq (Term.elem (Term.static "LandUnions" "PARTINGS" "[I") (.int (Int32.ofNat j))) (.int (nI (bell j))) ∈ flatC (Jvm.Cond.and given_1 narrow_1) := by decide +kernel
set_option maxRecDepth 100000 in
theorem le_bell : Cond.eq (Term.length (Term.static "LandUnions" "PARTINGS" "[I")) (.int (Int32.ofNat 7)) ∈ flatC (Jvm.Cond.and given_1 narrow_1) ∧ Cond.arrayOf (Term.static "LandUnions" "PARTINGS" "[I") .int ∈ flatC (Jvm.Cond.and given_1 narrow_1) := by decide +kernel
theorem st_bell {args : Array Value} {s : State} {A : Nat → Prop} (hgv : (Jvm.Cond.and given_1 narrow_1).before args s = true) (hA : ∀ a : Nat, a < s.heap.size → ¬ A a) : ∃ t : Nat, (Term.static "LandUnions" "PARTINGS" "[I").eval args s none [] s = some (.ref t) ∧ va_T .int t 7 (fun j => .int (nI (bell j))) A s s.heap := by
  have hs := flat_of_before _ hgv
  exact va_Tof (by decide) (hs _ le_bell.2) (va_eqt (hs _ le_bell.1)) (fun j hj => va_eqt (hs _ (el_bell j hj))) hA
/-- the ints at the start -/
def h00 : Hp := fun k => if k = 3 ∨ k = 22 then (fun i => if i = 3 then 1 else 0) else fun _ => 0
def gg (l : Launch) (D : va_G) (ac : ClassId) (a8 a9 : Nat → Nat) (tP tW b L : Nat) (xs : Nat → Int32) : GG := (l, D, (fun k => if k < 62 then a8 k else if k < 78 then a9 (k - 62) else if k = 1000 then tP else if k = 1001 then tW else b), ac, (fun k => if k = 1000 then 7 else if k = 1001 then 36 else L), fun k j => if k = 1000 then nI (bell j) else if k = 1001 then nI (way j) else xs j)
set_option maxRecDepth 100000 in
set_option maxHeartbeats 4000000 in
theorem wl_gg (l : Launch) (D : va_G) (ac : ClassId) (a8 a9 : Nat → Nat) (tP tW b L : Nat) (xs : Nat → Int32) : wX8 ac a8 ++ wX9 ac a9 = wl (gg l D ac a8 a9 tP tW b L xs) h00 := by
  apply wl_ext rfl
  intro k e he
  match k, he with
  | 0, he => cases he; simp only [cel, List.mapIdx_cons, List.mapIdx_nil, fv]; rfl
  | 1, he => cases he; simp only [cel, List.mapIdx_cons, List.mapIdx_nil, fv]; rfl
  | 2, he => cases he; simp only [cel, List.mapIdx_cons, List.mapIdx_nil, fv]; rfl
  | 3, he => cases he; simp only [cel, List.mapIdx_cons, List.mapIdx_nil, fv]; rfl
  | 4, he => cases he; simp only [cel, List.mapIdx_cons, List.mapIdx_nil, fv]; rfl
  | 5, he => cases he; simp only [cel, List.mapIdx_cons, List.mapIdx_nil, fv]; rfl
  | 6, he => cases he; simp only [cel, List.mapIdx_cons, List.mapIdx_nil, fv]; rfl
  | 7, he => cases he; simp only [cel, List.mapIdx_cons, List.mapIdx_nil, fv]; rfl
  | 8, he => cases he; simp only [cel, List.mapIdx_cons, List.mapIdx_nil, fv]; rfl
  | 9, he => cases he; simp only [cel, List.mapIdx_cons, List.mapIdx_nil, fv]; rfl
  | 10, he => cases he; simp only [cel, List.mapIdx_cons, List.mapIdx_nil, fv]; rfl
  | 11, he => cases he; simp only [cel, List.mapIdx_cons, List.mapIdx_nil, fv]; rfl
  | 12, he => cases he; simp only [cel, List.mapIdx_cons, List.mapIdx_nil, fv]; rfl
  | 13, he => cases he; simp only [cel, List.mapIdx_cons, List.mapIdx_nil, fv]; rfl
  | 14, he => cases he; simp only [cel, List.mapIdx_cons, List.mapIdx_nil, fv]; rfl
  | 15, he => cases he; simp only [cel, List.mapIdx_cons, List.mapIdx_nil, fv]; rfl
  | 16, he => cases he; simp only [cel, List.mapIdx_cons, List.mapIdx_nil, fv]; rfl
  | 17, he => cases he; simp only [cel, List.mapIdx_cons, List.mapIdx_nil, fv]; rfl
  | 18, he => cases he; simp only [cel, List.mapIdx_cons, List.mapIdx_nil, fv]; rfl
  | 19, he => cases he; simp only [cel, List.mapIdx_cons, List.mapIdx_nil, fv]; rfl
  | 20, he => cases he; simp only [cel, List.mapIdx_cons, List.mapIdx_nil, fv]; rfl
  | 21, he => cases he; simp only [cel, List.mapIdx_cons, List.mapIdx_nil, fv]; rfl
  | 22, he => cases he; simp only [cel, List.mapIdx_cons, List.mapIdx_nil, fv]; rfl
  | 23, he => cases he; simp only [cel, List.mapIdx_cons, List.mapIdx_nil, fv]; rfl
  | 24, he => cases he; simp only [cel, List.mapIdx_cons, List.mapIdx_nil, fv]; rfl
  | 25, he => cases he; simp only [cel, List.mapIdx_cons, List.mapIdx_nil, fv]; rfl
  | 26, he => cases he; simp only [cel, List.mapIdx_cons, List.mapIdx_nil, fv]; rfl
  | 27, he => cases he; simp only [cel, List.mapIdx_cons, List.mapIdx_nil, fv]; rfl
  | 28, he => cases he; simp only [cel, List.mapIdx_cons, List.mapIdx_nil, fv]; rfl
  | 29, he => cases he; simp only [cel, List.mapIdx_cons, List.mapIdx_nil, fv]; rfl
  | 30, he => cases he; simp only [cel, List.mapIdx_cons, List.mapIdx_nil, fv]; rfl
  | 31, he => cases he; simp only [cel, List.mapIdx_cons, List.mapIdx_nil, fv]; rfl
  | 32, he => cases he; simp only [cel, List.mapIdx_cons, List.mapIdx_nil, fv]; rfl
  | 33, he => cases he; simp only [cel, List.mapIdx_cons, List.mapIdx_nil, fv]; rfl
  | 34, he => cases he; simp only [cel, List.mapIdx_cons, List.mapIdx_nil, fv]; rfl
  | 35, he => cases he; simp only [cel, List.mapIdx_cons, List.mapIdx_nil, fv]; rfl
  | 36, he => cases he; simp only [cel, List.mapIdx_cons, List.mapIdx_nil, fv]; rfl
  | 37, he => cases he; simp only [cel, List.mapIdx_cons, List.mapIdx_nil, fv]; rfl
  | 38, he => cases he; simp only [cel, List.mapIdx_cons, List.mapIdx_nil, fv]; rfl
  | 39, he => cases he; simp only [cel, List.mapIdx_cons, List.mapIdx_nil, fv]; rfl
  | 40, he => cases he; simp only [cel, List.mapIdx_cons, List.mapIdx_nil, fv]; rfl
  | 41, he => cases he; simp only [cel, List.mapIdx_cons, List.mapIdx_nil, fv]; rfl
  | 42, he => cases he; simp only [cel, List.mapIdx_cons, List.mapIdx_nil, fv]; rfl
  | 43, he => cases he; simp only [cel, List.mapIdx_cons, List.mapIdx_nil, fv]; rfl
  | 44, he => cases he; simp only [cel, List.mapIdx_cons, List.mapIdx_nil, fv]; rfl
  | 45, he => cases he; simp only [cel, List.mapIdx_cons, List.mapIdx_nil, fv]; rfl
  | 46, he => cases he; simp only [cel, List.mapIdx_cons, List.mapIdx_nil, fv]; rfl
  | 47, he => cases he; simp only [cel, List.mapIdx_cons, List.mapIdx_nil, fv]; rfl
  | 48, he => cases he; simp only [cel, List.mapIdx_cons, List.mapIdx_nil, fv]; rfl
  | 49, he => cases he; simp only [cel, List.mapIdx_cons, List.mapIdx_nil, fv]; rfl
  | 50, he => cases he; simp only [cel, List.mapIdx_cons, List.mapIdx_nil, fv]; rfl
  | 51, he => cases he; simp only [cel, List.mapIdx_cons, List.mapIdx_nil, fv]; rfl
  | 52, he => cases he; simp only [cel, List.mapIdx_cons, List.mapIdx_nil, fv]; rfl
  | 53, he => cases he; simp only [cel, List.mapIdx_cons, List.mapIdx_nil, fv]; rfl
  | 54, he => cases he; simp only [cel, List.mapIdx_cons, List.mapIdx_nil, fv]; rfl
  | 55, he => cases he; simp only [cel, List.mapIdx_cons, List.mapIdx_nil, fv]; rfl
  | 56, he => cases he; simp only [cel, List.mapIdx_cons, List.mapIdx_nil, fv]; rfl
  | 57, he => cases he; simp only [cel, List.mapIdx_cons, List.mapIdx_nil, fv]; rfl
  | 58, he => cases he; simp only [cel, List.mapIdx_cons, List.mapIdx_nil, fv]; rfl
  | 59, he => cases he; simp only [cel, List.mapIdx_cons, List.mapIdx_nil, fv]; rfl
  | 60, he => cases he; simp only [cel, List.mapIdx_cons, List.mapIdx_nil, fv]; rfl
  | 61, he => cases he; simp only [cel, List.mapIdx_cons, List.mapIdx_nil, fv]; rfl
  | 62, he => cases he; simp only [cel, List.mapIdx_cons, List.mapIdx_nil, fv]; rfl
  | 63, he => cases he; simp only [cel, List.mapIdx_cons, List.mapIdx_nil, fv]; rfl
  | 64, he => cases he; simp only [cel, List.mapIdx_cons, List.mapIdx_nil, fv]; rfl
  | 65, he => cases he; simp only [cel, List.mapIdx_cons, List.mapIdx_nil, fv]; rfl
  | 66, he => cases he; simp only [cel, List.mapIdx_cons, List.mapIdx_nil, fv]; rfl
  | 67, he => cases he; simp only [cel, List.mapIdx_cons, List.mapIdx_nil, fv]; rfl
  | 68, he => cases he; simp only [cel, List.mapIdx_cons, List.mapIdx_nil, fv]; rfl
  | 69, he => cases he; simp only [cel, List.mapIdx_cons, List.mapIdx_nil, fv]; rfl
  | 70, he => cases he; simp only [cel, List.mapIdx_cons, List.mapIdx_nil, fv]; rfl
  | 71, he => cases he; simp only [cel, List.mapIdx_cons, List.mapIdx_nil, fv]; rfl
  | 72, he => cases he; simp only [cel, List.mapIdx_cons, List.mapIdx_nil, fv]; rfl
  | 73, he => cases he; simp only [cel, List.mapIdx_cons, List.mapIdx_nil, fv]; rfl
  | 74, he => cases he; simp only [cel, List.mapIdx_cons, List.mapIdx_nil, fv]; rfl
  | 75, he => cases he; simp only [cel, List.mapIdx_cons, List.mapIdx_nil, fv]; rfl
  | 76, he => cases he; simp only [cel, List.mapIdx_cons, List.mapIdx_nil, fv]; rfl
  | 77, he => cases he; simp only [cel, List.mapIdx_cons, List.mapIdx_nil, fv]; rfl
  | k + 78, he => simp [shl] at he
theorem h00_0 {k i : Nat} (h3 : ¬ k = 3) (h22 : ¬ k = 22) : h00 k i = nI 0 := by
  have : h00 k = fun _ => 0 := by rw [h00]; exact if_neg (by omega)
  rw [this]; rfl
theorem ROv_gg {l : Launch} {D : va_G} {ac : ClassId} {a8 a9 : Nat → Nat} {tP tW b L : Nat} {xs : Nat → Int32} : ROv (gg l D ac a8 a9 tP tW b L xs) := ⟨⟨rfl, fun _ _ => rfl⟩, rfl, fun _ _ => rfl⟩
theorem no01 : ¬ nI 0 = nI 1 := by decide
theorem LX_00 {g : GG} (hro : ROv g) : LX g h00 1 := by
  refine ⟨0, fun _ => 0, 0, 1, ⟨⟨⟨hro, by omega, rfl, ?_, ?_⟩, ?_, ?_, fun l hl => by omega, ⟨rfl, rfl, fun l hl => by omega⟩, ⟨rfl, by omega⟩, ⟨1, rfl, Nat.le_refl _⟩, ⟨1, rfl, Nat.le_refl _⟩⟩, ?_⟩, Nat.le_refl _⟩
  · exact ⟨Nat.zero_le _, fun l hl => absurd hl (Nat.not_lt_zero _), ⟨0, rfl, by omega, by omega⟩, ⟨0, rfl, by omega, by omega⟩⟩
  · exact ⟨1, rfl, by omega, by omega, fun p hp => ⟨0, h00_0 (by omega) (by omega), by omega⟩, fun c hc he => absurd ((h00_0 (by omega) (by omega)).symm.trans he) no01⟩
  · exact ⟨1, rfl, by omega, by omega, fun p hp => ⟨0, h00_0 (by omega) (by omega), by omega⟩, fun c rest hr hc he => absurd ((h00_0 (by omega) (by omega)).symm.trans he) no01⟩
  · exact ⟨1, rfl, by omega, by omega, fun p hp => ⟨0, h00_0 (by omega) (by omega), by omega⟩⟩
  · exact ⟨⟨by omega, rfl⟩, ⟨rfl, ⟨Nat.zero_le _, fun l hl => absurd hl (Nat.not_lt_zero _), ⟨0, rfl, by omega, by omega⟩, ⟨0, rfl, by omega, by omega⟩⟩⟩, fun l hl => by omega, fun l hl => by omega, ⟨rfl, by omega⟩, rfl⟩

