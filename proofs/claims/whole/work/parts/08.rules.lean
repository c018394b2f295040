theorem hp_of {lv : List (Option Value)} {n : Nat} {a0 : Option Value} (h : lv[n]? = some a0) (ha : cat1 a0 = true) : ∀ (j : Nat) (w : Value), j + 1 = n + 1 → lv[j]? = some (some w) → w.category = 1 := by
  intro j w hj hw
  have e : j = n := by omega
  rw [e, h] at hw
  cases hw
  simpa [cat1] using ha
section RR
variable {g : GG} {mi : MI} {pc : Nat} {lv : List (Option Value)} {st : List Value} {h : Hp} {Q : Option Value → Hp → Prop}
theorem R.imp {Q' : Option Value → Hp → Prop} (hq : ∀ r h', Q' r h' → Q r h') (k : R g mi pc lv st h Q') : R g mi pc lv st h Q := by
  intro p e Rm s m args below meth c H locs cells slots A Z ls cx wo hl hret
  exact k p e Rm s m args below meth c H locs cells slots A Z ls cx wo hl (fun r h' H' locs' pc' ls' q => hret r h' H' locs' pc' ls' (hq r h' q))
theorem R.cast {pc' : Nat} {lv' : List (Option Value)} {st' : List Value} {h' : Hp} (k : R g mi pc' lv' st' h' Q) (e1 : pc = pc') (e2 : lv = lv') (e3 : st = st') (e4 : h = h') : R g mi pc lv st h Q := by
  subst e1; subst e2; subst e3; subst e4; exact k
theorem R.ret_v (hd : decode mi.2.1 pc = .ok (.return_, 1)) (ht : mi.2.2.2.1 = none) (hq : Q none h) : R g mi pc lv [] h Q := by
  intro p e Rm s m args below meth c H locs cells slots A Z ls cx wo hl hret
  exact hret none h H locs pc ls hq wo (Or.inl ⟨rfl, hd, ht⟩)
theorem R.ret_i {v : Int32} (hd : decode mi.2.1 pc = .ok (.ireturn, 1)) (ht : mi.2.2.2.1 = some .int) (hq : Q (some (.int v)) h) : R g mi pc lv [.int v] h Q := by
  intro p e Rm s m args below meth c H locs cells slots A Z ls cx wo hl hret
  exact hret (some (.int v)) h H locs pc ls hq wo (Or.inr (Or.inl ⟨v, .int, rfl, hd, ht, rfl⟩))
theorem R.ret_z {v : Int32} (hd : decode mi.2.1 pc = .ok (.ireturn, 1)) (ht : mi.2.2.2.1 = some .boolean) (hv : v = 0 ∨ v = 1) (hq : Q (some (.int v)) h) : R g mi pc lv [.int v] h Q := by
  intro p e Rm s m args below meth c H locs cells slots A Z ls cx wo hl hret
  exact hret (some (.int v)) h H locs pc ls hq wo (Or.inr (Or.inl ⟨v, .boolean, rfl, hd, ht, by rcases hv with rfl | rfl <;> rfl⟩))
theorem R.ret_a {a : Nat} {t : FieldType} (hd : decode mi.2.1 pc = .ok (.areturn, 1)) (ht : mi.2.2.2.1 = some (.array t)) (hq : Q (some (.ref a)) h) : R g mi pc lv [.ref a] h Q := by
  intro p e Rm s m args below meth c H locs cells slots A Z ls cx wo hl hret
  exact hret (some (.ref a)) h H locs pc ls hq wo (Or.inr (Or.inr ⟨a, t, rfl, hd, ht⟩))

theorem r_iconst {n : Int} {v : Int32} (hv : Int32.ofInt n = v) (hd : decode mi.2.1 pc = .ok (.iconst n, 1)) (k : R g mi (pc + 1) lv (.int v :: st) h Q) : R g mi pc lv (st) h Q := by
  intro p e Rm s m args below meth c H locs cells slots A Z ls cx wo hl hret
  exact lv_iconst cx.1 cx.2.1 hd hv (k p e Rm s m args below meth c H locs cells slots A Z ls cx wo hl hret)
theorem r_bipush {n : Int} {v : Int32} (hv : (Int8.ofInt n).toInt32 = v) (hd : decode mi.2.1 pc = .ok (.bipush n, 2)) (k : R g mi (pc + 2) lv (.int v :: st) h Q) : R g mi pc lv (st) h Q := by
  intro p e Rm s m args below meth c H locs cells slots A Z ls cx wo hl hret
  exact lv_bipush cx.1 cx.2.1 hd hv (k p e Rm s m args below meth c H locs cells slots A Z ls cx wo hl hret)
theorem r_sipush {n : Int} {v : Int32} (hv : (Int16.ofInt n).toInt32 = v) (hd : decode mi.2.1 pc = .ok (.sipush n, 3)) (k : R g mi (pc + 3) lv (.int v :: st) h Q) : R g mi pc lv (st) h Q := by
  intro p e Rm s m args below meth c H locs cells slots A Z ls cx wo hl hret
  exact lv_sipush cx.1 cx.2.1 hd hv (k p e Rm s m args below meth c H locs cells slots A Z ls cx wo hl hret)
theorem r_lconst {n : Fin 2} {v : Int64} (hv : Int64.ofNat (n : Nat) = v) (hd : decode mi.2.1 pc = .ok (.lconst n, 1)) (k : R g mi (pc + 1) lv (.long v :: st) h Q) : R g mi pc lv (st) h Q := by
  intro p e Rm s m args below meth c H locs cells slots A Z ls cx wo hl hret
  exact lv_lconst cx.1 cx.2.1 hd hv (k p e Rm s m args below meth c H locs cells slots A Z ls cx wo hl hret)
theorem r_ldc {index : Nat} {v : Int32} (hw : Cond.constant mi.2.2.2.2.1 index v ∈ lw_g) (hd : decode mi.2.1 pc = .ok (.ldc index, 2)) (k : R g mi (pc + 2) lv (.int v :: st) h Q) : R g mi pc lv (st) h Q := by
  intro p e Rm s m args below meth c H locs cells slots A Z ls cx wo hl hret
  exact lv_ldc cx.1 cx.2.1 cx.2.2.2.1 (cx.2.2.2.2.1 _ hw) hd (k p e Rm s m args below meth c H locs cells slots A Z ls cx wo hl hret)
theorem r_ldc2 {index : Nat} {v : Int64} (hw : Cond.constantLong mi.2.2.2.2.1 index v ∈ lw_g) (hd : decode mi.2.1 pc = .ok (.ldc2_w index, 3)) (k : R g mi (pc + 3) lv (.long v :: st) h Q) : R g mi pc lv (st) h Q := by
  intro p e Rm s m args below meth c H locs cells slots A Z ls cx wo hl hret
  exact lv_ldc2 cx.1 cx.2.1 cx.2.2.2.1 (cx.2.2.2.2.1 _ hw) hd (k p e Rm s m args below meth c H locs cells slots A Z ls cx wo hl hret)
theorem r_iload_n {n : Fin 4} {x : Int32} (hx : lv[(n : Nat)]? = some (some (.int x))) (hd : decode mi.2.1 pc = .ok (.iload_n n, 1)) (k : R g mi (pc + 1) lv (.int x :: st) h Q) : R g mi pc lv (st) h Q := by
  intro p e Rm s m args below meth c H locs cells slots A Z ls cx wo hl hret
  exact lv_iload_n cx.1 cx.2.1 hd rfl (hl.2.2 _ _ hx) (k p e Rm s m args below meth c H locs cells slots A Z ls cx wo hl hret)
theorem r_iload {n : Nat} {x : Int32} (hx : lv[n]? = some (some (.int x))) (hd : decode mi.2.1 pc = .ok (.iload n, 2)) (k : R g mi (pc + 2) lv (.int x :: st) h Q) : R g mi pc lv (st) h Q := by
  intro p e Rm s m args below meth c H locs cells slots A Z ls cx wo hl hret
  exact lv_iload cx.1 cx.2.1 hd (hl.2.2 _ _ hx) (k p e Rm s m args below meth c H locs cells slots A Z ls cx wo hl hret)
theorem r_lload_n {n : Fin 4} {x : Int64} (hx : lv[(n : Nat)]? = some (some (.long x))) (hd : decode mi.2.1 pc = .ok (.lload_n n, 1)) (k : R g mi (pc + 1) lv (.long x :: st) h Q) : R g mi pc lv (st) h Q := by
  intro p e Rm s m args below meth c H locs cells slots A Z ls cx wo hl hret
  exact lv_lload_n cx.1 cx.2.1 hd rfl (hl.2.2 _ _ hx) (k p e Rm s m args below meth c H locs cells slots A Z ls cx wo hl hret)
theorem r_lload {n : Nat} {x : Int64} (hx : lv[n]? = some (some (.long x))) (hd : decode mi.2.1 pc = .ok (.lload n, 2)) (k : R g mi (pc + 2) lv (.long x :: st) h Q) : R g mi pc lv (st) h Q := by
  intro p e Rm s m args below meth c H locs cells slots A Z ls cx wo hl hret
  exact lv_lload cx.1 cx.2.1 hd (hl.2.2 _ _ hx) (k p e Rm s m args below meth c H locs cells slots A Z ls cx wo hl hret)
theorem r_aload_n {n : Fin 4} {x : Nat} (hx : lv[(n : Nat)]? = some (some (.ref x))) (hd : decode mi.2.1 pc = .ok (.aload_n n, 1)) (k : R g mi (pc + 1) lv (.ref x :: st) h Q) : R g mi pc lv (st) h Q := by
  intro p e Rm s m args below meth c H locs cells slots A Z ls cx wo hl hret
  exact lv_aload_n cx.1 cx.2.1 hd rfl (hl.2.2 _ _ hx) (k p e Rm s m args below meth c H locs cells slots A Z ls cx wo hl hret)
theorem r_aload {n : Nat} {x : Nat} (hx : lv[n]? = some (some (.ref x))) (hd : decode mi.2.1 pc = .ok (.aload n, 2)) (k : R g mi (pc + 2) lv (.ref x :: st) h Q) : R g mi pc lv (st) h Q := by
  intro p e Rm s m args below meth c H locs cells slots A Z ls cx wo hl hret
  exact lv_aload cx.1 cx.2.1 hd (hl.2.2 _ _ hx) (k p e Rm s m args below meth c H locs cells slots A Z ls cx wo hl hret)
theorem r_iadd {x y : Int32} (hd : decode mi.2.1 pc = .ok (.iadd, 1)) (k : R g mi (pc + 1) lv (.int (x + y) :: st) h Q) : R g mi pc lv (.int y :: .int x :: st) h Q := by
  intro p e Rm s m args below meth c H locs cells slots A Z ls cx wo hl hret
  exact lv_iadd cx.1 cx.2.1 hd (k p e Rm s m args below meth c H locs cells slots A Z ls cx wo hl hret)
theorem r_isub {x y : Int32} (hd : decode mi.2.1 pc = .ok (.isub, 1)) (k : R g mi (pc + 1) lv (.int (x - y) :: st) h Q) : R g mi pc lv (.int y :: .int x :: st) h Q := by
  intro p e Rm s m args below meth c H locs cells slots A Z ls cx wo hl hret
  exact lv_isub cx.1 cx.2.1 hd (k p e Rm s m args below meth c H locs cells slots A Z ls cx wo hl hret)
theorem r_imul {x y : Int32} (hd : decode mi.2.1 pc = .ok (.imul, 1)) (k : R g mi (pc + 1) lv (.int (x * y) :: st) h Q) : R g mi pc lv (.int y :: .int x :: st) h Q := by
  intro p e Rm s m args below meth c H locs cells slots A Z ls cx wo hl hret
  exact lv_imul cx.1 cx.2.1 hd (k p e Rm s m args below meth c H locs cells slots A Z ls cx wo hl hret)
theorem r_iand {x y : Int32} (hd : decode mi.2.1 pc = .ok (.iand, 1)) (k : R g mi (pc + 1) lv (.int (x &&& y) :: st) h Q) : R g mi pc lv (.int y :: .int x :: st) h Q := by
  intro p e Rm s m args below meth c H locs cells slots A Z ls cx wo hl hret
  exact lv_iand cx.1 cx.2.1 hd (k p e Rm s m args below meth c H locs cells slots A Z ls cx wo hl hret)
theorem r_ior {x y : Int32} (hd : decode mi.2.1 pc = .ok (.ior, 1)) (k : R g mi (pc + 1) lv (.int (x ||| y) :: st) h Q) : R g mi pc lv (.int y :: .int x :: st) h Q := by
  intro p e Rm s m args below meth c H locs cells slots A Z ls cx wo hl hret
  exact lv_ior cx.1 cx.2.1 hd (k p e Rm s m args below meth c H locs cells slots A Z ls cx wo hl hret)
theorem r_ixor {x y : Int32} (hd : decode mi.2.1 pc = .ok (.ixor, 1)) (k : R g mi (pc + 1) lv (.int (x ^^^ y) :: st) h Q) : R g mi pc lv (.int y :: .int x :: st) h Q := by
  intro p e Rm s m args below meth c H locs cells slots A Z ls cx wo hl hret
  exact lv_ixor cx.1 cx.2.1 hd (k p e Rm s m args below meth c H locs cells slots A Z ls cx wo hl hret)
theorem r_ineg {x : Int32} (hd : decode mi.2.1 pc = .ok (.ineg, 1)) (k : R g mi (pc + 1) lv (.int (-x) :: st) h Q) : R g mi pc lv (.int x :: st) h Q := by
  intro p e Rm s m args below meth c H locs cells slots A Z ls cx wo hl hret
  exact lv_ineg cx.1 cx.2.1 hd (k p e Rm s m args below meth c H locs cells slots A Z ls cx wo hl hret)
theorem r_idiv {x y : Int32} (hne : ¬ y = 0) (hd : decode mi.2.1 pc = .ok (.idiv, 1)) (k : R g mi (pc + 1) lv (.int (x / y) :: st) h Q) : R g mi pc lv (.int y :: .int x :: st) h Q := by
  intro p e Rm s m args below meth c H locs cells slots A Z ls cx wo hl hret
  exact lv_idiv cx.1 cx.2.1 hd hne (k p e Rm s m args below meth c H locs cells slots A Z ls cx wo hl hret)
theorem r_irem {x y : Int32} (hne : ¬ y = 0) (hd : decode mi.2.1 pc = .ok (.irem, 1)) (k : R g mi (pc + 1) lv (.int (x - x / y * y) :: st) h Q) : R g mi pc lv (.int y :: .int x :: st) h Q := by
  intro p e Rm s m args below meth c H locs cells slots A Z ls cx wo hl hret
  exact lv_irem cx.1 cx.2.1 hd hne (k p e Rm s m args below meth c H locs cells slots A Z ls cx wo hl hret)
theorem r_ishl {x y : Int32} (hd : decode mi.2.1 pc = .ok (.ishl, 1)) (k : R g mi (pc + 1) lv (.int (x <<< (y &&& 31)) :: st) h Q) : R g mi pc lv (.int y :: .int x :: st) h Q := by
  intro p e Rm s m args below meth c H locs cells slots A Z ls cx wo hl hret
  exact lv_ishl cx.1 cx.2.1 hd (k p e Rm s m args below meth c H locs cells slots A Z ls cx wo hl hret)
theorem r_ishr {x y : Int32} (hd : decode mi.2.1 pc = .ok (.ishr, 1)) (k : R g mi (pc + 1) lv (.int (x >>> (y &&& 31)) :: st) h Q) : R g mi pc lv (.int y :: .int x :: st) h Q := by
  intro p e Rm s m args below meth c H locs cells slots A Z ls cx wo hl hret
  exact lv_ishr cx.1 cx.2.1 hd (k p e Rm s m args below meth c H locs cells slots A Z ls cx wo hl hret)
theorem r_i2l {x : Int32} (hd : decode mi.2.1 pc = .ok (.i2l, 1)) (k : R g mi (pc + 1) lv (.long x.toInt64 :: st) h Q) : R g mi pc lv (.int x :: st) h Q := by
  intro p e Rm s m args below meth c H locs cells slots A Z ls cx wo hl hret
  exact lv_i2l cx.1 cx.2.1 hd rfl (k p e Rm s m args below meth c H locs cells slots A Z ls cx wo hl hret)
theorem r_lcmp {x y : Int64} (hd : decode mi.2.1 pc = .ok (.lcmp, 1)) (k : R g mi (pc + 1) lv (.int (lg_cmp x y) :: st) h Q) : R g mi pc lv (.long y :: .long x :: st) h Q := by
  intro p e Rm s m args below meth c H locs cells slots A Z ls cx wo hl hret
  exact W.lcmp cx.1 cx.2.1 hd (k p e Rm s m args below meth c H locs cells slots A Z ls cx wo hl hret)
theorem r_dup {v : Value} (hv : v.category = 1) (hd : decode mi.2.1 pc = .ok (.dup, 1)) (k : R g mi (pc + 1) lv (v :: v :: st) h Q) : R g mi pc lv (v :: st) h Q := by
  intro p e Rm s m args below meth c H locs cells slots A Z ls cx wo hl hret
  exact lv_dup cx.1 cx.2.1 hd hv (k p e Rm s m args below meth c H locs cells slots A Z ls cx wo hl hret)
theorem r_dup2 {v u : Value} (hv : v.category = 1) (hu : u.category = 1) (hd : decode mi.2.1 pc = .ok (.dup2, 1)) (k : R g mi (pc + 1) lv (v :: u :: v :: u :: st) h Q) : R g mi pc lv (v :: u :: st) h Q := by
  intro p e Rm s m args below meth c H locs cells slots A Z ls cx wo hl hret
  exact lv_dup2_11 cx.1 cx.2.1 hd hv hu (k p e Rm s m args below meth c H locs cells slots A Z ls cx wo hl hret)
theorem r_goto {off : Int} (tgt : Nat) (hd : decode mi.2.1 pc = .ok (.goto off, 3)) (ht : (pc : Int) + off = (tgt : Int)) (k : R g mi tgt lv st h Q) : R g mi pc lv st h Q := by
  intro p e Rm s m args below meth c H locs cells slots A Z ls cx wo hl hret
  exact lv_goto cx.1 cx.2.1 hd ht (k p e Rm s m args below meth c H locs cells slots A Z ls cx wo hl hret)
theorem r_if_eq {x : Int32} {off : Int} (tgt : Nat) (hd : decode mi.2.1 pc = .ok (.ifCond .eq off, 3)) (ht : (pc : Int) + off = (tgt : Int)) (kt : x = 0 → R g mi tgt lv st h Q) (kf : ¬ x = 0 → R g mi (pc + 3) lv st h Q) : R g mi pc lv (.int x :: st) h Q := by
  intro p e Rm s m args below meth c H locs cells slots A Z ls cx wo hl hret
  exact lv_if_eq cx.1 cx.2.1 hd ht (fun q => kt q p e Rm s m args below meth c H locs cells slots A Z ls cx wo hl hret) (fun q => kf q p e Rm s m args below meth c H locs cells slots A Z ls cx wo hl hret)
theorem r_icmp_eq {x y : Int32} {off : Int} (tgt : Nat) (hd : decode mi.2.1 pc = .ok (.if_icmp .eq off, 3)) (ht : (pc : Int) + off = (tgt : Int)) (kt : x = y → R g mi tgt lv st h Q) (kf : ¬ x = y → R g mi (pc + 3) lv st h Q) : R g mi pc lv (.int y :: .int x :: st) h Q := by
  intro p e Rm s m args below meth c H locs cells slots A Z ls cx wo hl hret
  exact lv_icmp_eq cx.1 cx.2.1 hd ht (fun q => kt q p e Rm s m args below meth c H locs cells slots A Z ls cx wo hl hret) (fun q => kf q p e Rm s m args below meth c H locs cells slots A Z ls cx wo hl hret)
theorem r_if_ne {x : Int32} {off : Int} (tgt : Nat) (hd : decode mi.2.1 pc = .ok (.ifCond .ne off, 3)) (ht : (pc : Int) + off = (tgt : Int)) (kt : ¬ x = 0 → R g mi tgt lv st h Q) (kf : x = 0 → R g mi (pc + 3) lv st h Q) : R g mi pc lv (.int x :: st) h Q := by
  intro p e Rm s m args below meth c H locs cells slots A Z ls cx wo hl hret
  exact lv_if_ne cx.1 cx.2.1 hd ht (fun q => kt q p e Rm s m args below meth c H locs cells slots A Z ls cx wo hl hret) (fun q => kf q p e Rm s m args below meth c H locs cells slots A Z ls cx wo hl hret)
theorem r_icmp_ne {x y : Int32} {off : Int} (tgt : Nat) (hd : decode mi.2.1 pc = .ok (.if_icmp .ne off, 3)) (ht : (pc : Int) + off = (tgt : Int)) (kt : ¬ x = y → R g mi tgt lv st h Q) (kf : x = y → R g mi (pc + 3) lv st h Q) : R g mi pc lv (.int y :: .int x :: st) h Q := by
  intro p e Rm s m args below meth c H locs cells slots A Z ls cx wo hl hret
  exact lv_icmp_ne cx.1 cx.2.1 hd ht (fun q => kt q p e Rm s m args below meth c H locs cells slots A Z ls cx wo hl hret) (fun q => kf q p e Rm s m args below meth c H locs cells slots A Z ls cx wo hl hret)
theorem r_if_lt {x : Int32} {off : Int} (tgt : Nat) (hd : decode mi.2.1 pc = .ok (.ifCond .lt off, 3)) (ht : (pc : Int) + off = (tgt : Int)) (kt : x < 0 → R g mi tgt lv st h Q) (kf : ¬ x < 0 → R g mi (pc + 3) lv st h Q) : R g mi pc lv (.int x :: st) h Q := by
  intro p e Rm s m args below meth c H locs cells slots A Z ls cx wo hl hret
  exact lv_if_lt cx.1 cx.2.1 hd ht (fun q => kt q p e Rm s m args below meth c H locs cells slots A Z ls cx wo hl hret) (fun q => kf q p e Rm s m args below meth c H locs cells slots A Z ls cx wo hl hret)
theorem r_icmp_lt {x y : Int32} {off : Int} (tgt : Nat) (hd : decode mi.2.1 pc = .ok (.if_icmp .lt off, 3)) (ht : (pc : Int) + off = (tgt : Int)) (kt : x < y → R g mi tgt lv st h Q) (kf : ¬ x < y → R g mi (pc + 3) lv st h Q) : R g mi pc lv (.int y :: .int x :: st) h Q := by
  intro p e Rm s m args below meth c H locs cells slots A Z ls cx wo hl hret
  exact lv_icmp_lt cx.1 cx.2.1 hd ht (fun q => kt q p e Rm s m args below meth c H locs cells slots A Z ls cx wo hl hret) (fun q => kf q p e Rm s m args below meth c H locs cells slots A Z ls cx wo hl hret)
theorem r_if_ge {x : Int32} {off : Int} (tgt : Nat) (hd : decode mi.2.1 pc = .ok (.ifCond .ge off, 3)) (ht : (pc : Int) + off = (tgt : Int)) (kt : 0 ≤ x → R g mi tgt lv st h Q) (kf : ¬ 0 ≤ x → R g mi (pc + 3) lv st h Q) : R g mi pc lv (.int x :: st) h Q := by
  intro p e Rm s m args below meth c H locs cells slots A Z ls cx wo hl hret
  exact lv_if_ge cx.1 cx.2.1 hd ht (fun q => kt q p e Rm s m args below meth c H locs cells slots A Z ls cx wo hl hret) (fun q => kf q p e Rm s m args below meth c H locs cells slots A Z ls cx wo hl hret)
theorem r_icmp_ge {x y : Int32} {off : Int} (tgt : Nat) (hd : decode mi.2.1 pc = .ok (.if_icmp .ge off, 3)) (ht : (pc : Int) + off = (tgt : Int)) (kt : y ≤ x → R g mi tgt lv st h Q) (kf : ¬ y ≤ x → R g mi (pc + 3) lv st h Q) : R g mi pc lv (.int y :: .int x :: st) h Q := by
  intro p e Rm s m args below meth c H locs cells slots A Z ls cx wo hl hret
  exact lv_icmp_ge cx.1 cx.2.1 hd ht (fun q => kt q p e Rm s m args below meth c H locs cells slots A Z ls cx wo hl hret) (fun q => kf q p e Rm s m args below meth c H locs cells slots A Z ls cx wo hl hret)
theorem r_if_gt {x : Int32} {off : Int} (tgt : Nat) (hd : decode mi.2.1 pc = .ok (.ifCond .gt off, 3)) (ht : (pc : Int) + off = (tgt : Int)) (kt : 0 < x → R g mi tgt lv st h Q) (kf : ¬ 0 < x → R g mi (pc + 3) lv st h Q) : R g mi pc lv (.int x :: st) h Q := by
  intro p e Rm s m args below meth c H locs cells slots A Z ls cx wo hl hret
  exact lv_if_gt cx.1 cx.2.1 hd ht (fun q => kt q p e Rm s m args below meth c H locs cells slots A Z ls cx wo hl hret) (fun q => kf q p e Rm s m args below meth c H locs cells slots A Z ls cx wo hl hret)
theorem r_icmp_gt {x y : Int32} {off : Int} (tgt : Nat) (hd : decode mi.2.1 pc = .ok (.if_icmp .gt off, 3)) (ht : (pc : Int) + off = (tgt : Int)) (kt : y < x → R g mi tgt lv st h Q) (kf : ¬ y < x → R g mi (pc + 3) lv st h Q) : R g mi pc lv (.int y :: .int x :: st) h Q := by
  intro p e Rm s m args below meth c H locs cells slots A Z ls cx wo hl hret
  exact lv_icmp_gt cx.1 cx.2.1 hd ht (fun q => kt q p e Rm s m args below meth c H locs cells slots A Z ls cx wo hl hret) (fun q => kf q p e Rm s m args below meth c H locs cells slots A Z ls cx wo hl hret)
theorem r_if_le {x : Int32} {off : Int} (tgt : Nat) (hd : decode mi.2.1 pc = .ok (.ifCond .le off, 3)) (ht : (pc : Int) + off = (tgt : Int)) (kt : x ≤ 0 → R g mi tgt lv st h Q) (kf : ¬ x ≤ 0 → R g mi (pc + 3) lv st h Q) : R g mi pc lv (.int x :: st) h Q := by
  intro p e Rm s m args below meth c H locs cells slots A Z ls cx wo hl hret
  exact lv_if_le cx.1 cx.2.1 hd ht (fun q => kt q p e Rm s m args below meth c H locs cells slots A Z ls cx wo hl hret) (fun q => kf q p e Rm s m args below meth c H locs cells slots A Z ls cx wo hl hret)
theorem r_icmp_le {x y : Int32} {off : Int} (tgt : Nat) (hd : decode mi.2.1 pc = .ok (.if_icmp .le off, 3)) (ht : (pc : Int) + off = (tgt : Int)) (kt : x ≤ y → R g mi tgt lv st h Q) (kf : ¬ x ≤ y → R g mi (pc + 3) lv st h Q) : R g mi pc lv (.int y :: .int x :: st) h Q := by
  intro p e Rm s m args below meth c H locs cells slots A Z ls cx wo hl hret
  exact lv_icmp_le cx.1 cx.2.1 hd ht (fun q => kt q p e Rm s m args below meth c H locs cells slots A Z ls cx wo hl hret) (fun q => kf q p e Rm s m args below meth c H locs cells slots A Z ls cx wo hl hret)
theorem r_tsIn {dflt lo hi off : Int} {offs : Array Int} {len : Nat} {x : Int32} (tgt : Nat) (hd : decode mi.2.1 pc = .ok (.tableswitch dflt lo hi offs, len)) (h1 : ¬ x.toInt < lo) (h2 : ¬ hi < x.toInt) (ho : offs[(x.toInt - lo).toNat]? = some off) (ht : (pc : Int) + off = (tgt : Int)) (k : R g mi tgt lv st h Q) : R g mi pc lv (.int x :: st) h Q := by
  intro p e Rm s m args below meth c H locs cells slots A Z ls cx wo hl hret
  exact lv_tableIn cx.1 cx.2.1 hd h1 h2 ho ht (k p e Rm s m args below meth c H locs cells slots A Z ls cx wo hl hret)
theorem r_tsOut {dflt lo hi : Int} {offs : Array Int} {len : Nat} {x : Int32} (tgt : Nat) (hd : decode mi.2.1 pc = .ok (.tableswitch dflt lo hi offs, len)) (hx : x.toInt < lo ∨ hi < x.toInt) (ht : (pc : Int) + dflt = (tgt : Int)) (k : R g mi tgt lv st h Q) : R g mi pc lv (.int x :: st) h Q := by
  intro p e Rm s m args below meth c H locs cells slots A Z ls cx wo hl hret
  exact lv_tableOut cx.1 cx.2.1 hd hx ht (k p e Rm s m args below meth c H locs cells slots A Z ls cx wo hl hret)
theorem r_istore_n {n : Fin 4} {x : Int32} (hn : (n : Nat) < mi.2.2.1) (hp : ∀ j w, j + 1 = (n : Nat) → lv[j]? = some (some w) → w.category = 1) (hd : decode mi.2.1 pc = .ok (.istore_n n, 1)) (k : R g mi (pc + 1) (lv.set n (some (.int x))) st h Q) : R g mi pc lv (.int x :: st) h Q := by
  intro p e Rm s m args below meth c H locs cells slots A Z ls cx wo hl hret
  exact lv_istore_n cx.1 cx.2.1 hd rfl (lvr_has hl) hn rfl (fun ls2 hl2 => k p e Rm s m args below meth c H locs cells slots A Z ls2 cx wo (lvr_back hp hl2) hret)
theorem r_istore {n : Nat} {x : Int32} (hn : n < mi.2.2.1) (hp : ∀ j w, j + 1 = n → lv[j]? = some (some w) → w.category = 1) (hd : decode mi.2.1 pc = .ok (.istore n, 2)) (k : R g mi (pc + 2) (lv.set n (some (.int x))) st h Q) : R g mi pc lv (.int x :: st) h Q := by
  intro p e Rm s m args below meth c H locs cells slots A Z ls cx wo hl hret
  exact lv_istore cx.1 cx.2.1 hd (lvr_has hl) hn rfl (fun ls2 hl2 => k p e Rm s m args below meth c H locs cells slots A Z ls2 cx wo (lvr_back hp hl2) hret)
theorem r_astore_n {n : Fin 4} {x : Nat} (hn : (n : Nat) < mi.2.2.1) (hp : ∀ j w, j + 1 = (n : Nat) → lv[j]? = some (some w) → w.category = 1) (hd : decode mi.2.1 pc = .ok (.astore_n n, 1)) (k : R g mi (pc + 1) (lv.set n (some (.ref x))) st h Q) : R g mi pc lv (.ref x :: st) h Q := by
  intro p e Rm s m args below meth c H locs cells slots A Z ls cx wo hl hret
  exact lv_astore_n cx.1 cx.2.1 hd rfl (lvr_has hl) hn rfl (fun ls2 hl2 => k p e Rm s m args below meth c H locs cells slots A Z ls2 cx wo (lvr_back hp hl2) hret)
theorem r_iinc {n : Nat} {z : Int} {x v : Int32} (hn : n < mi.2.2.1) (hp : ∀ j w, j + 1 = n → lv[j]? = some (some w) → w.category = 1) (hx : lv[n]? = some (some (.int x))) (hv : x + Int32.ofInt z = v) (hd : decode mi.2.1 pc = .ok (.iinc n z, 3)) (k : R g mi (pc + 3) (lv.set n (some (.int v))) st h Q) : R g mi pc lv st h Q := by
  intro p e Rm s m args below meth c H locs cells slots A Z ls cx wo hl hret
  obtain ⟨q, hq⟩ := List.getElem?_of_mem (lvl_mem.mpr hx)
  exact lv_iinc cx.1 cx.2.1 hd (lvr_has hl) hq hv hn rfl (fun ls2 hl2 => k p e Rm s m args below meth c H locs cells slots A Z ls2 cx wo (lvr_back hp hl2) hret)
theorem r_ist0 { z0 : Option Value} {lt : List (Option Value)} {x : Int32} (hn : 0 < mi.2.2.1) (hd : decode mi.2.1 pc = .ok (.istore_n 0, 1)) (k : R g mi (pc + 1) (some (.int x) :: lt) st h Q) : R g mi pc (z0 :: lt) (.int x :: st) h Q :=
  r_istore_n (n := 0) hn (fun j w q _ => absurd q (by show ¬ j + 1 = 0; omega)) hd k
theorem r_inc0 {lt : List (Option Value)} {z : Int} {x v : Int32} (hn : 0 < mi.2.2.1) (hv : x + Int32.ofInt z = v) (hd : decode mi.2.1 pc = .ok (.iinc 0 z, 3)) (k : R g mi (pc + 3) (some (.int v) :: lt) st h Q) : R g mi pc (some (.int x) :: lt) st h Q :=
  r_iinc (n := 0) hn (fun j w q _ => absurd q (by show ¬ j + 1 = 0; omega)) rfl hv hd k
theorem r_ist1 {a0 z0 : Option Value} {lt : List (Option Value)} {x : Int32} (ha : cat1 a0 = true) (hn : 1 < mi.2.2.1) (hd : decode mi.2.1 pc = .ok (.istore_n 1, 1)) (k : R g mi (pc + 1) (a0 :: some (.int x) :: lt) st h Q) : R g mi pc (a0 :: z0 :: lt) (.int x :: st) h Q :=
  r_istore_n (n := 1) hn (hp_of (n := 0) rfl ha) hd k
theorem r_ast1 {a0 z0 : Option Value} {lt : List (Option Value)} {x : Nat} (ha : cat1 a0 = true) (hn : 1 < mi.2.2.1) (hd : decode mi.2.1 pc = .ok (.astore_n 1, 1)) (k : R g mi (pc + 1) (a0 :: some (.ref x) :: lt) st h Q) : R g mi pc (a0 :: z0 :: lt) (.ref x :: st) h Q :=
  r_astore_n (n := 1) hn (hp_of (n := 0) rfl ha) hd k
theorem r_inc1 {a0 : Option Value} {lt : List (Option Value)} {z : Int} {x v : Int32} (ha : cat1 a0 = true) (hn : 1 < mi.2.2.1) (hv : x + Int32.ofInt z = v) (hd : decode mi.2.1 pc = .ok (.iinc 1 z, 3)) (k : R g mi (pc + 3) (a0 :: some (.int v) :: lt) st h Q) : R g mi pc (a0 :: some (.int x) :: lt) st h Q :=
  r_iinc (n := 1) hn (hp_of (n := 0) rfl ha) rfl hv hd k
theorem r_ist2 {a0 b0 z0 : Option Value} {lt : List (Option Value)} {x : Int32} (ha : cat1 b0 = true) (hn : 2 < mi.2.2.1) (hd : decode mi.2.1 pc = .ok (.istore_n 2, 1)) (k : R g mi (pc + 1) (a0 :: b0 :: some (.int x) :: lt) st h Q) : R g mi pc (a0 :: b0 :: z0 :: lt) (.int x :: st) h Q :=
  r_istore_n (n := 2) hn (hp_of (n := 1) rfl ha) hd k
theorem r_ast2 {a0 b0 z0 : Option Value} {lt : List (Option Value)} {x : Nat} (ha : cat1 b0 = true) (hn : 2 < mi.2.2.1) (hd : decode mi.2.1 pc = .ok (.astore_n 2, 1)) (k : R g mi (pc + 1) (a0 :: b0 :: some (.ref x) :: lt) st h Q) : R g mi pc (a0 :: b0 :: z0 :: lt) (.ref x :: st) h Q :=
  r_astore_n (n := 2) hn (hp_of (n := 1) rfl ha) hd k
theorem r_inc2 {a0 b0 : Option Value} {lt : List (Option Value)} {z : Int} {x v : Int32} (ha : cat1 b0 = true) (hn : 2 < mi.2.2.1) (hv : x + Int32.ofInt z = v) (hd : decode mi.2.1 pc = .ok (.iinc 2 z, 3)) (k : R g mi (pc + 3) (a0 :: b0 :: some (.int v) :: lt) st h Q) : R g mi pc (a0 :: b0 :: some (.int x) :: lt) st h Q :=
  r_iinc (n := 2) hn (hp_of (n := 1) rfl ha) rfl hv hd k
theorem r_ist3 {a0 b0 c0 z0 : Option Value} {lt : List (Option Value)} {x : Int32} (ha : cat1 c0 = true) (hn : 3 < mi.2.2.1) (hd : decode mi.2.1 pc = .ok (.istore_n 3, 1)) (k : R g mi (pc + 1) (a0 :: b0 :: c0 :: some (.int x) :: lt) st h Q) : R g mi pc (a0 :: b0 :: c0 :: z0 :: lt) (.int x :: st) h Q :=
  r_istore_n (n := 3) hn (hp_of (n := 2) rfl ha) hd k
theorem r_inc3 {a0 b0 c0 : Option Value} {lt : List (Option Value)} {z : Int} {x v : Int32} (ha : cat1 c0 = true) (hn : 3 < mi.2.2.1) (hv : x + Int32.ofInt z = v) (hd : decode mi.2.1 pc = .ok (.iinc 3 z, 3)) (k : R g mi (pc + 3) (a0 :: b0 :: c0 :: some (.int v) :: lt) st h Q) : R g mi pc (a0 :: b0 :: c0 :: some (.int x) :: lt) st h Q :=
  r_iinc (n := 3) hn (hp_of (n := 2) rfl ha) rfl hv hd k
theorem r_ist4 {a0 b0 c0 d0 z0 : Option Value} {lt : List (Option Value)} {x : Int32} (ha : cat1 d0 = true) (hn : 4 < mi.2.2.1) (hd : decode mi.2.1 pc = .ok (.istore 4, 2)) (k : R g mi (pc + 2) (a0 :: b0 :: c0 :: d0 :: some (.int x) :: lt) st h Q) : R g mi pc (a0 :: b0 :: c0 :: d0 :: z0 :: lt) (.int x :: st) h Q :=
  r_istore (n := 4) hn (hp_of (n := 3) rfl ha) hd k
theorem r_inc4 {a0 b0 c0 d0 : Option Value} {lt : List (Option Value)} {z : Int} {x v : Int32} (ha : cat1 d0 = true) (hn : 4 < mi.2.2.1) (hv : x + Int32.ofInt z = v) (hd : decode mi.2.1 pc = .ok (.iinc 4 z, 3)) (k : R g mi (pc + 3) (a0 :: b0 :: c0 :: d0 :: some (.int v) :: lt) st h Q) : R g mi pc (a0 :: b0 :: c0 :: d0 :: some (.int x) :: lt) st h Q :=
  r_iinc (n := 4) hn (hp_of (n := 3) rfl ha) rfl hv hd k
theorem r_ist5 {a0 b0 c0 d0 e0 z0 : Option Value} {lt : List (Option Value)} {x : Int32} (ha : cat1 e0 = true) (hn : 5 < mi.2.2.1) (hd : decode mi.2.1 pc = .ok (.istore 5, 2)) (k : R g mi (pc + 2) (a0 :: b0 :: c0 :: d0 :: e0 :: some (.int x) :: lt) st h Q) : R g mi pc (a0 :: b0 :: c0 :: d0 :: e0 :: z0 :: lt) (.int x :: st) h Q :=
  r_istore (n := 5) hn (hp_of (n := 4) rfl ha) hd k
theorem r_inc5 {a0 b0 c0 d0 e0 : Option Value} {lt : List (Option Value)} {z : Int} {x v : Int32} (ha : cat1 e0 = true) (hn : 5 < mi.2.2.1) (hv : x + Int32.ofInt z = v) (hd : decode mi.2.1 pc = .ok (.iinc 5 z, 3)) (k : R g mi (pc + 3) (a0 :: b0 :: c0 :: d0 :: e0 :: some (.int v) :: lt) st h Q) : R g mi pc (a0 :: b0 :: c0 :: d0 :: e0 :: some (.int x) :: lt) st h Q :=
  r_iinc (n := 5) hn (hp_of (n := 4) rfl ha) rfl hv hd k
theorem r_ist6 {a0 b0 c0 d0 e0 f0 z0 : Option Value} {lt : List (Option Value)} {x : Int32} (ha : cat1 f0 = true) (hn : 6 < mi.2.2.1) (hd : decode mi.2.1 pc = .ok (.istore 6, 2)) (k : R g mi (pc + 2) (a0 :: b0 :: c0 :: d0 :: e0 :: f0 :: some (.int x) :: lt) st h Q) : R g mi pc (a0 :: b0 :: c0 :: d0 :: e0 :: f0 :: z0 :: lt) (.int x :: st) h Q :=
  r_istore (n := 6) hn (hp_of (n := 5) rfl ha) hd k
theorem r_inc6 {a0 b0 c0 d0 e0 f0 : Option Value} {lt : List (Option Value)} {z : Int} {x v : Int32} (ha : cat1 f0 = true) (hn : 6 < mi.2.2.1) (hv : x + Int32.ofInt z = v) (hd : decode mi.2.1 pc = .ok (.iinc 6 z, 3)) (k : R g mi (pc + 3) (a0 :: b0 :: c0 :: d0 :: e0 :: f0 :: some (.int v) :: lt) st h Q) : R g mi pc (a0 :: b0 :: c0 :: d0 :: e0 :: f0 :: some (.int x) :: lt) st h Q :=
  r_iinc (n := 6) hn (hp_of (n := 5) rfl ha) rfl hv hd k
theorem r_ist7 {a0 b0 c0 d0 e0 f0 g0 z0 : Option Value} {lt : List (Option Value)} {x : Int32} (ha : cat1 g0 = true) (hn : 7 < mi.2.2.1) (hd : decode mi.2.1 pc = .ok (.istore 7, 2)) (k : R g mi (pc + 2) (a0 :: b0 :: c0 :: d0 :: e0 :: f0 :: g0 :: some (.int x) :: lt) st h Q) : R g mi pc (a0 :: b0 :: c0 :: d0 :: e0 :: f0 :: g0 :: z0 :: lt) (.int x :: st) h Q :=
  r_istore (n := 7) hn (hp_of (n := 6) rfl ha) hd k
theorem r_inc7 {a0 b0 c0 d0 e0 f0 g0 : Option Value} {lt : List (Option Value)} {z : Int} {x v : Int32} (ha : cat1 g0 = true) (hn : 7 < mi.2.2.1) (hv : x + Int32.ofInt z = v) (hd : decode mi.2.1 pc = .ok (.iinc 7 z, 3)) (k : R g mi (pc + 3) (a0 :: b0 :: c0 :: d0 :: e0 :: f0 :: g0 :: some (.int v) :: lt) st h Q) : R g mi pc (a0 :: b0 :: c0 :: d0 :: e0 :: f0 :: g0 :: some (.int x) :: lt) st h Q :=
  r_iinc (n := 7) hn (hp_of (n := 6) rfl ha) rfl hv hd k
theorem r_ist8 {a0 b0 c0 d0 e0 f0 g0 h0 z0 : Option Value} {lt : List (Option Value)} {x : Int32} (ha : cat1 h0 = true) (hn : 8 < mi.2.2.1) (hd : decode mi.2.1 pc = .ok (.istore 8, 2)) (k : R g mi (pc + 2) (a0 :: b0 :: c0 :: d0 :: e0 :: f0 :: g0 :: h0 :: some (.int x) :: lt) st h Q) : R g mi pc (a0 :: b0 :: c0 :: d0 :: e0 :: f0 :: g0 :: h0 :: z0 :: lt) (.int x :: st) h Q :=
  r_istore (n := 8) hn (hp_of (n := 7) rfl ha) hd k
theorem r_inc8 {a0 b0 c0 d0 e0 f0 g0 h0 : Option Value} {lt : List (Option Value)} {z : Int} {x v : Int32} (ha : cat1 h0 = true) (hn : 8 < mi.2.2.1) (hv : x + Int32.ofInt z = v) (hd : decode mi.2.1 pc = .ok (.iinc 8 z, 3)) (k : R g mi (pc + 3) (a0 :: b0 :: c0 :: d0 :: e0 :: f0 :: g0 :: h0 :: some (.int v) :: lt) st h Q) : R g mi pc (a0 :: b0 :: c0 :: d0 :: e0 :: f0 :: g0 :: h0 :: some (.int x) :: lt) st h Q :=
  r_iinc (n := 8) hn (hp_of (n := 7) rfl ha) rfl hv hd k
theorem r_ist9 {a0 b0 c0 d0 e0 f0 g0 h0 i0 z0 : Option Value} {lt : List (Option Value)} {x : Int32} (ha : cat1 i0 = true) (hn : 9 < mi.2.2.1) (hd : decode mi.2.1 pc = .ok (.istore 9, 2)) (k : R g mi (pc + 2) (a0 :: b0 :: c0 :: d0 :: e0 :: f0 :: g0 :: h0 :: i0 :: some (.int x) :: lt) st h Q) : R g mi pc (a0 :: b0 :: c0 :: d0 :: e0 :: f0 :: g0 :: h0 :: i0 :: z0 :: lt) (.int x :: st) h Q :=
  r_istore (n := 9) hn (hp_of (n := 8) rfl ha) hd k
theorem r_inc9 {a0 b0 c0 d0 e0 f0 g0 h0 i0 : Option Value} {lt : List (Option Value)} {z : Int} {x v : Int32} (ha : cat1 i0 = true) (hn : 9 < mi.2.2.1) (hv : x + Int32.ofInt z = v) (hd : decode mi.2.1 pc = .ok (.iinc 9 z, 3)) (k : R g mi (pc + 3) (a0 :: b0 :: c0 :: d0 :: e0 :: f0 :: g0 :: h0 :: i0 :: some (.int v) :: lt) st h Q) : R g mi pc (a0 :: b0 :: c0 :: d0 :: e0 :: f0 :: g0 :: h0 :: i0 :: some (.int x) :: lt) st h Q :=
  r_iinc (n := 9) hn (hp_of (n := 8) rfl ha) rfl hv hd k
theorem r_ist10 {a0 b0 c0 d0 e0 f0 g0 h0 i0 j0 z0 : Option Value} {lt : List (Option Value)} {x : Int32} (ha : cat1 j0 = true) (hn : 10 < mi.2.2.1) (hd : decode mi.2.1 pc = .ok (.istore 10, 2)) (k : R g mi (pc + 2) (a0 :: b0 :: c0 :: d0 :: e0 :: f0 :: g0 :: h0 :: i0 :: j0 :: some (.int x) :: lt) st h Q) : R g mi pc (a0 :: b0 :: c0 :: d0 :: e0 :: f0 :: g0 :: h0 :: i0 :: j0 :: z0 :: lt) (.int x :: st) h Q :=
  r_istore (n := 10) hn (hp_of (n := 9) rfl ha) hd k
theorem r_inc10 {a0 b0 c0 d0 e0 f0 g0 h0 i0 j0 : Option Value} {lt : List (Option Value)} {z : Int} {x v : Int32} (ha : cat1 j0 = true) (hn : 10 < mi.2.2.1) (hv : x + Int32.ofInt z = v) (hd : decode mi.2.1 pc = .ok (.iinc 10 z, 3)) (k : R g mi (pc + 3) (a0 :: b0 :: c0 :: d0 :: e0 :: f0 :: g0 :: h0 :: i0 :: j0 :: some (.int v) :: lt) st h Q) : R g mi pc (a0 :: b0 :: c0 :: d0 :: e0 :: f0 :: g0 :: h0 :: i0 :: j0 :: some (.int x) :: lt) st h Q :=
  r_iinc (n := 10) hn (hp_of (n := 9) rfl ha) rfl hv hd k
theorem r_ist11 {a0 b0 c0 d0 e0 f0 g0 h0 i0 j0 k0 z0 : Option Value} {lt : List (Option Value)} {x : Int32} (ha : cat1 k0 = true) (hn : 11 < mi.2.2.1) (hd : decode mi.2.1 pc = .ok (.istore 11, 2)) (k : R g mi (pc + 2) (a0 :: b0 :: c0 :: d0 :: e0 :: f0 :: g0 :: h0 :: i0 :: j0 :: k0 :: some (.int x) :: lt) st h Q) : R g mi pc (a0 :: b0 :: c0 :: d0 :: e0 :: f0 :: g0 :: h0 :: i0 :: j0 :: k0 :: z0 :: lt) (.int x :: st) h Q :=
  r_istore (n := 11) hn (hp_of (n := 10) rfl ha) hd k
theorem r_inc11 {a0 b0 c0 d0 e0 f0 g0 h0 i0 j0 k0 : Option Value} {lt : List (Option Value)} {z : Int} {x v : Int32} (ha : cat1 k0 = true) (hn : 11 < mi.2.2.1) (hv : x + Int32.ofInt z = v) (hd : decode mi.2.1 pc = .ok (.iinc 11 z, 3)) (k : R g mi (pc + 3) (a0 :: b0 :: c0 :: d0 :: e0 :: f0 :: g0 :: h0 :: i0 :: j0 :: k0 :: some (.int v) :: lt) st h Q) : R g mi pc (a0 :: b0 :: c0 :: d0 :: e0 :: f0 :: g0 :: h0 :: i0 :: j0 :: k0 :: some (.int x) :: lt) st h Q :=
  r_iinc (n := 11) hn (hp_of (n := 10) rfl ha) rfl hv hd k
theorem r_ist12 {a0 b0 c0 d0 e0 f0 g0 h0 i0 j0 k0 l0 z0 : Option Value} {lt : List (Option Value)} {x : Int32} (ha : cat1 l0 = true) (hn : 12 < mi.2.2.1) (hd : decode mi.2.1 pc = .ok (.istore 12, 2)) (k : R g mi (pc + 2) (a0 :: b0 :: c0 :: d0 :: e0 :: f0 :: g0 :: h0 :: i0 :: j0 :: k0 :: l0 :: some (.int x) :: lt) st h Q) : R g mi pc (a0 :: b0 :: c0 :: d0 :: e0 :: f0 :: g0 :: h0 :: i0 :: j0 :: k0 :: l0 :: z0 :: lt) (.int x :: st) h Q :=
  r_istore (n := 12) hn (hp_of (n := 11) rfl ha) hd k
theorem r_inc12 {a0 b0 c0 d0 e0 f0 g0 h0 i0 j0 k0 l0 : Option Value} {lt : List (Option Value)} {z : Int} {x v : Int32} (ha : cat1 l0 = true) (hn : 12 < mi.2.2.1) (hv : x + Int32.ofInt z = v) (hd : decode mi.2.1 pc = .ok (.iinc 12 z, 3)) (k : R g mi (pc + 3) (a0 :: b0 :: c0 :: d0 :: e0 :: f0 :: g0 :: h0 :: i0 :: j0 :: k0 :: l0 :: some (.int v) :: lt) st h Q) : R g mi pc (a0 :: b0 :: c0 :: d0 :: e0 :: f0 :: g0 :: h0 :: i0 :: j0 :: k0 :: l0 :: some (.int x) :: lt) st h Q :=
  r_iinc (n := 12) hn (hp_of (n := 11) rfl ha) rfl hv hd k
def FO (own : String) (idx ci k : Nat) : Prop := ∃ (C : String) (T : u_T) (N : Nat), vwCl[ci]? = some (C, T, N) ∧ (∀ w ∈ u_ws C T N, w ∈ lw_g) ∧ k < N ∧ Cond.fieldLink own idx (T k).1 (T k).2.1 (T k).2.2.1 ∈ lw_g
def FP (own : String) (idx ci k : Nat) : Prop := ∃ (C : String) (T : u_T) (N : Nat) (ty0 : Nat → FieldType), vwCl[ci]? = some (C, T, N) ∧ (∀ w ∈ u_ws C T N, w ∈ lw_g) ∧ k < N ∧ Cond.fieldLink own idx (T k).1 (T k).2.1 (T k).2.2.1 ∈ lw_g ∧ (∀ k, k < N → parseFieldDescriptor (T k).2.2.1 = some (ty0 k)) ∧ (∀ a, a < N → ∀ b, b < N → a ≠ b → (T a).2.1 ≠ (T b).2.1) ∧ (T k).2.2.2 = false ∧ parseFieldDescriptor (T k).2.2.1 = some .int
theorem r_getI {o idx ci i : Nat} {fs : List (Option Nat)} (hF : FO mi.2.2.2.2.1 idx ci i) (hsh : shl[o]? = some (.inr (ci, fs))) (hf : fs[i]? = some none) (hd : decode mi.2.1 pc = .ok (.getfield idx, 3)) (k : R g mi (pc + 3) lv (.int (h o i) :: st) h Q) : R g mi pc lv (.ref (ad g o) :: st) h Q := by
  intro p e Rm s m args below meth c H locs cells slots A Z ls cx wo hl hret
  obtain ⟨C, T, N, hc, hin, hk, hlink⟩ := hF
  exact va_get cx.1 cx.2.1 cx.2.2.2.2.1 hin cx.2.2.2.1 cx.2.2.2.2.2.2.2.1 wo.1 o (wl_at hsh) hc i hk (cx.2.2.2.2.1 _ hlink) (fun _ q => q) (by rw [List.getElem?_mapIdx, hf]; rfl) hd (k p e Rm s m args below meth c H locs cells slots A Z ls cx wo hl hret)
theorem r_getR {o idx ci i q0 : Nat} {fs : List (Option Nat)} (hF : FO mi.2.2.2.2.1 idx ci i) (hsh : shl[o]? = some (.inr (ci, fs))) (hf : fs[i]? = some (some q0)) (hd : decode mi.2.1 pc = .ok (.getfield idx, 3)) (k : R g mi (pc + 3) lv (.ref (ad g q0) :: st) h Q) : R g mi pc lv (.ref (ad g o) :: st) h Q := by
  intro p e Rm s m args below meth c H locs cells slots A Z ls cx wo hl hret
  obtain ⟨C, T, N, hc, hin, hk, hlink⟩ := hF
  exact va_get cx.1 cx.2.1 cx.2.2.2.2.1 hin cx.2.2.2.1 cx.2.2.2.2.2.2.2.1 wo.1 o (wl_at hsh) hc i hk (cx.2.2.2.2.1 _ hlink) (fun _ q => q) (by rw [List.getElem?_mapIdx, hf]; rfl) hd (k p e Rm s m args below meth c H locs cells slots A Z ls cx wo hl hret)
theorem r_putI {o idx ci i : Nat} {fs : List (Option Nat)} {x : Int32} (hF : FP mi.2.2.2.2.1 idx ci i) (hsh : shl[o]? = some (.inr (ci, fs))) (hf : fs[i]? = some none) (hd : decode mi.2.1 pc = .ok (.putfield idx, 3)) (k : R g mi (pc + 3) lv st (hset h o i x) Q) : R g mi pc lv (.int x :: .ref (ad g o) :: st) h Q := by
  intro p e Rm s m args below meth c H locs cells slots A Z ls cx wo hl hret
  obtain ⟨C, T, N, ty0, hc, hin, hk, hlink, hty, hnm, hfin, hti⟩ := hF
  refine va_put cx.1 cx.2.1 cx.2.2.2.2.1 hin ty0 hty hnm cx.2.2.2.1 cx.2.2.2.2.2.2.2.1 wo.1 wo.2.1 wo.2.2 o (wl_at hsh) hc i hk (cx.2.2.2.2.1 _ hlink) (fun _ q => q) hfin hti rfl rfl (by rw [List.length_mapIdx]; exact (List.getElem?_eq_some_iff.mp hf).1) hd (fun H1 locs1 hP1 hD1 hS1 => ?_)
  rw [wl_set_fld hsh hf] at hP1 hD1
  exact k p e Rm s m args below meth c H1 locs1 cells slots A Z ls cx ⟨hP1, hD1, hS1⟩ hl hret
theorem r_iald {o n : Nat} {x : Int32} (hsh : shl[o]? = some (.inl n)) (hin : vp_in x n) (hd : decode mi.2.1 pc = .ok (.iaload, 1)) (k : R g mi (pc + 1) lv (.int (h o x.toNatClampNeg) :: st) h Q) : R g mi pc lv (.int x :: .ref (ad g o) :: st) h Q := by
  intro p e Rm s m args below meth c H locs cells slots A Z ls cx wo hl hret
  exact va_iald cx.1 cx.2.1 cx.2.2.2.2.2.2.2.1 wo.1 o 0 (wl_at hsh) rfl hin hd (k p e Rm s m args below meth c H locs cells slots A Z ls cx wo hl hret)
theorem r_iast {o n : Nat} {x y : Int32} (hsh : shl[o]? = some (.inl n)) (hin : vp_in x n) (hd : decode mi.2.1 pc = .ok (.iastore, 1)) (k : R g mi (pc + 1) lv st (hset h o x.toNatClampNeg y) Q) : R g mi pc lv (.int y :: .int x :: .ref (ad g o) :: st) h Q := by
  intro p e Rm s m args below meth c H locs cells slots A Z ls cx wo hl hret
  refine va_iast cx.1 cx.2.1 cx.2.2.2.2.2.2.2.1 wo.1 wo.2.1 wo.2.2 o 0 (wl_at hsh) rfl hin hd (fun H1 locs1 hP1 hD1 hS1 => ?_)
  rw [wl_set_arr hsh] at hP1 hD1
  exact k p e Rm s m args below meth c H1 locs1 cells slots A Z ls cx ⟨hP1, hD1, hS1⟩ hl hret
theorem r_iro {o : Nat} {x : Int32} (h1 : 1000 ≤ o) (h2 : o < 1003) (hin : vp_in x (roN g o)) (hd : decode mi.2.1 pc = .ok (.iaload, 1)) (k : R g mi (pc + 1) lv (.int (ro g o x.toNatClampNeg) :: st) h Q) : R g mi pc lv (.int x :: .ref (ad g o) :: st) h Q := by
  intro p e Rm s m args below meth c H locs cells slots A Z ls cx wo hl hret
  exact va_ti cx.1 cx.2.1 (cx.2.2.2.2.2.2.2.2.1.2.2.1 o h1 h2) wo.2.2 hin rfl hd (k p e Rm s m args below meth c H locs cells slots A Z ls cx wo hl hret)
theorem r_rolen {o : Nat} (h1 : 1000 ≤ o) (h2 : o < 1003) (hd : decode mi.2.1 pc = .ok (.arraylength, 1)) (k : R g mi (pc + 1) lv (.int (Int32.ofNat (roN g o)) :: st) h Q) : R g mi pc lv (.ref (ad g o) :: st) h Q := by
  intro p e Rm s m args below meth c H locs cells slots A Z ls cx wo hl hret
  exact va_tlen cx.1 cx.2.1 (cx.2.2.2.2.2.2.2.2.1.2.2.1 o h1 h2) wo.2.2 rfl hd (k p e Rm s m args below meth c H locs cells slots A Z ls cx wo hl hret)
theorem r_PARTINGS {idx : Nat} (hw : Cond.fieldLink mi.2.2.2.2.1 idx "LandUnions" "PARTINGS" "[I" ∈ lw_g) (hd : decode mi.2.1 pc = .ok (.getstatic idx, 3)) (k : R g mi (pc + 3) lv (.ref (ad g 1000) :: st) h Q) : R g mi pc lv st h Q := by
  intro p e Rm s m args below meth c H locs cells slots A Z ls cx wo hl hret
  exact va_gets cx.1 cx.2.1 cx.2.2.2.2.2.2.2.2.1.1 wo.2.2 cx.2.2.2.1 (cx.2.2.2.2.1 _ hw) (fun _ q => q) hd (k p e Rm s m args below meth c H locs cells slots A Z ls cx wo hl hret)
theorem r_WAYS (ho : mi.2.2.2.2.1 = "LandUnions$Parting") (hd : decode mi.2.1 pc = .ok (.getstatic 44, 3)) (k : R g mi (pc + 3) lv (.ref (ad g 1001) :: st) h Q) : R g mi pc lv st h Q := by
  intro p e Rm s m args below meth c H locs cells slots A Z ls cx wo hl hret
  have hown := cx.2.2.2.1
  rw [ho] at hown
  exact va_getsN cx.1 cx.2.1 cx.2.2.2.2.2.2.2.2.1.2.1 wo.2.2 hown (va_Nw.use rfl cx.2.2.2.2.2.2.2.2.1.2.2.2) (fun _ q => q) hd (k p e Rm s m args below meth c H locs cells slots A Z ls cx wo hl hret)
theorem r_max {idx : Nat} {x y : Int32} (hw : Cond.methodLink mi.2.2.2.2.1 idx Lib.Math.max.name ∈ lw_g ∧ Cond.static Lib.Math.max.name ∈ lw_g ∧ Cond.initialized "java/lang/Math" ∈ lw_g ∧ Cond.code Lib.Math.max.name Lib.Math.max.code 2 (some .int) ∈ lw_g) (hr : 1 ≤ mi.2.2.2.2.2.1 ∧ (st.map fun v => v.category).sum + 13 ≤ mi.2.2.2.2.2.2) (hd : decode mi.2.1 pc = .ok (.invokestatic idx, 3)) (k : R g mi (pc + 3) lv (.int (if x < y then y else x) :: st) h Q) : R g mi pc lv (.int y :: .int x :: st) h Q := by
  intro p e Rm s m args below meth c H locs cells slots A Z ls cx wo hl hret
  have hrm := cx.2.2.2.2.2.2.2.2.2.1
  exact va_mmax cx.1 cx.2.1 (by rw [cx.2.2.1, hl.1]) cx.2.2.2.1 (cx.2.2.2.2.1 _ hw.1) (cx.2.2.2.2.1 _ hw.2.1) (cx.2.2.2.2.1 _ hw.2.2.1) (cx.2.2.2.2.1 _ hw.2.2.2) (by omega) (by omega) hrm.2.2.1 hrm.2.2.2 hd (k p e Rm s m args below meth c H locs cells slots A Z ls cx wo hl hret)
theorem r_min {idx : Nat} {x y : Int32} (hw : Cond.methodLink mi.2.2.2.2.1 idx Lib.Math.min.name ∈ lw_g ∧ Cond.static Lib.Math.min.name ∈ lw_g ∧ Cond.initialized "java/lang/Math" ∈ lw_g ∧ Cond.code Lib.Math.min.name Lib.Math.min.code 2 (some .int) ∈ lw_g) (hr : 1 ≤ mi.2.2.2.2.2.1 ∧ (st.map fun v => v.category).sum + 13 ≤ mi.2.2.2.2.2.2) (hd : decode mi.2.1 pc = .ok (.invokestatic idx, 3)) (k : R g mi (pc + 3) lv (.int (if y < x then y else x) :: st) h Q) : R g mi pc lv (.int y :: .int x :: st) h Q := by
  intro p e Rm s m args below meth c H locs cells slots A Z ls cx wo hl hret
  have hrm := cx.2.2.2.2.2.2.2.2.2.1
  exact va_mmin cx.1 cx.2.1 (by rw [cx.2.2.1, hl.1]) cx.2.2.2.1 (cx.2.2.2.2.1 _ hw.1) (cx.2.2.2.2.1 _ hw.2.1) (cx.2.2.2.2.1 _ hw.2.2.1) (cx.2.2.2.2.1 _ hw.2.2.2) (by omega) (by omega) hrm.2.2.1 hrm.2.2.2 hd (k p e Rm s m args below meth c H locs cells slots A Z ls cx wo hl hret)
end RR
