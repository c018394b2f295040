theorem inc_up (l : Nat) : nI l + Int32.ofInt 1 = nI (l + 1) := by
  rw [show Int32.ofInt 1 = 1 by decide]; exact nI_1 l
theorem inc_dn (l : Nat) : nI (l + 1) + Int32.ofInt (-1) = nI l := by
  rw [show Int32.ofInt (-1) = -1 by decide, ← Int32.sub_eq_add_neg]; exact nI_pred l
theorem inc_p (x : Int32) : x + Int32.ofInt 1 = x + 1 := by rw [show Int32.ofInt 1 = 1 by decide]
theorem inc_q (x : Int32) : x + Int32.ofInt (-1) = x - 1 := by rw [show Int32.ofInt (-1) = -1 by decide, ← Int32.sub_eq_add_neg]
section MORE
variable {g : GG} {mi : MI} {pc : Nat} {st : List Value} {h : Hp} {Q : Option Value → Hp → Prop}
theorem r_incN0 {lt : List (Option Value)} {l : Nat} (hn : 0 < mi.2.2.1) (hd : decode mi.2.1 pc = .ok (.iinc 0 1, 3)) (k : R g mi (pc + 3) (some (.int (nI (l + 1))) :: lt) st h Q) : R g mi pc (some (.int (nI l)) :: lt) st h Q := r_inc0 hn (inc_up l) hd k
theorem r_incP0 {lt : List (Option Value)} {x : Int32} (hn : 0 < mi.2.2.1) (hd : decode mi.2.1 pc = .ok (.iinc 0 1, 3)) (k : R g mi (pc + 3) (some (.int (x + 1)) :: lt) st h Q) : R g mi pc (some (.int x) :: lt) st h Q := r_inc0 hn (inc_p x) hd k
theorem r_incM0 {lt : List (Option Value)} {l : Nat} (hn : 0 < mi.2.2.1) (hd : decode mi.2.1 pc = .ok (.iinc 0 (-1), 3)) (k : R g mi (pc + 3) (some (.int (nI l)) :: lt) st h Q) : R g mi pc (some (.int (nI (l + 1))) :: lt) st h Q := r_inc0 hn (inc_dn l) hd k
theorem r_incQ0 {lt : List (Option Value)} {x : Int32} (hn : 0 < mi.2.2.1) (hd : decode mi.2.1 pc = .ok (.iinc 0 (-1), 3)) (k : R g mi (pc + 3) (some (.int (x - 1)) :: lt) st h Q) : R g mi pc (some (.int x) :: lt) st h Q := r_inc0 hn (inc_q x) hd k
theorem r_incN1 {a0 : Option Value} {lt : List (Option Value)} {l : Nat} (ha : cat1 a0 = true) (hn : 1 < mi.2.2.1) (hd : decode mi.2.1 pc = .ok (.iinc 1 1, 3)) (k : R g mi (pc + 3) (a0 :: some (.int (nI (l + 1))) :: lt) st h Q) : R g mi pc (a0 :: some (.int (nI l)) :: lt) st h Q := r_inc1 ha hn (inc_up l) hd k
theorem r_incP1 {a0 : Option Value} {lt : List (Option Value)} {x : Int32} (ha : cat1 a0 = true) (hn : 1 < mi.2.2.1) (hd : decode mi.2.1 pc = .ok (.iinc 1 1, 3)) (k : R g mi (pc + 3) (a0 :: some (.int (x + 1)) :: lt) st h Q) : R g mi pc (a0 :: some (.int x) :: lt) st h Q := r_inc1 ha hn (inc_p x) hd k
theorem r_incM1 {a0 : Option Value} {lt : List (Option Value)} {l : Nat} (ha : cat1 a0 = true) (hn : 1 < mi.2.2.1) (hd : decode mi.2.1 pc = .ok (.iinc 1 (-1), 3)) (k : R g mi (pc + 3) (a0 :: some (.int (nI l)) :: lt) st h Q) : R g mi pc (a0 :: some (.int (nI (l + 1))) :: lt) st h Q := r_inc1 ha hn (inc_dn l) hd k
theorem r_incQ1 {a0 : Option Value} {lt : List (Option Value)} {x : Int32} (ha : cat1 a0 = true) (hn : 1 < mi.2.2.1) (hd : decode mi.2.1 pc = .ok (.iinc 1 (-1), 3)) (k : R g mi (pc + 3) (a0 :: some (.int (x - 1)) :: lt) st h Q) : R g mi pc (a0 :: some (.int x) :: lt) st h Q := r_inc1 ha hn (inc_q x) hd k
theorem r_incN2 {a0 b0 : Option Value} {lt : List (Option Value)} {l : Nat} (ha : cat1 b0 = true) (hn : 2 < mi.2.2.1) (hd : decode mi.2.1 pc = .ok (.iinc 2 1, 3)) (k : R g mi (pc + 3) (a0 :: b0 :: some (.int (nI (l + 1))) :: lt) st h Q) : R g mi pc (a0 :: b0 :: some (.int (nI l)) :: lt) st h Q := r_inc2 ha hn (inc_up l) hd k
theorem r_incP2 {a0 b0 : Option Value} {lt : List (Option Value)} {x : Int32} (ha : cat1 b0 = true) (hn : 2 < mi.2.2.1) (hd : decode mi.2.1 pc = .ok (.iinc 2 1, 3)) (k : R g mi (pc + 3) (a0 :: b0 :: some (.int (x + 1)) :: lt) st h Q) : R g mi pc (a0 :: b0 :: some (.int x) :: lt) st h Q := r_inc2 ha hn (inc_p x) hd k
theorem r_incM2 {a0 b0 : Option Value} {lt : List (Option Value)} {l : Nat} (ha : cat1 b0 = true) (hn : 2 < mi.2.2.1) (hd : decode mi.2.1 pc = .ok (.iinc 2 (-1), 3)) (k : R g mi (pc + 3) (a0 :: b0 :: some (.int (nI l)) :: lt) st h Q) : R g mi pc (a0 :: b0 :: some (.int (nI (l + 1))) :: lt) st h Q := r_inc2 ha hn (inc_dn l) hd k
theorem r_incQ2 {a0 b0 : Option Value} {lt : List (Option Value)} {x : Int32} (ha : cat1 b0 = true) (hn : 2 < mi.2.2.1) (hd : decode mi.2.1 pc = .ok (.iinc 2 (-1), 3)) (k : R g mi (pc + 3) (a0 :: b0 :: some (.int (x - 1)) :: lt) st h Q) : R g mi pc (a0 :: b0 :: some (.int x) :: lt) st h Q := r_inc2 ha hn (inc_q x) hd k
theorem r_incN3 {a0 b0 c0 : Option Value} {lt : List (Option Value)} {l : Nat} (ha : cat1 c0 = true) (hn : 3 < mi.2.2.1) (hd : decode mi.2.1 pc = .ok (.iinc 3 1, 3)) (k : R g mi (pc + 3) (a0 :: b0 :: c0 :: some (.int (nI (l + 1))) :: lt) st h Q) : R g mi pc (a0 :: b0 :: c0 :: some (.int (nI l)) :: lt) st h Q := r_inc3 ha hn (inc_up l) hd k
theorem r_incP3 {a0 b0 c0 : Option Value} {lt : List (Option Value)} {x : Int32} (ha : cat1 c0 = true) (hn : 3 < mi.2.2.1) (hd : decode mi.2.1 pc = .ok (.iinc 3 1, 3)) (k : R g mi (pc + 3) (a0 :: b0 :: c0 :: some (.int (x + 1)) :: lt) st h Q) : R g mi pc (a0 :: b0 :: c0 :: some (.int x) :: lt) st h Q := r_inc3 ha hn (inc_p x) hd k
theorem r_incM3 {a0 b0 c0 : Option Value} {lt : List (Option Value)} {l : Nat} (ha : cat1 c0 = true) (hn : 3 < mi.2.2.1) (hd : decode mi.2.1 pc = .ok (.iinc 3 (-1), 3)) (k : R g mi (pc + 3) (a0 :: b0 :: c0 :: some (.int (nI l)) :: lt) st h Q) : R g mi pc (a0 :: b0 :: c0 :: some (.int (nI (l + 1))) :: lt) st h Q := r_inc3 ha hn (inc_dn l) hd k
theorem r_incQ3 {a0 b0 c0 : Option Value} {lt : List (Option Value)} {x : Int32} (ha : cat1 c0 = true) (hn : 3 < mi.2.2.1) (hd : decode mi.2.1 pc = .ok (.iinc 3 (-1), 3)) (k : R g mi (pc + 3) (a0 :: b0 :: c0 :: some (.int (x - 1)) :: lt) st h Q) : R g mi pc (a0 :: b0 :: c0 :: some (.int x) :: lt) st h Q := r_inc3 ha hn (inc_q x) hd k
theorem r_incN4 {a0 b0 c0 d0 : Option Value} {lt : List (Option Value)} {l : Nat} (ha : cat1 d0 = true) (hn : 4 < mi.2.2.1) (hd : decode mi.2.1 pc = .ok (.iinc 4 1, 3)) (k : R g mi (pc + 3) (a0 :: b0 :: c0 :: d0 :: some (.int (nI (l + 1))) :: lt) st h Q) : R g mi pc (a0 :: b0 :: c0 :: d0 :: some (.int (nI l)) :: lt) st h Q := r_inc4 ha hn (inc_up l) hd k
theorem r_incP4 {a0 b0 c0 d0 : Option Value} {lt : List (Option Value)} {x : Int32} (ha : cat1 d0 = true) (hn : 4 < mi.2.2.1) (hd : decode mi.2.1 pc = .ok (.iinc 4 1, 3)) (k : R g mi (pc + 3) (a0 :: b0 :: c0 :: d0 :: some (.int (x + 1)) :: lt) st h Q) : R g mi pc (a0 :: b0 :: c0 :: d0 :: some (.int x) :: lt) st h Q := r_inc4 ha hn (inc_p x) hd k
theorem r_incM4 {a0 b0 c0 d0 : Option Value} {lt : List (Option Value)} {l : Nat} (ha : cat1 d0 = true) (hn : 4 < mi.2.2.1) (hd : decode mi.2.1 pc = .ok (.iinc 4 (-1), 3)) (k : R g mi (pc + 3) (a0 :: b0 :: c0 :: d0 :: some (.int (nI l)) :: lt) st h Q) : R g mi pc (a0 :: b0 :: c0 :: d0 :: some (.int (nI (l + 1))) :: lt) st h Q := r_inc4 ha hn (inc_dn l) hd k
theorem r_incQ4 {a0 b0 c0 d0 : Option Value} {lt : List (Option Value)} {x : Int32} (ha : cat1 d0 = true) (hn : 4 < mi.2.2.1) (hd : decode mi.2.1 pc = .ok (.iinc 4 (-1), 3)) (k : R g mi (pc + 3) (a0 :: b0 :: c0 :: d0 :: some (.int (x - 1)) :: lt) st h Q) : R g mi pc (a0 :: b0 :: c0 :: d0 :: some (.int x) :: lt) st h Q := r_inc4 ha hn (inc_q x) hd k
theorem r_incN5 {a0 b0 c0 d0 e0 : Option Value} {lt : List (Option Value)} {l : Nat} (ha : cat1 e0 = true) (hn : 5 < mi.2.2.1) (hd : decode mi.2.1 pc = .ok (.iinc 5 1, 3)) (k : R g mi (pc + 3) (a0 :: b0 :: c0 :: d0 :: e0 :: some (.int (nI (l + 1))) :: lt) st h Q) : R g mi pc (a0 :: b0 :: c0 :: d0 :: e0 :: some (.int (nI l)) :: lt) st h Q := r_inc5 ha hn (inc_up l) hd k
theorem r_incP5 {a0 b0 c0 d0 e0 : Option Value} {lt : List (Option Value)} {x : Int32} (ha : cat1 e0 = true) (hn : 5 < mi.2.2.1) (hd : decode mi.2.1 pc = .ok (.iinc 5 1, 3)) (k : R g mi (pc + 3) (a0 :: b0 :: c0 :: d0 :: e0 :: some (.int (x + 1)) :: lt) st h Q) : R g mi pc (a0 :: b0 :: c0 :: d0 :: e0 :: some (.int x) :: lt) st h Q := r_inc5 ha hn (inc_p x) hd k
theorem r_incM5 {a0 b0 c0 d0 e0 : Option Value} {lt : List (Option Value)} {l : Nat} (ha : cat1 e0 = true) (hn : 5 < mi.2.2.1) (hd : decode mi.2.1 pc = .ok (.iinc 5 (-1), 3)) (k : R g mi (pc + 3) (a0 :: b0 :: c0 :: d0 :: e0 :: some (.int (nI l)) :: lt) st h Q) : R g mi pc (a0 :: b0 :: c0 :: d0 :: e0 :: some (.int (nI (l + 1))) :: lt) st h Q := r_inc5 ha hn (inc_dn l) hd k
theorem r_incQ5 {a0 b0 c0 d0 e0 : Option Value} {lt : List (Option Value)} {x : Int32} (ha : cat1 e0 = true) (hn : 5 < mi.2.2.1) (hd : decode mi.2.1 pc = .ok (.iinc 5 (-1), 3)) (k : R g mi (pc + 3) (a0 :: b0 :: c0 :: d0 :: e0 :: some (.int (x - 1)) :: lt) st h Q) : R g mi pc (a0 :: b0 :: c0 :: d0 :: e0 :: some (.int x) :: lt) st h Q := r_inc5 ha hn (inc_q x) hd k
theorem r_incN6 {a0 b0 c0 d0 e0 f0 : Option Value} {lt : List (Option Value)} {l : Nat} (ha : cat1 f0 = true) (hn : 6 < mi.2.2.1) (hd : decode mi.2.1 pc = .ok (.iinc 6 1, 3)) (k : R g mi (pc + 3) (a0 :: b0 :: c0 :: d0 :: e0 :: f0 :: some (.int (nI (l + 1))) :: lt) st h Q) : R g mi pc (a0 :: b0 :: c0 :: d0 :: e0 :: f0 :: some (.int (nI l)) :: lt) st h Q := r_inc6 ha hn (inc_up l) hd k
theorem r_incP6 {a0 b0 c0 d0 e0 f0 : Option Value} {lt : List (Option Value)} {x : Int32} (ha : cat1 f0 = true) (hn : 6 < mi.2.2.1) (hd : decode mi.2.1 pc = .ok (.iinc 6 1, 3)) (k : R g mi (pc + 3) (a0 :: b0 :: c0 :: d0 :: e0 :: f0 :: some (.int (x + 1)) :: lt) st h Q) : R g mi pc (a0 :: b0 :: c0 :: d0 :: e0 :: f0 :: some (.int x) :: lt) st h Q := r_inc6 ha hn (inc_p x) hd k
theorem r_incM6 {a0 b0 c0 d0 e0 f0 : Option Value} {lt : List (Option Value)} {l : Nat} (ha : cat1 f0 = true) (hn : 6 < mi.2.2.1) (hd : decode mi.2.1 pc = .ok (.iinc 6 (-1), 3)) (k : R g mi (pc + 3) (a0 :: b0 :: c0 :: d0 :: e0 :: f0 :: some (.int (nI l)) :: lt) st h Q) : R g mi pc (a0 :: b0 :: c0 :: d0 :: e0 :: f0 :: some (.int (nI (l + 1))) :: lt) st h Q := r_inc6 ha hn (inc_dn l) hd k
theorem r_incQ6 {a0 b0 c0 d0 e0 f0 : Option Value} {lt : List (Option Value)} {x : Int32} (ha : cat1 f0 = true) (hn : 6 < mi.2.2.1) (hd : decode mi.2.1 pc = .ok (.iinc 6 (-1), 3)) (k : R g mi (pc + 3) (a0 :: b0 :: c0 :: d0 :: e0 :: f0 :: some (.int (x - 1)) :: lt) st h Q) : R g mi pc (a0 :: b0 :: c0 :: d0 :: e0 :: f0 :: some (.int x) :: lt) st h Q := r_inc6 ha hn (inc_q x) hd k
theorem r_incN7 {a0 b0 c0 d0 e0 f0 g0 : Option Value} {lt : List (Option Value)} {l : Nat} (ha : cat1 g0 = true) (hn : 7 < mi.2.2.1) (hd : decode mi.2.1 pc = .ok (.iinc 7 1, 3)) (k : R g mi (pc + 3) (a0 :: b0 :: c0 :: d0 :: e0 :: f0 :: g0 :: some (.int (nI (l + 1))) :: lt) st h Q) : R g mi pc (a0 :: b0 :: c0 :: d0 :: e0 :: f0 :: g0 :: some (.int (nI l)) :: lt) st h Q := r_inc7 ha hn (inc_up l) hd k
theorem r_incP7 {a0 b0 c0 d0 e0 f0 g0 : Option Value} {lt : List (Option Value)} {x : Int32} (ha : cat1 g0 = true) (hn : 7 < mi.2.2.1) (hd : decode mi.2.1 pc = .ok (.iinc 7 1, 3)) (k : R g mi (pc + 3) (a0 :: b0 :: c0 :: d0 :: e0 :: f0 :: g0 :: some (.int (x + 1)) :: lt) st h Q) : R g mi pc (a0 :: b0 :: c0 :: d0 :: e0 :: f0 :: g0 :: some (.int x) :: lt) st h Q := r_inc7 ha hn (inc_p x) hd k
theorem r_incM7 {a0 b0 c0 d0 e0 f0 g0 : Option Value} {lt : List (Option Value)} {l : Nat} (ha : cat1 g0 = true) (hn : 7 < mi.2.2.1) (hd : decode mi.2.1 pc = .ok (.iinc 7 (-1), 3)) (k : R g mi (pc + 3) (a0 :: b0 :: c0 :: d0 :: e0 :: f0 :: g0 :: some (.int (nI l)) :: lt) st h Q) : R g mi pc (a0 :: b0 :: c0 :: d0 :: e0 :: f0 :: g0 :: some (.int (nI (l + 1))) :: lt) st h Q := r_inc7 ha hn (inc_dn l) hd k
theorem r_incQ7 {a0 b0 c0 d0 e0 f0 g0 : Option Value} {lt : List (Option Value)} {x : Int32} (ha : cat1 g0 = true) (hn : 7 < mi.2.2.1) (hd : decode mi.2.1 pc = .ok (.iinc 7 (-1), 3)) (k : R g mi (pc + 3) (a0 :: b0 :: c0 :: d0 :: e0 :: f0 :: g0 :: some (.int (x - 1)) :: lt) st h Q) : R g mi pc (a0 :: b0 :: c0 :: d0 :: e0 :: f0 :: g0 :: some (.int x) :: lt) st h Q := r_inc7 ha hn (inc_q x) hd k
theorem r_incN8 {a0 b0 c0 d0 e0 f0 g0 h0 : Option Value} {lt : List (Option Value)} {l : Nat} (ha : cat1 h0 = true) (hn : 8 < mi.2.2.1) (hd : decode mi.2.1 pc = .ok (.iinc 8 1, 3)) (k : R g mi (pc + 3) (a0 :: b0 :: c0 :: d0 :: e0 :: f0 :: g0 :: h0 :: some (.int (nI (l + 1))) :: lt) st h Q) : R g mi pc (a0 :: b0 :: c0 :: d0 :: e0 :: f0 :: g0 :: h0 :: some (.int (nI l)) :: lt) st h Q := r_inc8 ha hn (inc_up l) hd k
theorem r_incP8 {a0 b0 c0 d0 e0 f0 g0 h0 : Option Value} {lt : List (Option Value)} {x : Int32} (ha : cat1 h0 = true) (hn : 8 < mi.2.2.1) (hd : decode mi.2.1 pc = .ok (.iinc 8 1, 3)) (k : R g mi (pc + 3) (a0 :: b0 :: c0 :: d0 :: e0 :: f0 :: g0 :: h0 :: some (.int (x + 1)) :: lt) st h Q) : R g mi pc (a0 :: b0 :: c0 :: d0 :: e0 :: f0 :: g0 :: h0 :: some (.int x) :: lt) st h Q := r_inc8 ha hn (inc_p x) hd k
theorem r_incM8 {a0 b0 c0 d0 e0 f0 g0 h0 : Option Value} {lt : List (Option Value)} {l : Nat} (ha : cat1 h0 = true) (hn : 8 < mi.2.2.1) (hd : decode mi.2.1 pc = .ok (.iinc 8 (-1), 3)) (k : R g mi (pc + 3) (a0 :: b0 :: c0 :: d0 :: e0 :: f0 :: g0 :: h0 :: some (.int (nI l)) :: lt) st h Q) : R g mi pc (a0 :: b0 :: c0 :: d0 :: e0 :: f0 :: g0 :: h0 :: some (.int (nI (l + 1))) :: lt) st h Q := r_inc8 ha hn (inc_dn l) hd k
theorem r_incQ8 {a0 b0 c0 d0 e0 f0 g0 h0 : Option Value} {lt : List (Option Value)} {x : Int32} (ha : cat1 h0 = true) (hn : 8 < mi.2.2.1) (hd : decode mi.2.1 pc = .ok (.iinc 8 (-1), 3)) (k : R g mi (pc + 3) (a0 :: b0 :: c0 :: d0 :: e0 :: f0 :: g0 :: h0 :: some (.int (x - 1)) :: lt) st h Q) : R g mi pc (a0 :: b0 :: c0 :: d0 :: e0 :: f0 :: g0 :: h0 :: some (.int x) :: lt) st h Q := r_inc8 ha hn (inc_q x) hd k
theorem r_incN9 {a0 b0 c0 d0 e0 f0 g0 h0 i0 : Option Value} {lt : List (Option Value)} {l : Nat} (ha : cat1 i0 = true) (hn : 9 < mi.2.2.1) (hd : decode mi.2.1 pc = .ok (.iinc 9 1, 3)) (k : R g mi (pc + 3) (a0 :: b0 :: c0 :: d0 :: e0 :: f0 :: g0 :: h0 :: i0 :: some (.int (nI (l + 1))) :: lt) st h Q) : R g mi pc (a0 :: b0 :: c0 :: d0 :: e0 :: f0 :: g0 :: h0 :: i0 :: some (.int (nI l)) :: lt) st h Q := r_inc9 ha hn (inc_up l) hd k
theorem r_incP9 {a0 b0 c0 d0 e0 f0 g0 h0 i0 : Option Value} {lt : List (Option Value)} {x : Int32} (ha : cat1 i0 = true) (hn : 9 < mi.2.2.1) (hd : decode mi.2.1 pc = .ok (.iinc 9 1, 3)) (k : R g mi (pc + 3) (a0 :: b0 :: c0 :: d0 :: e0 :: f0 :: g0 :: h0 :: i0 :: some (.int (x + 1)) :: lt) st h Q) : R g mi pc (a0 :: b0 :: c0 :: d0 :: e0 :: f0 :: g0 :: h0 :: i0 :: some (.int x) :: lt) st h Q := r_inc9 ha hn (inc_p x) hd k
theorem r_incM9 {a0 b0 c0 d0 e0 f0 g0 h0 i0 : Option Value} {lt : List (Option Value)} {l : Nat} (ha : cat1 i0 = true) (hn : 9 < mi.2.2.1) (hd : decode mi.2.1 pc = .ok (.iinc 9 (-1), 3)) (k : R g mi (pc + 3) (a0 :: b0 :: c0 :: d0 :: e0 :: f0 :: g0 :: h0 :: i0 :: some (.int (nI l)) :: lt) st h Q) : R g mi pc (a0 :: b0 :: c0 :: d0 :: e0 :: f0 :: g0 :: h0 :: i0 :: some (.int (nI (l + 1))) :: lt) st h Q := r_inc9 ha hn (inc_dn l) hd k
theorem r_incQ9 {a0 b0 c0 d0 e0 f0 g0 h0 i0 : Option Value} {lt : List (Option Value)} {x : Int32} (ha : cat1 i0 = true) (hn : 9 < mi.2.2.1) (hd : decode mi.2.1 pc = .ok (.iinc 9 (-1), 3)) (k : R g mi (pc + 3) (a0 :: b0 :: c0 :: d0 :: e0 :: f0 :: g0 :: h0 :: i0 :: some (.int (x - 1)) :: lt) st h Q) : R g mi pc (a0 :: b0 :: c0 :: d0 :: e0 :: f0 :: g0 :: h0 :: i0 :: some (.int x) :: lt) st h Q := r_inc9 ha hn (inc_q x) hd k
theorem r_incN10 {a0 b0 c0 d0 e0 f0 g0 h0 i0 j0 : Option Value} {lt : List (Option Value)} {l : Nat} (ha : cat1 j0 = true) (hn : 10 < mi.2.2.1) (hd : decode mi.2.1 pc = .ok (.iinc 10 1, 3)) (k : R g mi (pc + 3) (a0 :: b0 :: c0 :: d0 :: e0 :: f0 :: g0 :: h0 :: i0 :: j0 :: some (.int (nI (l + 1))) :: lt) st h Q) : R g mi pc (a0 :: b0 :: c0 :: d0 :: e0 :: f0 :: g0 :: h0 :: i0 :: j0 :: some (.int (nI l)) :: lt) st h Q := r_inc10 ha hn (inc_up l) hd k
theorem r_incP10 {a0 b0 c0 d0 e0 f0 g0 h0 i0 j0 : Option Value} {lt : List (Option Value)} {x : Int32} (ha : cat1 j0 = true) (hn : 10 < mi.2.2.1) (hd : decode mi.2.1 pc = .ok (.iinc 10 1, 3)) (k : R g mi (pc + 3) (a0 :: b0 :: c0 :: d0 :: e0 :: f0 :: g0 :: h0 :: i0 :: j0 :: some (.int (x + 1)) :: lt) st h Q) : R g mi pc (a0 :: b0 :: c0 :: d0 :: e0 :: f0 :: g0 :: h0 :: i0 :: j0 :: some (.int x) :: lt) st h Q := r_inc10 ha hn (inc_p x) hd k
theorem r_incM10 {a0 b0 c0 d0 e0 f0 g0 h0 i0 j0 : Option Value} {lt : List (Option Value)} {l : Nat} (ha : cat1 j0 = true) (hn : 10 < mi.2.2.1) (hd : decode mi.2.1 pc = .ok (.iinc 10 (-1), 3)) (k : R g mi (pc + 3) (a0 :: b0 :: c0 :: d0 :: e0 :: f0 :: g0 :: h0 :: i0 :: j0 :: some (.int (nI l)) :: lt) st h Q) : R g mi pc (a0 :: b0 :: c0 :: d0 :: e0 :: f0 :: g0 :: h0 :: i0 :: j0 :: some (.int (nI (l + 1))) :: lt) st h Q := r_inc10 ha hn (inc_dn l) hd k
theorem r_incQ10 {a0 b0 c0 d0 e0 f0 g0 h0 i0 j0 : Option Value} {lt : List (Option Value)} {x : Int32} (ha : cat1 j0 = true) (hn : 10 < mi.2.2.1) (hd : decode mi.2.1 pc = .ok (.iinc 10 (-1), 3)) (k : R g mi (pc + 3) (a0 :: b0 :: c0 :: d0 :: e0 :: f0 :: g0 :: h0 :: i0 :: j0 :: some (.int (x - 1)) :: lt) st h Q) : R g mi pc (a0 :: b0 :: c0 :: d0 :: e0 :: f0 :: g0 :: h0 :: i0 :: j0 :: some (.int x) :: lt) st h Q := r_inc10 ha hn (inc_q x) hd k
theorem r_incN11 {a0 b0 c0 d0 e0 f0 g0 h0 i0 j0 k0 : Option Value} {lt : List (Option Value)} {l : Nat} (ha : cat1 k0 = true) (hn : 11 < mi.2.2.1) (hd : decode mi.2.1 pc = .ok (.iinc 11 1, 3)) (k : R g mi (pc + 3) (a0 :: b0 :: c0 :: d0 :: e0 :: f0 :: g0 :: h0 :: i0 :: j0 :: k0 :: some (.int (nI (l + 1))) :: lt) st h Q) : R g mi pc (a0 :: b0 :: c0 :: d0 :: e0 :: f0 :: g0 :: h0 :: i0 :: j0 :: k0 :: some (.int (nI l)) :: lt) st h Q := r_inc11 ha hn (inc_up l) hd k
theorem r_incP11 {a0 b0 c0 d0 e0 f0 g0 h0 i0 j0 k0 : Option Value} {lt : List (Option Value)} {x : Int32} (ha : cat1 k0 = true) (hn : 11 < mi.2.2.1) (hd : decode mi.2.1 pc = .ok (.iinc 11 1, 3)) (k : R g mi (pc + 3) (a0 :: b0 :: c0 :: d0 :: e0 :: f0 :: g0 :: h0 :: i0 :: j0 :: k0 :: some (.int (x + 1)) :: lt) st h Q) : R g mi pc (a0 :: b0 :: c0 :: d0 :: e0 :: f0 :: g0 :: h0 :: i0 :: j0 :: k0 :: some (.int x) :: lt) st h Q := r_inc11 ha hn (inc_p x) hd k
theorem r_incM11 {a0 b0 c0 d0 e0 f0 g0 h0 i0 j0 k0 : Option Value} {lt : List (Option Value)} {l : Nat} (ha : cat1 k0 = true) (hn : 11 < mi.2.2.1) (hd : decode mi.2.1 pc = .ok (.iinc 11 (-1), 3)) (k : R g mi (pc + 3) (a0 :: b0 :: c0 :: d0 :: e0 :: f0 :: g0 :: h0 :: i0 :: j0 :: k0 :: some (.int (nI l)) :: lt) st h Q) : R g mi pc (a0 :: b0 :: c0 :: d0 :: e0 :: f0 :: g0 :: h0 :: i0 :: j0 :: k0 :: some (.int (nI (l + 1))) :: lt) st h Q := r_inc11 ha hn (inc_dn l) hd k
theorem r_incQ11 {a0 b0 c0 d0 e0 f0 g0 h0 i0 j0 k0 : Option Value} {lt : List (Option Value)} {x : Int32} (ha : cat1 k0 = true) (hn : 11 < mi.2.2.1) (hd : decode mi.2.1 pc = .ok (.iinc 11 (-1), 3)) (k : R g mi (pc + 3) (a0 :: b0 :: c0 :: d0 :: e0 :: f0 :: g0 :: h0 :: i0 :: j0 :: k0 :: some (.int (x - 1)) :: lt) st h Q) : R g mi pc (a0 :: b0 :: c0 :: d0 :: e0 :: f0 :: g0 :: h0 :: i0 :: j0 :: k0 :: some (.int x) :: lt) st h Q := r_inc11 ha hn (inc_q x) hd k
theorem r_incN12 {a0 b0 c0 d0 e0 f0 g0 h0 i0 j0 k0 l0 : Option Value} {lt : List (Option Value)} {l : Nat} (ha : cat1 l0 = true) (hn : 12 < mi.2.2.1) (hd : decode mi.2.1 pc = .ok (.iinc 12 1, 3)) (k : R g mi (pc + 3) (a0 :: b0 :: c0 :: d0 :: e0 :: f0 :: g0 :: h0 :: i0 :: j0 :: k0 :: l0 :: some (.int (nI (l + 1))) :: lt) st h Q) : R g mi pc (a0 :: b0 :: c0 :: d0 :: e0 :: f0 :: g0 :: h0 :: i0 :: j0 :: k0 :: l0 :: some (.int (nI l)) :: lt) st h Q := r_inc12 ha hn (inc_up l) hd k
theorem r_incP12 {a0 b0 c0 d0 e0 f0 g0 h0 i0 j0 k0 l0 : Option Value} {lt : List (Option Value)} {x : Int32} (ha : cat1 l0 = true) (hn : 12 < mi.2.2.1) (hd : decode mi.2.1 pc = .ok (.iinc 12 1, 3)) (k : R g mi (pc + 3) (a0 :: b0 :: c0 :: d0 :: e0 :: f0 :: g0 :: h0 :: i0 :: j0 :: k0 :: l0 :: some (.int (x + 1)) :: lt) st h Q) : R g mi pc (a0 :: b0 :: c0 :: d0 :: e0 :: f0 :: g0 :: h0 :: i0 :: j0 :: k0 :: l0 :: some (.int x) :: lt) st h Q := r_inc12 ha hn (inc_p x) hd k
theorem r_incM12 {a0 b0 c0 d0 e0 f0 g0 h0 i0 j0 k0 l0 : Option Value} {lt : List (Option Value)} {l : Nat} (ha : cat1 l0 = true) (hn : 12 < mi.2.2.1) (hd : decode mi.2.1 pc = .ok (.iinc 12 (-1), 3)) (k : R g mi (pc + 3) (a0 :: b0 :: c0 :: d0 :: e0 :: f0 :: g0 :: h0 :: i0 :: j0 :: k0 :: l0 :: some (.int (nI l)) :: lt) st h Q) : R g mi pc (a0 :: b0 :: c0 :: d0 :: e0 :: f0 :: g0 :: h0 :: i0 :: j0 :: k0 :: l0 :: some (.int (nI (l + 1))) :: lt) st h Q := r_inc12 ha hn (inc_dn l) hd k
theorem r_incQ12 {a0 b0 c0 d0 e0 f0 g0 h0 i0 j0 k0 l0 : Option Value} {lt : List (Option Value)} {x : Int32} (ha : cat1 l0 = true) (hn : 12 < mi.2.2.1) (hd : decode mi.2.1 pc = .ok (.iinc 12 (-1), 3)) (k : R g mi (pc + 3) (a0 :: b0 :: c0 :: d0 :: e0 :: f0 :: g0 :: h0 :: i0 :: j0 :: k0 :: l0 :: some (.int (x - 1)) :: lt) st h Q) : R g mi pc (a0 :: b0 :: c0 :: d0 :: e0 :: f0 :: g0 :: h0 :: i0 :: j0 :: k0 :: l0 :: some (.int x) :: lt) st h Q := r_inc12 ha hn (inc_q x) hd k
end MORE
/-! canonical rows: each union's number is at most the number of those ahead of it -/
def mx (c : Nat → Nat) : Nat → Nat
  | 0 => 0
  | l + 1 => max (mx c l) (c l + 1)
def Can (n : Nat) (c : Nat → Nat) : Prop := ∀ l, l < n → c l ≤ mx c l
theorem mx_lt {c : Nat → Nat} {j l : Nat} (h : j < l) : c j < mx c l := by
  induction l with
  | zero => omega
  | succ l ih =>
    rcases Nat.lt_or_ge j l with q | q
    · have := ih q
      simp only [mx]; omega
    · have : j = l := by omega
      subst this
      simp only [mx]; omega
theorem mx_congr {c c' : Nat → Nat} {l : Nat} (h : ∀ j, j < l → c j = c' j) : mx c l = mx c' l := by
  induction l with
  | zero => rfl
  | succ l ih => simp only [mx, ih (fun j q => h j (by omega)), h l (by omega)]
theorem mx_le {n : Nat} {c : Nat → Nat} (h : Can n c) : ∀ l, l ≤ n → mx c l ≤ l := by
  intro l
  induction l with
  | zero => intro _; simp [mx]
  | succ l ih =>
    intro hl
    have h1 := ih (by omega)
    have h2 := h l (by omega)
    simp only [mx]; omega
theorem Can.le {n : Nat} {c : Nat → Nat} (h : Can n c) {l : Nat} (hl : l < n) : c l ≤ l := Nat.le_trans (h l hl) (mx_le h l (by omega))
theorem mx_mono {c : Nat → Nat} {j l : Nat} (h : j ≤ l) : mx c j ≤ mx c l := by
  induction l with
  | zero => have : j = 0 := by omega
            subst this; exact Nat.le_refl _
  | succ l ih =>
    rcases Nat.lt_or_ge j (l + 1) with q | q
    · have := ih (by omega)
      simp only [mx]; omega
    · have : j = l + 1 := by omega
      subst this; exact Nat.le_refl _
/-- every number below the greatest is some land's -/
theorem mx_hit {n : Nat} {c : Nat → Nat} (h : Can n c) : ∀ l, l ≤ n → ∀ u, u < mx c l → ∃ j, j < l ∧ c j = u := by
  intro l
  induction l with
  | zero => intro _ u hu; simp [mx] at hu
  | succ l ih =>
    intro hl u hu
    by_cases q : u < mx c l
    · obtain ⟨j, h1, h2⟩ := ih (by omega) u q
      exact ⟨j, by omega, h2⟩
    · have h2 := h l (by omega)
      simp only [mx] at hu
      exact ⟨l, by omega, by omega⟩
/-- one labelling, one canonical row -/
theorem Can.uniq {n : Nat} {c c' : Nat → Nat} (h : Can n c) (h' : Can n c') (he : ∀ l k, l < n → k < n → (c l = c k ↔ c' l = c' k)) : ∀ l, l < n → c l = c' l := by
  intro l
  induction l using Nat.strongRecOn with
  | _ l ih =>
    intro hl
    have hm : mx c l = mx c' l := mx_congr (fun j q => ih j q (by omega))
    have h1 := h l hl
    have h2 := h' l hl
    by_cases q : c l < mx c l
    · obtain ⟨j, hj, ej⟩ := mx_hit h l (by omega) _ q
      have e1 := (he l j hl (by omega)).mp ej.symm
      rw [← ej, ih j hj (by omega), ← e1]
    · by_cases q' : c' l < mx c' l
      · obtain ⟨j, hj, ej⟩ := mx_hit h' l (by omega) _ q'
        have e1 := (he l j hl (by omega)).mpr ej.symm
        have e2 := mx_lt (c := c) hj
        omega
      · omega
/-- a canonical row of a labelling -/
def CanOf (n : Nat) (r : Nat → Int32) (c : Nat → Nat) : Prop := Can n c ∧ ∀ l k, l < n → k < n → (c l = c k ↔ r l = r k)
theorem CanOf.uniq {n : Nat} {r : Nat → Int32} {c c' : Nat → Nat} (h : CanOf n r c) (h' : CanOf n r c') : ∀ l, l < n → c l = c' l := h.1.uniq h'.1 (fun l k a b => (h.2 l k a b).trans (h'.2 l k a b).symm)
theorem nI_inj {a b : Nat} (ha : a < 2 ^ 31) (hb : b < 2 ^ 31) (h : nI a = nI b) : a = b := (nI_eq ha hb).mp h
theorem CanOf.self {n : Nat} {c : Nat → Nat} (h : Can n c) (hn : n ≤ 6) : CanOf n (fun l => nI (c l)) c := ⟨h, fun l k a b => (nI_eq (by have := h.le a; omega) (by have := h.le b; omega)).symm⟩
theorem CanOf.congr {n : Nat} {r r' : Nat → Int32} {c : Nat → Nat} (h : CanOf n r c) (he : ∀ l, l < n → r l = r' l) : CanOf n r' c := ⟨h.1, fun l k a b => by rw [← he l a, ← he k b]; exact h.2 l k a b⟩
theorem Can.congr {n : Nat} {c c' : Nat → Nat} (h : Can n c) (he : ∀ l, l < n → c l = c' l) : Can n c' := fun l hl => by rw [← he l hl, ← mx_congr (fun j q => he j (by omega))]; exact h l hl

