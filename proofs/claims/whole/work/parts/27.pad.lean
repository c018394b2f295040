theorem nI_z {n : Nat} (hn : n < 2 ^ 31) (h : nI n = 0) : n = 0 := nI_inj hn (by decide) (h.trans nI_0.symm)
def PadAt (D : Nat) : Prop := shl[D]? = some (.inr (5, [none, some (D + 1)])) ∧ shl[D + 1]? = some (.inl 20)
/-- the first fault: d signs from i on, with what has been, and whether a letter is just ahead -/
def ffF (s : Nat → Int32) (ln ev : Int32) : Nat → Nat → Int32 → Int32 → Int32
  | 0, i, been, _ => if been = ev then -6 else nI i
  | d + 1, i, been, bh => if s i = 124 then (if bh = 0 then nI i else if been = ev then nI i else ffF s ln ev d (i + 1) been 0)
      else if s i - 97 < 0 then nI i else if ln ≤ s i - 97 then nI i else if (been >>> ((s i - 97) &&& 31)) &&& 1 = 1 then nI i else ffF s ln ev d (i + 1) (been ||| (1 <<< ((s i - 97) &&& 31))) 1
/-- the rows that the signs below i tell, and the union that is being told -/
def pR (s : Nat → Int32) (ln : Int32) (r0 : Nat → Int32) : Nat → (Nat → Int32) × Int32
  | 0 => (r0, 0)
  | i + 1 => if s i = 124 then ((pR s ln r0 i).1, (pR s ln r0 i).2 + 1) else if s i - 97 < 0 then pR s ln r0 i else if ln ≤ s i - 97 then pR s ln r0 i else (upd (pR s ln r0 i).1 (s i - 97).toNatClampNeg (pR s ln r0 i).2, (pR s ln r0 i).2)

set_option maxRecDepth 100000 in
set_option maxHeartbeats 4000000 in
theorem c_addS {g : GG} {D m : Nat} {x : Int32} {h : Hp} (hD : PadAt D) (h0 : h D 0 = nI m) (hm : m < 20) : R g mX5_add 0 [some (.ref (ad g D)), some (.int x)] [] h (Rv fun h' => h' = hset (hset h (D + 1) m x) D 0 (hset h (D + 1) m x D 0 + 1)) := by
  refine r_aload_n rfl dX5_add_0 ?_
  refine r_getR foX5_9 hD.1 rfl dX5_add_1 ?_
  refine r_aload_n rfl dX5_add_4 ?_
  refine r_getI foX5_15 hD.1 rfl dX5_add_5 ?_
  refine r_iload_n rfl dX5_add_8 ?_
  refine r_ias hD.2 h0 hm (by decide) dX5_add_9 ?_
  refine r_aload_n rfl dX5_add_10 ?_
  refine r_dup rfl dX5_add_11 ?_
  refine r_getI foX5_15 hD.1 rfl dX5_add_12 ?_
  refine r_iconst (v := (1 : Int32)) (by decide) dX5_add_15 ?_
  refine r_iadd dX5_add_16 ?_
  refine r_putI fpX5_15 hD.1 rfl dX5_add_17 ?_
  refine ret_v dX5_add_20 rfl ?_
  rfl

set_option maxRecDepth 100000 in
set_option maxHeartbeats 4000000 in
theorem c_firstFault {g : GG} {D n m : Nat} {h : Hp} (hD : PadAt D) (hn : n ≤ 6) (h0 : h D 0 = nI m) (hm : m ≤ 20) : R g mX5_firstFault 0 [some (.ref (ad g D)), some (.int (nI n)), none, none, none, none, none] [] h (Ri fun v h' => h' = h ∧ v = (if n = 0 then 0 else ffF (h (D + 1)) (nI n) (nI (2 ^ n) - 1) m 0 0 0)) := by
  have loop : ∀ (k d i : Nat) (x3 x4 : Int32) {z : Option Value}, i + d = m → d < k → R g mX5_firstFault 20 [some (.ref (ad g D)), some (.int (nI n)), some (.int (nI (2 ^ n) - 1)), some (.int x3), some (.int x4), some (.int (nI i)), z] [] h (Ri fun v h' => h' = h ∧ v = ffF (h (D + 1)) (nI n) (nI (2 ^ n) - 1) d i x3 x4) := by
    intro k
    induction k with
    | zero => intro d i x3 x4 z a b; omega
    | succ k ih =>
      intro d i x3 x4 z a b
      refine r_iload rfl dX5_firstFault_20 ?_
      refine r_aload_n rfl dX5_firstFault_22 ?_
      refine r_getI foX5_15 hD.1 rfl dX5_firstFault_23 ?_
      refine r_icmp_ge 112 dX5_firstFault_26 (by decide) (fun c_26 => ?_) (fun c_26 => ?_)
      · rw [h0] at c_26
        have e : i = m := by have := ge_y (by omega) (by omega) c_26; omega
        obtain rfl : d = 0 := by omega
        refine r_iload_n rfl dX5_firstFault_112 ?_
        refine r_iload_n rfl dX5_firstFault_113 ?_
        refine r_icmp_ne 122 dX5_firstFault_114 (by decide) (fun c_114 => ?_) (fun c_114 => ?_)
        · refine r_aload_n rfl dX5_firstFault_122 ?_
          refine r_getI foX5_15 hD.1 rfl dX5_firstFault_123 ?_
          refine ret_i dX5_firstFault_126 rfl ?_
          exact ⟨rfl, by first | rw [ffF, if_pos c_114] | rw [ffF, if_neg c_114, h0, e]⟩
        · refine r_bipush (v := (-6 : Int32)) (by decide) dX5_firstFault_117 ?_
          refine r_goto 126 dX5_firstFault_119 (by decide) ?_
          refine ret_i dX5_firstFault_126 rfl ?_
          exact ⟨rfl, by first | rw [ffF, if_pos c_114] | rw [ffF, if_neg c_114, h0, e]⟩
      · rw [h0] at c_26
        have hlk : i < m := ge_n (by omega) c_26
        obtain ⟨d, rfl⟩ : ∃ d', d = d' + 1 := ⟨d - 1, by omega⟩
        refine r_aload_n rfl dX5_firstFault_29 ?_
        refine r_getR foX5_9 hD.1 rfl dX5_firstFault_30 ?_
        refine r_iload rfl dX5_firstFault_33 ?_
        refine r_ild hD.2 rfl (by omega) (by decide) dX5_firstFault_35 ?_
        refine r_bipush (v := (124 : Int32)) (by decide) dX5_firstFault_36 ?_
        refine r_icmp_ne 60 dX5_firstFault_38 (by decide) (fun c_38 => ?_) (fun c_38 => ?_)
        · refine r_aload_n rfl dX5_firstFault_60 ?_
          refine r_getR foX5_9 hD.1 rfl dX5_firstFault_61 ?_
          refine r_iload rfl dX5_firstFault_64 ?_
          refine r_ild hD.2 rfl (by omega) (by decide) dX5_firstFault_66 ?_
          refine r_bipush (v := (97 : Int32)) (by decide) dX5_firstFault_67 ?_
          refine r_isub dX5_firstFault_69 ?_
          refine r_ist6 rfl (by decide) dX5_firstFault_70 ?_
          refine r_iload rfl dX5_firstFault_72 ?_
          refine r_if_lt 93 dX5_firstFault_74 (by decide) (fun c_74 => ?_) (fun c_74 => ?_)
          · refine r_iload rfl dX5_firstFault_93 ?_
            refine ret_i dX5_firstFault_95 rfl ?_
            exact ⟨rfl, by first | rw [ffF, if_neg c_38, if_pos c_74] | rw [ffF, if_neg c_38, if_neg c_74, if_pos c_80] | rw [ffF, if_neg c_38, if_neg c_74, if_neg c_80, if_pos c_90]⟩
          · refine r_iload rfl dX5_firstFault_77 ?_
            refine r_iload_n rfl dX5_firstFault_79 ?_
            refine r_icmp_ge 93 dX5_firstFault_80 (by decide) (fun c_80 => ?_) (fun c_80 => ?_)
            · refine r_iload rfl dX5_firstFault_93 ?_
              refine ret_i dX5_firstFault_95 rfl ?_
              exact ⟨rfl, by first | rw [ffF, if_neg c_38, if_pos c_74] | rw [ffF, if_neg c_38, if_neg c_74, if_pos c_80] | rw [ffF, if_neg c_38, if_neg c_74, if_neg c_80, if_pos c_90]⟩
            · refine r_iload_n rfl dX5_firstFault_83 ?_
              refine r_iload rfl dX5_firstFault_84 ?_
              refine r_ishr dX5_firstFault_86 ?_
              refine r_iconst (v := (1 : Int32)) (by decide) dX5_firstFault_87 ?_
              refine r_iand dX5_firstFault_88 ?_
              refine r_iconst (v := (1 : Int32)) (by decide) dX5_firstFault_89 ?_
              refine r_icmp_ne 96 dX5_firstFault_90 (by decide) (fun c_90 => ?_) (fun c_90 => ?_)
              · refine r_iload_n rfl dX5_firstFault_96 ?_
                refine r_iconst (v := (1 : Int32)) (by decide) dX5_firstFault_97 ?_
                refine r_iload rfl dX5_firstFault_98 ?_
                refine r_ishl dX5_firstFault_100 ?_
                refine r_ior dX5_firstFault_101 ?_
                refine r_ist3 rfl (by decide) dX5_firstFault_102 ?_
                refine r_iconst (v := (1 : Int32)) (by decide) dX5_firstFault_103 ?_
                refine r_ist4 rfl (by decide) dX5_firstFault_104 ?_
                first | refine r_incN5 rfl (by decide) dX5_firstFault_106 ?_ | refine r_incP5 rfl (by decide) dX5_firstFault_106 ?_
                refine r_goto 20 dX5_firstFault_109 (by decide) ?_
                refine Ri.imp (ih d (i + 1) _ _ (by omega) (by omega)) (fun v h' q => ⟨q.1, ?_⟩)
                first
                  | rw [q.2, ffF, if_pos c_38, if_neg c_43, if_neg c_48]
                  | rw [q.2, ffF, if_neg c_38, if_neg c_74, if_neg c_80, if_neg c_90]
              · refine r_iload rfl dX5_firstFault_93 ?_
                refine ret_i dX5_firstFault_95 rfl ?_
                exact ⟨rfl, by first | rw [ffF, if_neg c_38, if_pos c_74] | rw [ffF, if_neg c_38, if_neg c_74, if_pos c_80] | rw [ffF, if_neg c_38, if_neg c_74, if_neg c_80, if_pos c_90]⟩
        · refine r_iload rfl dX5_firstFault_41 ?_
          refine r_if_eq 51 dX5_firstFault_43 (by decide) (fun c_43 => ?_) (fun c_43 => ?_)
          · refine r_iload rfl dX5_firstFault_51 ?_
            refine ret_i dX5_firstFault_53 rfl ?_
            exact ⟨rfl, by first | rw [ffF, if_pos c_38, if_pos c_43] | rw [ffF, if_pos c_38, if_neg c_43, if_pos c_48]⟩
          · refine r_iload_n rfl dX5_firstFault_46 ?_
            refine r_iload_n rfl dX5_firstFault_47 ?_
            refine r_icmp_ne 54 dX5_firstFault_48 (by decide) (fun c_48 => ?_) (fun c_48 => ?_)
            · refine r_iconst (v := (0 : Int32)) (by decide) dX5_firstFault_54 ?_
              refine r_ist4 rfl (by decide) dX5_firstFault_55 ?_
              refine r_goto 106 dX5_firstFault_57 (by decide) ?_
              first | refine r_incN5 rfl (by decide) dX5_firstFault_106 ?_ | refine r_incP5 rfl (by decide) dX5_firstFault_106 ?_
              refine r_goto 20 dX5_firstFault_109 (by decide) ?_
              refine Ri.imp (ih d (i + 1) _ _ (by omega) (by omega)) (fun v h' q => ⟨q.1, ?_⟩)
              first
                | rw [q.2, ffF, if_pos c_38, if_neg c_43, if_neg c_48]
                | rw [q.2, ffF, if_neg c_38, if_neg c_74, if_neg c_80, if_neg c_90]
            · refine r_iload rfl dX5_firstFault_51 ?_
              refine ret_i dX5_firstFault_53 rfl ?_
              exact ⟨rfl, by first | rw [ffF, if_pos c_38, if_pos c_43] | rw [ffF, if_pos c_38, if_neg c_43, if_pos c_48]⟩
  refine r_iload_n rfl dX5_firstFault_0 ?_
  refine r_if_ne 6 dX5_firstFault_1 (by decide) (fun c_1 => ?_) (fun c_1 => ?_)
  · refine r_iconst (v := (1 : Int32)) (by decide) dX5_firstFault_6 ?_
    refine r_iload_n rfl dX5_firstFault_7 ?_
    refine r_ishl dX5_firstFault_8 ?_
    rw [shl1 hn]
    refine r_iconst (v := (1 : Int32)) (by decide) dX5_firstFault_9 ?_
    refine r_isub dX5_firstFault_10 ?_
    refine r_ist2 rfl (by decide) dX5_firstFault_11 ?_
    refine r_iconst (v := (0 : Int32)) (by decide) dX5_firstFault_12 ?_
    refine r_ist3 rfl (by decide) dX5_firstFault_13 ?_
    refine r_iconst (v := (0 : Int32)) (by decide) dX5_firstFault_14 ?_
    refine r_ist4 rfl (by decide) dX5_firstFault_15 ?_
    refine r_iconst (v := nI 0) (by decide) dX5_firstFault_17 ?_
    refine r_ist5 rfl (by decide) dX5_firstFault_18 ?_
    refine Ri.imp (loop (m + 1) m 0 _ _ (by omega) (by omega)) (fun v h' q => ⟨q.1, ?_⟩)
    rw [q.2, if_neg (fun e => c_1 (by rw [e]; rfl))]
  · refine r_iconst (v := (0 : Int32)) (by decide) dX5_firstFault_4 ?_
    refine ret_i dX5_firstFault_5 rfl ?_
    exact ⟨rfl, by rw [if_pos (nI_z (by omega) c_1)]⟩

set_option maxRecDepth 100000 in
set_option maxHeartbeats 4000000 in
theorem c_putInto {g : GG} {D P n m : Nat} {h : Hp} (hD : PadAt D) (hP : PartAt P) (hd : D + 2 ≤ P ∨ P + 3 ≤ D) (hn : n ≤ 6) (h0 : h D 0 = nI m) (hm : m ≤ 20) (hp0 : h P 0 = nI n) : R g mX5_putInto 0 [some (.ref (ad g D)), some (.ref (ad g P)), none, none, none] [] h (Rv fun h' => KeepP P h h' ∧ ∃ c', CanOf n (pR (h (D + 1)) (nI n) (h (P + 1)) m).1 c' ∧ PS h' P n c') := by
  have loop : ∀ (k i : Nat) (h1 : Hp) (x2 : Int32) (z : Option Value), i ≤ m → m < i + k → KeepA (P + 1) h h1 → h1 (P + 1) = (pR (h (D + 1)) (nI n) (h (P + 1)) i).1 → x2 = (pR (h (D + 1)) (nI n) (h (P + 1)) i).2 → R g mX5_putInto 4 [some (.ref (ad g D)), some (.ref (ad g P)), some (.int x2), some (.int (nI i)), z] [] h1 (Rv fun h' => KeepP P h h' ∧ ∃ c', CanOf n (pR (h (D + 1)) (nI n) (h (P + 1)) m).1 c' ∧ PS h' P n c') := by
    intro k
    induction k with
    | zero => intro i h1 x2 z a b; omega
    | succ k ih =>
      intro i h1 x2 z a b k1 r1 e2
      refine r_iload_n rfl dX5_putInto_4 ?_
      refine r_aload_n rfl dX5_putInto_5 ?_
      refine r_getI foX5_15 hD.1 rfl dX5_putInto_6 ?_
      refine r_icmp_ge 68 dX5_putInto_9 (by decide) (fun c_9 => ?_) (fun c_9 => ?_)
      · rw [k1 D (by omega), h0] at c_9
        have e : i = m := by have := ge_y (by omega) (by omega) c_9; omega
        subst e
        refine r_aload_n rfl dX5_putInto_68 ?_
        refine r_cV0v (T := TX6) (N := 4) moX6_number lkX5_25 hP.1 rfl (Nat.le_of_ble_eq_true rfl) ⟨by decide, by decide⟩ (Nat.le_of_ble_eq_true rfl) dX5_putInto_69 rfl (c_number hP hn (by rw [k1 P (by omega)]; exact hp0)) (fun h1 q1 => ?_)
        refine ret_v dX5_putInto_72 rfl ?_
        obtain ⟨a, c', b, d⟩ := q1
        rw [r1] at b
        exact ⟨KeepP.trans (fun q x y z => k1 q y) a, c', b, d⟩
      · rw [k1 D (by omega), h0] at c_9
        have hlk : i < m := ge_n (by omega) c_9
        have es : h1 (D + 1) = h (D + 1) := k1 _ (by omega)
        refine r_aload_n rfl dX5_putInto_12 ?_
        refine r_getR foX5_9 hD.1 rfl dX5_putInto_13 ?_
        refine r_iload_n rfl dX5_putInto_16 ?_
        refine r_ild hD.2 rfl (by omega) (by decide) dX5_putInto_17 ?_
        rw [es]
        refine r_bipush (v := (97 : Int32)) (by decide) dX5_putInto_18 ?_
        refine r_isub dX5_putInto_20 ?_
        refine r_ist4 rfl (by decide) dX5_putInto_21 ?_
        refine r_aload_n rfl dX5_putInto_23 ?_
        refine r_getR foX5_9 hD.1 rfl dX5_putInto_24 ?_
        refine r_iload_n rfl dX5_putInto_27 ?_
        refine r_ild hD.2 rfl (by omega) (by decide) dX5_putInto_28 ?_
        rw [es]
        refine r_bipush (v := (124 : Int32)) (by decide) dX5_putInto_29 ?_
        refine r_icmp_ne 40 dX5_putInto_31 (by decide) (fun c_31 => ?_) (fun c_31 => ?_)
        · refine r_iload rfl dX5_putInto_40 ?_
          refine r_if_lt 62 dX5_putInto_42 (by decide) (fun c_42 => ?_) (fun c_42 => ?_)
          · first | refine r_incN3 rfl (by decide) dX5_putInto_62 ?_ | refine r_incP3 rfl (by decide) dX5_putInto_62 ?_
            refine r_goto 4 dX5_putInto_65 (by decide) ?_
            first
              | exact ih (i + 1) _ _ _ (by omega) (by omega) k1 (by rw [pR, if_pos c_31]; exact r1) (by rw [pR, if_pos c_31, e2])
              | exact ih (i + 1) _ _ _ (by omega) (by omega) k1 (by rw [pR, if_neg c_31, if_pos c_42]; exact r1) (by rw [pR, if_neg c_31, if_pos c_42, e2])
              | (rw [k1 P (by omega), hp0] at c_51
                 exact ih (i + 1) _ _ _ (by omega) (by omega) k1 (by rw [pR, if_neg c_31, if_neg c_42, if_pos c_51]; exact r1) (by rw [pR, if_neg c_31, if_neg c_42, if_pos c_51, e2]))
              | exact ih (i + 1) _ _ _ (by omega) (by omega) (fun q a => by rw [hset_ne a]; exact k1 q a) (by rw [hset_same, pR, if_neg c_31, if_neg c_42, if_neg c_51, r1, e2, hj2, nI_clamp hj1]) (by rw [pR, if_neg c_31, if_neg c_42, if_neg c_51, e2])
          · refine r_iload rfl dX5_putInto_45 ?_
            refine r_aload_n rfl dX5_putInto_47 ?_
            refine r_getI foX5_19 hP.1 rfl dX5_putInto_48 ?_
            refine r_icmp_ge 62 dX5_putInto_51 (by decide) (fun c_51 => ?_) (fun c_51 => ?_)
            · first | refine r_incN3 rfl (by decide) dX5_putInto_62 ?_ | refine r_incP3 rfl (by decide) dX5_putInto_62 ?_
              refine r_goto 4 dX5_putInto_65 (by decide) ?_
              first
                | exact ih (i + 1) _ _ _ (by omega) (by omega) k1 (by rw [pR, if_pos c_31]; exact r1) (by rw [pR, if_pos c_31, e2])
                | exact ih (i + 1) _ _ _ (by omega) (by omega) k1 (by rw [pR, if_neg c_31, if_pos c_42]; exact r1) (by rw [pR, if_neg c_31, if_pos c_42, e2])
                | (rw [k1 P (by omega), hp0] at c_51
                   exact ih (i + 1) _ _ _ (by omega) (by omega) k1 (by rw [pR, if_neg c_31, if_neg c_42, if_pos c_51]; exact r1) (by rw [pR, if_neg c_31, if_neg c_42, if_pos c_51, e2]))
                | exact ih (i + 1) _ _ _ (by omega) (by omega) (fun q a => by rw [hset_ne a]; exact k1 q a) (by rw [hset_same, pR, if_neg c_31, if_neg c_42, if_neg c_51, r1, e2, hj2, nI_clamp hj1]) (by rw [pR, if_neg c_31, if_neg c_42, if_neg c_51, e2])
            · rw [k1 P (by omega), hp0] at c_51
              obtain ⟨jj, hj1, hj2⟩ := nI_of c_42
              have hj3 : jj < n := by
                rcases Nat.lt_or_ge jj n with q | q
                · exact q
                · exact absurd (by rw [hj2]; exact nI_le q hj1) c_51
              refine r_aload_n rfl dX5_putInto_54 ?_
              refine r_getR foX5_22 hP.1 rfl dX5_putInto_55 ?_
              refine r_iload rfl dX5_putInto_58 ?_
              refine r_iload_n rfl dX5_putInto_60 ?_
              refine r_ias hP.2.1 hj2 (by omega) (by decide) dX5_putInto_61 ?_
              first | refine r_incN3 rfl (by decide) dX5_putInto_62 ?_ | refine r_incP3 rfl (by decide) dX5_putInto_62 ?_
              refine r_goto 4 dX5_putInto_65 (by decide) ?_
              first
                | exact ih (i + 1) _ _ _ (by omega) (by omega) k1 (by rw [pR, if_pos c_31]; exact r1) (by rw [pR, if_pos c_31, e2])
                | exact ih (i + 1) _ _ _ (by omega) (by omega) k1 (by rw [pR, if_neg c_31, if_pos c_42]; exact r1) (by rw [pR, if_neg c_31, if_pos c_42, e2])
                | (rw [k1 P (by omega), hp0] at c_51
                   exact ih (i + 1) _ _ _ (by omega) (by omega) k1 (by rw [pR, if_neg c_31, if_neg c_42, if_pos c_51]; exact r1) (by rw [pR, if_neg c_31, if_neg c_42, if_pos c_51, e2]))
                | exact ih (i + 1) _ _ _ (by omega) (by omega) (fun q a => by rw [hset_ne a]; exact k1 q a) (by rw [hset_same, pR, if_neg c_31, if_neg c_42, if_neg c_51, r1, e2, hj2, nI_clamp hj1]) (by rw [pR, if_neg c_31, if_neg c_42, if_neg c_51, e2])
        · first | refine r_incN2 rfl (by decide) dX5_putInto_34 ?_ | refine r_incP2 rfl (by decide) dX5_putInto_34 ?_
          refine r_goto 62 dX5_putInto_37 (by decide) ?_
          first | refine r_incN3 rfl (by decide) dX5_putInto_62 ?_ | refine r_incP3 rfl (by decide) dX5_putInto_62 ?_
          refine r_goto 4 dX5_putInto_65 (by decide) ?_
          first
            | exact ih (i + 1) _ _ _ (by omega) (by omega) k1 (by rw [pR, if_pos c_31]; exact r1) (by rw [pR, if_pos c_31, e2])
            | exact ih (i + 1) _ _ _ (by omega) (by omega) k1 (by rw [pR, if_neg c_31, if_pos c_42]; exact r1) (by rw [pR, if_neg c_31, if_pos c_42, e2])
            | (rw [k1 P (by omega), hp0] at c_51
               exact ih (i + 1) _ _ _ (by omega) (by omega) k1 (by rw [pR, if_neg c_31, if_neg c_42, if_pos c_51]; exact r1) (by rw [pR, if_neg c_31, if_neg c_42, if_pos c_51, e2]))
            | exact ih (i + 1) _ _ _ (by omega) (by omega) (fun q a => by rw [hset_ne a]; exact k1 q a) (by rw [hset_same, pR, if_neg c_31, if_neg c_42, if_neg c_51, r1, e2, hj2, nI_clamp hj1]) (by rw [pR, if_neg c_31, if_neg c_42, if_neg c_51, e2])
  refine r_iconst (v := (0 : Int32)) (by decide) dX5_putInto_0 ?_
  refine r_ist2 rfl (by decide) dX5_putInto_1 ?_
  refine r_iconst (v := nI 0) (by decide) dX5_putInto_2 ?_
  refine r_ist3 rfl (by decide) dX5_putInto_3 ?_
  exact loop (m + 1) 0 _ _ _ (by omega) (by omega) (fun _ _ => rfl) rfl rfl

