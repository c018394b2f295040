theorem and1 (x : Int32) : x &&& 1 = 0 ∨ x &&& 1 = 1 := by
  have h : (x &&& 1).toBitVec = x.toBitVec &&& 1#32 := rfl
  rw [BitVec.and_one_eq_setWidth_ofBool_getLsbD] at h
  cases e : x.toBitVec.getLsbD 0 with
  | false => exact Or.inl (Int32.toBitVec_inj.mp (by rw [h, e]; rfl))
  | true => exact Or.inr (Int32.toBitVec_inj.mp (by rw [h, e]; rfl))
theorem rng_let {n : Nat} {x : Int32} (hn : n ≤ 6) : rng 97 (97 + nI n - 1) x = isL n (x - 97) := by
  have e96 : (97 : Int32) + nI n - 1 = nI (96 + n) := by
    rw [show (97 : Int32) = nI 97 by decide, nI_add, show 97 + n = (96 + n) + 1 by omega, nI_pred]
  rw [e96]
  by_cases q : rng 97 (nI (96 + n)) x = 0
  · rw [q]
    rcases isL_01 n (x - 97) with z | z
    · exact z.symm
    · obtain ⟨j, hj, e⟩ := isL_y (n := n) (x := x - 97) (by omega) (by rw [z]; decide)
      have ex : x = nI (97 + j) := by
        rw [← nI_add, ← e, show nI 97 = 97 by decide, Int32.add_comm, Int32.sub_add_cancel]
      exact absurd ⟨by rw [ex]; exact nI_nlt (a := 97 + j) (b := 97) (by omega) (by omega), by rw [ex]; exact nI_nlt (by omega) (by omega)⟩ (rng_0 q)
  · obtain ⟨h1, h2⟩ := rng_1 q
    obtain ⟨j, hj, e⟩ := nI_of (x := x) (fun z => h1 (Int32.lt_trans z (by decide)))
    subst e
    have a1 : 97 ≤ j := (nI_leI (by omega) hj).mp (Int32.not_lt.mp h1)
    have a2 : j ≤ 96 + n := (nI_leI hj (by omega)).mp (Int32.not_lt.mp h2)
    obtain ⟨d, rfl⟩ : ∃ d, j = d + 97 := ⟨j - 97, by omega⟩
    have e1 : nI (d + 97) - 97 = nI d := by
      show nI (d + 97) - nI 97 = nI d
      rw [← nI_add, Int32.add_sub_cancel]
    rw [e1, isL_k (by omega) (by omega)]
    exact (rng_01 _ _ _).resolve_left q
theorem let124 {n : Nat} {x : Int32} (hn : n ≤ 6) (h : x = 124) : isL n (x - 97) = 0 := by
  subst h
  rw [isL, if_neg (by decide), if_pos]
  rw [show (124 : Int32) - 97 = nI 27 by decide]
  exact nI_le (by omega) (by omega)
theorem isL_or {n : Nat} {x : Int32} (h : isL n x = 0) : x < 0 ∨ nI n ≤ x := by
  by_cases q : x < 0
  · exact Or.inl q
  · refine Or.inr (Classical.byContradiction fun z => ?_)
    rw [isL, if_neg q, if_neg z] at h
    exact absurd h (by decide)
theorem isL_and {n : Nat} {x : Int32} (h : ¬ isL n x = 0) : ¬ x < 0 ∧ ¬ nI n ≤ x := by
  refine ⟨fun q => h (by rw [isL, if_pos q]), fun q => h ?_⟩
  by_cases z : x < 0
  · rw [isL, if_pos z]
  · rw [isL, if_neg z, if_pos q]
theorem ff_bad {s : Nat → Int32} {n : Nat} {ev been bh : Int32} {d i : Nat} (h1 : ¬ s i = 124) (h2 : isL n (s i - 97) = 0) : ffF s (nI n) ev (d + 1) i been bh = nI i := by
  rw [ffF, if_neg h1]
  rcases isL_or h2 with q | q
  · rw [if_pos q]
  · by_cases z : s i - 97 < 0
    · rw [if_pos z]
    · rw [if_neg z, if_pos q]
theorem ff_was {s : Nat → Int32} {n : Nat} {ev been bh : Int32} {d i : Nat} (h1 : ¬ s i = 124) (h2 : ¬ isL n (s i - 97) = 0) (h3 : ¬ (been >>> ((s i - 97) &&& 31)) &&& 1 = 0) : ffF s (nI n) ev (d + 1) i been bh = nI i := by
  rw [ffF, if_neg h1, if_neg (isL_and h2).1, if_neg (isL_and h2).2, if_pos ((and1 _).resolve_left h3)]
theorem ff_new {s : Nat → Int32} {n : Nat} {ev been bh : Int32} {d i : Nat} (h1 : ¬ s i = 124) (h2 : ¬ isL n (s i - 97) = 0) (h3 : (been >>> ((s i - 97) &&& 31)) &&& 1 = 0) : ffF s (nI n) ev (d + 1) i been bh = ffF s (nI n) ev d (i + 1) (been ||| (1 <<< ((s i - 97) &&& 31))) 1 := by
  rw [ffF, if_neg h1, if_neg (isL_and h2).1, if_neg (isL_and h2).2, if_neg (by rw [h3]; decide)]

theorem isL_no (x : Int32) : isL 0 x = 0 := by
  by_cases q : x < 0
  · rw [isL, if_pos q]
  · rw [isL, if_neg q, if_pos (show nI 0 ≤ x from Int32.not_lt.mp q)]
set_option maxRecDepth 100000 in
set_option maxHeartbeats 400000 in
theorem m_fault {g : GG} {n m : Nat} {h : Hp} {c : Nat → Nat} {E : Ec} {s : Nat → Int32} (I : RF h n c m E s) : R g mX9_fault 0 [some (.ref (ad g 62)), none, none, none, none, none, none] [] h (Ri fun v h' => h' = h ∧ v = (if n = 0 then 0 else ffF s (nI n) (nI (2 ^ n) - 1) m 0 0 0)) := by
  have hn6 := I.1.1
  have hM := I.2.2.2.2.1.1
  have hm20 := I.2.2.2.2.1.2
  have eE := I.2.1.1
  subst eE
  have eS := I.2.2.2.2.2
  subst eS
  by_cases hz : n = 0
  · subst hz
    refine r_iconst (v := (0 : Int32)) (by decide) dX9_fault_0 ?_
    refine r_ist1 rfl (by decide) dX9_fault_1 ?_
    refine r_iconst (v := (0 : Int32)) (by decide) dX9_fault_2 ?_
    refine r_ist2 rfl (by decide) dX9_fault_3 ?_
    refine r_iconst (v := nI 0) (by decide) dX9_fault_4 ?_
    refine r_ist3 rfl (by decide) dX9_fault_5 ?_
    refine r_iload_n rfl dX9_fault_6 ?_
    refine r_aload_n rfl dX9_fault_7 ?_
    refine r_getI foX9_95 rfl rfl dX9_fault_8 ?_
    rw [hM]
    refine r_icmp_ge 133 dX9_fault_11 (by decide) (fun c_11 => ?_) (fun c_11 => ?_)
    · have e : 0 = m := by have := ge_y (by omega) (by omega) c_11; omega
      refine r_iload_n rfl dX9_fault_133 ?_
      refine r_if_eq 154 dX9_fault_134 (by decide) (fun c_134 => ?_) (fun c_134 => ?_)
      · refine r_aload_n rfl dX9_fault_154 ?_
        refine r_getI foX9_95 rfl rfl dX9_fault_155 ?_
        rw [hM]
        refine ret_i dX9_fault_158 rfl ?_
        first
          | exact absurd rfl c_134
          | exact ⟨rfl, by rw [← e]; rfl⟩
      · exact absurd rfl c_134
    · have hlk : 0 < m := ge_n (by omega) c_11
      refine r_aload_n rfl dX9_fault_14 ?_
      refine r_getR foX9_19 rfl rfl dX9_fault_15 ?_
      refine r_iload_n rfl dX9_fault_18 ?_
      refine r_ild rfl rfl (by omega) (by decide) dX9_fault_19 ?_
      refine r_ist4 rfl (by decide) dX9_fault_20 ?_
      refine r_iload rfl dX9_fault_22 ?_
      refine r_i2l dX9_fault_24 ?_
      refine r_ldc2 kcX9_98 dX9_fault_25 ?_
      refine r_bipush (v := (97 : Int32)) (by decide) dX9_fault_28 ?_
      refine r_aload_n rfl dX9_fault_30 ?_
      refine r_getI foX9_55 rfl rfl dX9_fault_31 ?_
      rw [I.1.2]
      refine r_iadd dX9_fault_34 ?_
      refine r_iconst (v := (1 : Int32)) (by decide) dX9_fault_35 ?_
      refine r_isub dX9_fault_36 ?_
      refine r_i2l dX9_fault_37 ?_
      refine r_cS3i moX9_in lkX9_59 (Nat.le_of_ble_eq_true rfl) ⟨by decide, by decide⟩ (Nat.le_of_ble_eq_true rfl) dX9_fault_38 rfl (c_in (b := 97) (c := 97 + nI 0 - 1) (by decide) rfl) (fun v1 h1 q1 => ?_)
      obtain ⟨e1, f1⟩ := q1
      subst f1
      rw [e1, rng_let (n := 0) (by omega)]
      refine r_if_eq 60 dX9_fault_41 (by decide) (fun c_41 => ?_) (fun c_41 => ?_)
      · refine r_iconst (v := (0 : Int32)) (by decide) dX9_fault_60 ?_
        refine r_ist5 rfl (by decide) dX9_fault_61 ?_
        refine r_iload rfl dX9_fault_63 ?_
        refine r_bipush (v := (124 : Int32)) (by decide) dX9_fault_65 ?_
        refine r_icmp_ne 90 dX9_fault_67 (by decide) (fun c_67 => ?_) (fun c_67 => ?_)
        · refine r_iconst (v := (0 : Int32)) (by decide) dX9_fault_90 ?_
          refine r_ist6 rfl (by decide) dX9_fault_91 ?_
          refine r_iload rfl dX9_fault_93 ?_
          refine r_if_ne 105 dX9_fault_95 (by decide) (fun c_95 => ?_) (fun c_95 => ?_)
          · first
              | exact absurd rfl c_95
              | exact absurd rfl c_100
          · refine r_iload rfl dX9_fault_98 ?_
            refine r_if_ne 105 dX9_fault_100 (by decide) (fun c_100 => ?_) (fun c_100 => ?_)
            · first
                | exact absurd rfl c_95
                | exact absurd rfl c_100
            · refine r_iload_n rfl dX9_fault_103 ?_
              refine ret_i dX9_fault_104 rfl ?_
              exact ⟨rfl, rfl⟩
        · refine r_iload_n rfl dX9_fault_70 ?_
          refine r_if_eq 90 dX9_fault_71 (by decide) (fun c_71 => ?_) (fun c_71 => ?_)
          · refine r_iconst (v := (0 : Int32)) (by decide) dX9_fault_90 ?_
            refine r_ist6 rfl (by decide) dX9_fault_91 ?_
            refine r_iload rfl dX9_fault_93 ?_
            refine r_if_ne 105 dX9_fault_95 (by decide) (fun c_95 => ?_) (fun c_95 => ?_)
            · first
                | exact absurd rfl c_95
                | exact absurd rfl c_100
            · refine r_iload rfl dX9_fault_98 ?_
              refine r_if_ne 105 dX9_fault_100 (by decide) (fun c_100 => ?_) (fun c_100 => ?_)
              · first
                  | exact absurd rfl c_95
                  | exact absurd rfl c_100
              · refine r_iload_n rfl dX9_fault_103 ?_
                refine ret_i dX9_fault_104 rfl ?_
                exact ⟨rfl, rfl⟩
          · exact absurd rfl c_71
      · exact absurd (isL_no _) c_41
  have loop : ∀ (k d i : Nat) (been bh : Int32) {z4 z5 z6 : Option Value}, i + d = m → d < k → (bh = 0 → ¬ been = nI (2 ^ n) - 1) → R g mX9_fault 6 [some (.ref (ad g 62)), some (.int been), some (.int bh), some (.int (nI i)), z4, z5, z6] [] h (Ri fun v h' => h' = h ∧ v = ffF (h 66) (nI n) (nI (2 ^ n) - 1) d i been bh) := by
    intro k
    induction k with
    | zero => intro d i been bh z4 z5 z6 a b; omega
    | succ k ih =>
      intro d i been bh z4 z5 z6 a b hb
      refine r_iload_n rfl dX9_fault_6 ?_
      refine r_aload_n rfl dX9_fault_7 ?_
      refine r_getI foX9_95 rfl rfl dX9_fault_8 ?_
      rw [hM]
      refine r_icmp_ge 133 dX9_fault_11 (by decide) (fun c_11 => ?_) (fun c_11 => ?_)
      · have e : i = m := by have := ge_y (by omega) (by omega) c_11; omega
        obtain rfl : d = 0 := by omega
        refine r_iload_n rfl dX9_fault_133 ?_
        refine r_if_eq 154 dX9_fault_134 (by decide) (fun c_134 => ?_) (fun c_134 => ?_)
        · refine r_aload_n rfl dX9_fault_154 ?_
          refine r_getI foX9_95 rfl rfl dX9_fault_155 ?_
          rw [hM]
          refine ret_i dX9_fault_158 rfl ?_
          first
            | exact ⟨rfl, by rw [ffF, if_neg (hb c_134), e]⟩
            | exact ⟨rfl, by rw [ffF, if_neg c_146, e]⟩
            | exact ⟨rfl, by rw [ffF, if_pos c_146]⟩
        · refine r_iload_n rfl dX9_fault_137 ?_
          refine r_iconst (v := (1 : Int32)) (by decide) dX9_fault_138 ?_
          refine r_aload_n rfl dX9_fault_139 ?_
          refine r_getI foX9_55 rfl rfl dX9_fault_140 ?_
          rw [I.1.2]
          refine r_ishl dX9_fault_143 ?_
          rw [shl1 hn6]
          refine r_iconst (v := (1 : Int32)) (by decide) dX9_fault_144 ?_
          refine r_isub dX9_fault_145 ?_
          refine r_icmp_ne 154 dX9_fault_146 (by decide) (fun c_146 => ?_) (fun c_146 => ?_)
          · refine r_aload_n rfl dX9_fault_154 ?_
            refine r_getI foX9_95 rfl rfl dX9_fault_155 ?_
            rw [hM]
            refine ret_i dX9_fault_158 rfl ?_
            first
              | exact ⟨rfl, by rw [ffF, if_neg (hb c_134), e]⟩
              | exact ⟨rfl, by rw [ffF, if_neg c_146, e]⟩
              | exact ⟨rfl, by rw [ffF, if_pos c_146]⟩
          · refine r_bipush (v := (-6 : Int32)) (by decide) dX9_fault_149 ?_
            refine r_goto 158 dX9_fault_151 (by decide) ?_
            refine ret_i dX9_fault_158 rfl ?_
            first
              | exact ⟨rfl, by rw [ffF, if_neg (hb c_134), e]⟩
              | exact ⟨rfl, by rw [ffF, if_neg c_146, e]⟩
              | exact ⟨rfl, by rw [ffF, if_pos c_146]⟩
      · have hlk : i < m := ge_n (by omega) c_11
        obtain ⟨d, rfl⟩ : ∃ d', d = d' + 1 := ⟨d - 1, by omega⟩
        refine r_aload_n rfl dX9_fault_14 ?_
        refine r_getR foX9_19 rfl rfl dX9_fault_15 ?_
        refine r_iload_n rfl dX9_fault_18 ?_
        refine r_ild rfl rfl (by omega) (by decide) dX9_fault_19 ?_
        refine r_ist4 rfl (by decide) dX9_fault_20 ?_
        refine r_iload rfl dX9_fault_22 ?_
        refine r_i2l dX9_fault_24 ?_
        refine r_ldc2 kcX9_98 dX9_fault_25 ?_
        refine r_bipush (v := (97 : Int32)) (by decide) dX9_fault_28 ?_
        refine r_aload_n rfl dX9_fault_30 ?_
        refine r_getI foX9_55 rfl rfl dX9_fault_31 ?_
        rw [I.1.2]
        refine r_iadd dX9_fault_34 ?_
        refine r_iconst (v := (1 : Int32)) (by decide) dX9_fault_35 ?_
        refine r_isub dX9_fault_36 ?_
        refine r_i2l dX9_fault_37 ?_
        refine r_cS3i moX9_in lkX9_59 (Nat.le_of_ble_eq_true rfl) ⟨by decide, by decide⟩ (Nat.le_of_ble_eq_true rfl) dX9_fault_38 rfl (c_in (b := 97) (c := 97 + nI n - 1) (by decide) rfl) (fun v21 h21 q21 => ?_)
        obtain ⟨e21, f21⟩ := q21
        subst f21
        rw [e21, rng_let hn6]
        refine r_if_eq 60 dX9_fault_41 (by decide) (fun c_41 => ?_) (fun c_41 => ?_)
        · refine r_iconst (v := (0 : Int32)) (by decide) dX9_fault_60 ?_
          refine r_ist5 rfl (by decide) dX9_fault_61 ?_
          refine r_iload rfl dX9_fault_63 ?_
          refine r_bipush (v := (124 : Int32)) (by decide) dX9_fault_65 ?_
          refine r_icmp_ne 90 dX9_fault_67 (by decide) (fun c_67 => ?_) (fun c_67 => ?_)
          · refine r_iconst (v := (0 : Int32)) (by decide) dX9_fault_90 ?_
            refine r_ist6 rfl (by decide) dX9_fault_91 ?_
            refine r_iload rfl dX9_fault_93 ?_
            refine r_if_ne 105 dX9_fault_95 (by decide) (fun c_95 => ?_) (fun c_95 => ?_)
            · refine r_iload_n rfl dX9_fault_105 ?_
              refine r_iload rfl dX9_fault_106 ?_
              refine r_if_eq 121 dX9_fault_108 (by decide) (fun c_108 => ?_) (fun c_108 => ?_)
              · refine r_iconst (v := (0 : Int32)) (by decide) dX9_fault_121 ?_
                refine r_ior dX9_fault_122 ?_
                refine r_ist1 rfl (by decide) dX9_fault_123 ?_
                refine r_iload rfl dX9_fault_124 ?_
                refine r_ist2 rfl (by decide) dX9_fault_126 ?_
                first | refine r_incN3 rfl (by decide) dX9_fault_127 ?_ | refine r_incP3 rfl (by decide) dX9_fault_127 ?_
                refine r_goto 6 dX9_fault_130 (by decide) ?_
                first
                  | exact absurd (let124 hn6 c_67) c_41
                  | exact absurd rfl c_95
                  | exact absurd c_95 (by decide)
                  | exact absurd rfl c_100
                  | exact absurd c_108 (by decide)
                  | exact absurd rfl c_108
                  | (have t9 := ff_new (ev := nI (2 ^ n) - 1) (d := d) (bh := bh) c_67 c_41 c_53
                     refine Ri.imp (ih d (i + 1) _ _ (by omega) (by omega) (fun q => absurd q (by decide))) (fun v h' q => ⟨q.1, ?_⟩)
                     rw [q.2, t9])
                  | (have t9 : ¬ bh = 0 := c_71
                     refine Ri.imp (ih d (i + 1) _ _ (by omega) (by omega) (fun _ => by rw [Int32.or_zero]; exact c_83)) (fun v h' q => ⟨q.1, ?_⟩)
                     rw [q.2, Int32.or_zero, ffF, if_pos c_67, if_neg c_71, if_neg c_83])
              · refine r_iconst (v := (1 : Int32)) (by decide) dX9_fault_111 ?_
                refine r_iload rfl dX9_fault_112 ?_
                refine r_bipush (v := (97 : Int32)) (by decide) dX9_fault_114 ?_
                refine r_isub dX9_fault_116 ?_
                refine r_ishl dX9_fault_117 ?_
                refine r_goto 122 dX9_fault_118 (by decide) ?_
                refine r_ior dX9_fault_122 ?_
                refine r_ist1 rfl (by decide) dX9_fault_123 ?_
                refine r_iload rfl dX9_fault_124 ?_
                refine r_ist2 rfl (by decide) dX9_fault_126 ?_
                first | refine r_incN3 rfl (by decide) dX9_fault_127 ?_ | refine r_incP3 rfl (by decide) dX9_fault_127 ?_
                refine r_goto 6 dX9_fault_130 (by decide) ?_
                first
                  | exact absurd (let124 hn6 c_67) c_41
                  | exact absurd rfl c_95
                  | exact absurd c_95 (by decide)
                  | exact absurd rfl c_100
                  | exact absurd c_108 (by decide)
                  | exact absurd rfl c_108
                  | (have t9 := ff_new (ev := nI (2 ^ n) - 1) (d := d) (bh := bh) c_67 c_41 c_53
                     refine Ri.imp (ih d (i + 1) _ _ (by omega) (by omega) (fun q => absurd q (by decide))) (fun v h' q => ⟨q.1, ?_⟩)
                     rw [q.2, t9])
                  | (have t9 : ¬ bh = 0 := c_71
                     refine Ri.imp (ih d (i + 1) _ _ (by omega) (by omega) (fun _ => by rw [Int32.or_zero]; exact c_83)) (fun v h' q => ⟨q.1, ?_⟩)
                     rw [q.2, Int32.or_zero, ffF, if_pos c_67, if_neg c_71, if_neg c_83])
            · refine r_iload rfl dX9_fault_98 ?_
              refine r_if_ne 105 dX9_fault_100 (by decide) (fun c_100 => ?_) (fun c_100 => ?_)
              · refine r_iload_n rfl dX9_fault_105 ?_
                refine r_iload rfl dX9_fault_106 ?_
                refine r_if_eq 121 dX9_fault_108 (by decide) (fun c_108 => ?_) (fun c_108 => ?_)
                · refine r_iconst (v := (0 : Int32)) (by decide) dX9_fault_121 ?_
                  refine r_ior dX9_fault_122 ?_
                  refine r_ist1 rfl (by decide) dX9_fault_123 ?_
                  refine r_iload rfl dX9_fault_124 ?_
                  refine r_ist2 rfl (by decide) dX9_fault_126 ?_
                  first | refine r_incN3 rfl (by decide) dX9_fault_127 ?_ | refine r_incP3 rfl (by decide) dX9_fault_127 ?_
                  refine r_goto 6 dX9_fault_130 (by decide) ?_
                  first
                    | exact absurd (let124 hn6 c_67) c_41
                    | exact absurd rfl c_95
                    | exact absurd c_95 (by decide)
                    | exact absurd rfl c_100
                    | exact absurd c_108 (by decide)
                    | exact absurd rfl c_108
                    | (have t9 := ff_new (ev := nI (2 ^ n) - 1) (d := d) (bh := bh) c_67 c_41 c_53
                       refine Ri.imp (ih d (i + 1) _ _ (by omega) (by omega) (fun q => absurd q (by decide))) (fun v h' q => ⟨q.1, ?_⟩)
                       rw [q.2, t9])
                    | (have t9 : ¬ bh = 0 := c_71
                       refine Ri.imp (ih d (i + 1) _ _ (by omega) (by omega) (fun _ => by rw [Int32.or_zero]; exact c_83)) (fun v h' q => ⟨q.1, ?_⟩)
                       rw [q.2, Int32.or_zero, ffF, if_pos c_67, if_neg c_71, if_neg c_83])
                · refine r_iconst (v := (1 : Int32)) (by decide) dX9_fault_111 ?_
                  refine r_iload rfl dX9_fault_112 ?_
                  refine r_bipush (v := (97 : Int32)) (by decide) dX9_fault_114 ?_
                  refine r_isub dX9_fault_116 ?_
                  refine r_ishl dX9_fault_117 ?_
                  refine r_goto 122 dX9_fault_118 (by decide) ?_
                  refine r_ior dX9_fault_122 ?_
                  refine r_ist1 rfl (by decide) dX9_fault_123 ?_
                  refine r_iload rfl dX9_fault_124 ?_
                  refine r_ist2 rfl (by decide) dX9_fault_126 ?_
                  first | refine r_incN3 rfl (by decide) dX9_fault_127 ?_ | refine r_incP3 rfl (by decide) dX9_fault_127 ?_
                  refine r_goto 6 dX9_fault_130 (by decide) ?_
                  first
                    | exact absurd (let124 hn6 c_67) c_41
                    | exact absurd rfl c_95
                    | exact absurd c_95 (by decide)
                    | exact absurd rfl c_100
                    | exact absurd c_108 (by decide)
                    | exact absurd rfl c_108
                    | (have t9 := ff_new (ev := nI (2 ^ n) - 1) (d := d) (bh := bh) c_67 c_41 c_53
                       refine Ri.imp (ih d (i + 1) _ _ (by omega) (by omega) (fun q => absurd q (by decide))) (fun v h' q => ⟨q.1, ?_⟩)
                       rw [q.2, t9])
                    | (have t9 : ¬ bh = 0 := c_71
                       refine Ri.imp (ih d (i + 1) _ _ (by omega) (by omega) (fun _ => by rw [Int32.or_zero]; exact c_83)) (fun v h' q => ⟨q.1, ?_⟩)
                       rw [q.2, Int32.or_zero, ffF, if_pos c_67, if_neg c_71, if_neg c_83])
              · refine r_iload_n rfl dX9_fault_103 ?_
                refine ret_i dX9_fault_104 rfl ?_
                first
                  | exact absurd c_95 (by decide)
                  | exact absurd c_100 (by decide)
                  | exact ⟨rfl, by rw [ff_bad c_67 c_41]⟩
                  | exact ⟨rfl, by rw [ff_was c_67 c_41 c_53]⟩
                  | exact ⟨rfl, by rw [ffF, if_pos c_67, if_pos c_71]⟩
                  | exact ⟨rfl, by rw [ffF, if_pos c_67, if_neg c_71, if_pos c_83]⟩
          · refine r_iload_n rfl dX9_fault_70 ?_
            refine r_if_eq 90 dX9_fault_71 (by decide) (fun c_71 => ?_) (fun c_71 => ?_)
            · refine r_iconst (v := (0 : Int32)) (by decide) dX9_fault_90 ?_
              refine r_ist6 rfl (by decide) dX9_fault_91 ?_
              refine r_iload rfl dX9_fault_93 ?_
              refine r_if_ne 105 dX9_fault_95 (by decide) (fun c_95 => ?_) (fun c_95 => ?_)
              · refine r_iload_n rfl dX9_fault_105 ?_
                refine r_iload rfl dX9_fault_106 ?_
                refine r_if_eq 121 dX9_fault_108 (by decide) (fun c_108 => ?_) (fun c_108 => ?_)
                · refine r_iconst (v := (0 : Int32)) (by decide) dX9_fault_121 ?_
                  refine r_ior dX9_fault_122 ?_
                  refine r_ist1 rfl (by decide) dX9_fault_123 ?_
                  refine r_iload rfl dX9_fault_124 ?_
                  refine r_ist2 rfl (by decide) dX9_fault_126 ?_
                  first | refine r_incN3 rfl (by decide) dX9_fault_127 ?_ | refine r_incP3 rfl (by decide) dX9_fault_127 ?_
                  refine r_goto 6 dX9_fault_130 (by decide) ?_
                  first
                    | exact absurd (let124 hn6 c_67) c_41
                    | exact absurd rfl c_95
                    | exact absurd c_95 (by decide)
                    | exact absurd rfl c_100
                    | exact absurd c_108 (by decide)
                    | exact absurd rfl c_108
                    | (have t9 := ff_new (ev := nI (2 ^ n) - 1) (d := d) (bh := bh) c_67 c_41 c_53
                       refine Ri.imp (ih d (i + 1) _ _ (by omega) (by omega) (fun q => absurd q (by decide))) (fun v h' q => ⟨q.1, ?_⟩)
                       rw [q.2, t9])
                    | (have t9 : ¬ bh = 0 := c_71
                       refine Ri.imp (ih d (i + 1) _ _ (by omega) (by omega) (fun _ => by rw [Int32.or_zero]; exact c_83)) (fun v h' q => ⟨q.1, ?_⟩)
                       rw [q.2, Int32.or_zero, ffF, if_pos c_67, if_neg c_71, if_neg c_83])
                · refine r_iconst (v := (1 : Int32)) (by decide) dX9_fault_111 ?_
                  refine r_iload rfl dX9_fault_112 ?_
                  refine r_bipush (v := (97 : Int32)) (by decide) dX9_fault_114 ?_
                  refine r_isub dX9_fault_116 ?_
                  refine r_ishl dX9_fault_117 ?_
                  refine r_goto 122 dX9_fault_118 (by decide) ?_
                  refine r_ior dX9_fault_122 ?_
                  refine r_ist1 rfl (by decide) dX9_fault_123 ?_
                  refine r_iload rfl dX9_fault_124 ?_
                  refine r_ist2 rfl (by decide) dX9_fault_126 ?_
                  first | refine r_incN3 rfl (by decide) dX9_fault_127 ?_ | refine r_incP3 rfl (by decide) dX9_fault_127 ?_
                  refine r_goto 6 dX9_fault_130 (by decide) ?_
                  first
                    | exact absurd (let124 hn6 c_67) c_41
                    | exact absurd rfl c_95
                    | exact absurd c_95 (by decide)
                    | exact absurd rfl c_100
                    | exact absurd c_108 (by decide)
                    | exact absurd rfl c_108
                    | (have t9 := ff_new (ev := nI (2 ^ n) - 1) (d := d) (bh := bh) c_67 c_41 c_53
                       refine Ri.imp (ih d (i + 1) _ _ (by omega) (by omega) (fun q => absurd q (by decide))) (fun v h' q => ⟨q.1, ?_⟩)
                       rw [q.2, t9])
                    | (have t9 : ¬ bh = 0 := c_71
                       refine Ri.imp (ih d (i + 1) _ _ (by omega) (by omega) (fun _ => by rw [Int32.or_zero]; exact c_83)) (fun v h' q => ⟨q.1, ?_⟩)
                       rw [q.2, Int32.or_zero, ffF, if_pos c_67, if_neg c_71, if_neg c_83])
              · refine r_iload rfl dX9_fault_98 ?_
                refine r_if_ne 105 dX9_fault_100 (by decide) (fun c_100 => ?_) (fun c_100 => ?_)
                · refine r_iload_n rfl dX9_fault_105 ?_
                  refine r_iload rfl dX9_fault_106 ?_
                  refine r_if_eq 121 dX9_fault_108 (by decide) (fun c_108 => ?_) (fun c_108 => ?_)
                  · refine r_iconst (v := (0 : Int32)) (by decide) dX9_fault_121 ?_
                    refine r_ior dX9_fault_122 ?_
                    refine r_ist1 rfl (by decide) dX9_fault_123 ?_
                    refine r_iload rfl dX9_fault_124 ?_
                    refine r_ist2 rfl (by decide) dX9_fault_126 ?_
                    first | refine r_incN3 rfl (by decide) dX9_fault_127 ?_ | refine r_incP3 rfl (by decide) dX9_fault_127 ?_
                    refine r_goto 6 dX9_fault_130 (by decide) ?_
                    first
                      | exact absurd (let124 hn6 c_67) c_41
                      | exact absurd rfl c_95
                      | exact absurd c_95 (by decide)
                      | exact absurd rfl c_100
                      | exact absurd c_108 (by decide)
                      | exact absurd rfl c_108
                      | (have t9 := ff_new (ev := nI (2 ^ n) - 1) (d := d) (bh := bh) c_67 c_41 c_53
                         refine Ri.imp (ih d (i + 1) _ _ (by omega) (by omega) (fun q => absurd q (by decide))) (fun v h' q => ⟨q.1, ?_⟩)
                         rw [q.2, t9])
                      | (have t9 : ¬ bh = 0 := c_71
                         refine Ri.imp (ih d (i + 1) _ _ (by omega) (by omega) (fun _ => by rw [Int32.or_zero]; exact c_83)) (fun v h' q => ⟨q.1, ?_⟩)
                         rw [q.2, Int32.or_zero, ffF, if_pos c_67, if_neg c_71, if_neg c_83])
                  · refine r_iconst (v := (1 : Int32)) (by decide) dX9_fault_111 ?_
                    refine r_iload rfl dX9_fault_112 ?_
                    refine r_bipush (v := (97 : Int32)) (by decide) dX9_fault_114 ?_
                    refine r_isub dX9_fault_116 ?_
                    refine r_ishl dX9_fault_117 ?_
                    refine r_goto 122 dX9_fault_118 (by decide) ?_
                    refine r_ior dX9_fault_122 ?_
                    refine r_ist1 rfl (by decide) dX9_fault_123 ?_
                    refine r_iload rfl dX9_fault_124 ?_
                    refine r_ist2 rfl (by decide) dX9_fault_126 ?_
                    first | refine r_incN3 rfl (by decide) dX9_fault_127 ?_ | refine r_incP3 rfl (by decide) dX9_fault_127 ?_
                    refine r_goto 6 dX9_fault_130 (by decide) ?_
                    first
                      | exact absurd (let124 hn6 c_67) c_41
                      | exact absurd rfl c_95
                      | exact absurd c_95 (by decide)
                      | exact absurd rfl c_100
                      | exact absurd c_108 (by decide)
                      | exact absurd rfl c_108
                      | (have t9 := ff_new (ev := nI (2 ^ n) - 1) (d := d) (bh := bh) c_67 c_41 c_53
                         refine Ri.imp (ih d (i + 1) _ _ (by omega) (by omega) (fun q => absurd q (by decide))) (fun v h' q => ⟨q.1, ?_⟩)
                         rw [q.2, t9])
                      | (have t9 : ¬ bh = 0 := c_71
                         refine Ri.imp (ih d (i + 1) _ _ (by omega) (by omega) (fun _ => by rw [Int32.or_zero]; exact c_83)) (fun v h' q => ⟨q.1, ?_⟩)
                         rw [q.2, Int32.or_zero, ffF, if_pos c_67, if_neg c_71, if_neg c_83])
                · refine r_iload_n rfl dX9_fault_103 ?_
                  refine ret_i dX9_fault_104 rfl ?_
                  first
                    | exact absurd c_95 (by decide)
                    | exact absurd c_100 (by decide)
                    | exact ⟨rfl, by rw [ff_bad c_67 c_41]⟩
                    | exact ⟨rfl, by rw [ff_was c_67 c_41 c_53]⟩
                    | exact ⟨rfl, by rw [ffF, if_pos c_67, if_pos c_71]⟩
                    | exact ⟨rfl, by rw [ffF, if_pos c_67, if_neg c_71, if_pos c_83]⟩
            · refine r_iload_n rfl dX9_fault_74 ?_
              refine r_iconst (v := (1 : Int32)) (by decide) dX9_fault_75 ?_
              refine r_aload_n rfl dX9_fault_76 ?_
              refine r_getI foX9_55 rfl rfl dX9_fault_77 ?_
              rw [I.1.2]
              refine r_ishl dX9_fault_80 ?_
              rw [shl1 hn6]
              refine r_iconst (v := (1 : Int32)) (by decide) dX9_fault_81 ?_
              refine r_isub dX9_fault_82 ?_
              refine r_icmp_eq 90 dX9_fault_83 (by decide) (fun c_83 => ?_) (fun c_83 => ?_)
              · refine r_iconst (v := (0 : Int32)) (by decide) dX9_fault_90 ?_
                refine r_ist6 rfl (by decide) dX9_fault_91 ?_
                refine r_iload rfl dX9_fault_93 ?_
                refine r_if_ne 105 dX9_fault_95 (by decide) (fun c_95 => ?_) (fun c_95 => ?_)
                · refine r_iload_n rfl dX9_fault_105 ?_
                  refine r_iload rfl dX9_fault_106 ?_
                  refine r_if_eq 121 dX9_fault_108 (by decide) (fun c_108 => ?_) (fun c_108 => ?_)
                  · refine r_iconst (v := (0 : Int32)) (by decide) dX9_fault_121 ?_
                    refine r_ior dX9_fault_122 ?_
                    refine r_ist1 rfl (by decide) dX9_fault_123 ?_
                    refine r_iload rfl dX9_fault_124 ?_
                    refine r_ist2 rfl (by decide) dX9_fault_126 ?_
                    first | refine r_incN3 rfl (by decide) dX9_fault_127 ?_ | refine r_incP3 rfl (by decide) dX9_fault_127 ?_
                    refine r_goto 6 dX9_fault_130 (by decide) ?_
                    first
                      | exact absurd (let124 hn6 c_67) c_41
                      | exact absurd rfl c_95
                      | exact absurd c_95 (by decide)
                      | exact absurd rfl c_100
                      | exact absurd c_108 (by decide)
                      | exact absurd rfl c_108
                      | (have t9 := ff_new (ev := nI (2 ^ n) - 1) (d := d) (bh := bh) c_67 c_41 c_53
                         refine Ri.imp (ih d (i + 1) _ _ (by omega) (by omega) (fun q => absurd q (by decide))) (fun v h' q => ⟨q.1, ?_⟩)
                         rw [q.2, t9])
                      | (have t9 : ¬ bh = 0 := c_71
                         refine Ri.imp (ih d (i + 1) _ _ (by omega) (by omega) (fun _ => by rw [Int32.or_zero]; exact c_83)) (fun v h' q => ⟨q.1, ?_⟩)
                         rw [q.2, Int32.or_zero, ffF, if_pos c_67, if_neg c_71, if_neg c_83])
                  · refine r_iconst (v := (1 : Int32)) (by decide) dX9_fault_111 ?_
                    refine r_iload rfl dX9_fault_112 ?_
                    refine r_bipush (v := (97 : Int32)) (by decide) dX9_fault_114 ?_
                    refine r_isub dX9_fault_116 ?_
                    refine r_ishl dX9_fault_117 ?_
                    refine r_goto 122 dX9_fault_118 (by decide) ?_
                    refine r_ior dX9_fault_122 ?_
                    refine r_ist1 rfl (by decide) dX9_fault_123 ?_
                    refine r_iload rfl dX9_fault_124 ?_
                    refine r_ist2 rfl (by decide) dX9_fault_126 ?_
                    first | refine r_incN3 rfl (by decide) dX9_fault_127 ?_ | refine r_incP3 rfl (by decide) dX9_fault_127 ?_
                    refine r_goto 6 dX9_fault_130 (by decide) ?_
                    first
                      | exact absurd (let124 hn6 c_67) c_41
                      | exact absurd rfl c_95
                      | exact absurd c_95 (by decide)
                      | exact absurd rfl c_100
                      | exact absurd c_108 (by decide)
                      | exact absurd rfl c_108
                      | (have t9 := ff_new (ev := nI (2 ^ n) - 1) (d := d) (bh := bh) c_67 c_41 c_53
                         refine Ri.imp (ih d (i + 1) _ _ (by omega) (by omega) (fun q => absurd q (by decide))) (fun v h' q => ⟨q.1, ?_⟩)
                         rw [q.2, t9])
                      | (have t9 : ¬ bh = 0 := c_71
                         refine Ri.imp (ih d (i + 1) _ _ (by omega) (by omega) (fun _ => by rw [Int32.or_zero]; exact c_83)) (fun v h' q => ⟨q.1, ?_⟩)
                         rw [q.2, Int32.or_zero, ffF, if_pos c_67, if_neg c_71, if_neg c_83])
                · refine r_iload rfl dX9_fault_98 ?_
                  refine r_if_ne 105 dX9_fault_100 (by decide) (fun c_100 => ?_) (fun c_100 => ?_)
                  · refine r_iload_n rfl dX9_fault_105 ?_
                    refine r_iload rfl dX9_fault_106 ?_
                    refine r_if_eq 121 dX9_fault_108 (by decide) (fun c_108 => ?_) (fun c_108 => ?_)
                    · refine r_iconst (v := (0 : Int32)) (by decide) dX9_fault_121 ?_
                      refine r_ior dX9_fault_122 ?_
                      refine r_ist1 rfl (by decide) dX9_fault_123 ?_
                      refine r_iload rfl dX9_fault_124 ?_
                      refine r_ist2 rfl (by decide) dX9_fault_126 ?_
                      first | refine r_incN3 rfl (by decide) dX9_fault_127 ?_ | refine r_incP3 rfl (by decide) dX9_fault_127 ?_
                      refine r_goto 6 dX9_fault_130 (by decide) ?_
                      first
                        | exact absurd (let124 hn6 c_67) c_41
                        | exact absurd rfl c_95
                        | exact absurd c_95 (by decide)
                        | exact absurd rfl c_100
                        | exact absurd c_108 (by decide)
                        | exact absurd rfl c_108
                        | (have t9 := ff_new (ev := nI (2 ^ n) - 1) (d := d) (bh := bh) c_67 c_41 c_53
                           refine Ri.imp (ih d (i + 1) _ _ (by omega) (by omega) (fun q => absurd q (by decide))) (fun v h' q => ⟨q.1, ?_⟩)
                           rw [q.2, t9])
                        | (have t9 : ¬ bh = 0 := c_71
                           refine Ri.imp (ih d (i + 1) _ _ (by omega) (by omega) (fun _ => by rw [Int32.or_zero]; exact c_83)) (fun v h' q => ⟨q.1, ?_⟩)
                           rw [q.2, Int32.or_zero, ffF, if_pos c_67, if_neg c_71, if_neg c_83])
                    · refine r_iconst (v := (1 : Int32)) (by decide) dX9_fault_111 ?_
                      refine r_iload rfl dX9_fault_112 ?_
                      refine r_bipush (v := (97 : Int32)) (by decide) dX9_fault_114 ?_
                      refine r_isub dX9_fault_116 ?_
                      refine r_ishl dX9_fault_117 ?_
                      refine r_goto 122 dX9_fault_118 (by decide) ?_
                      refine r_ior dX9_fault_122 ?_
                      refine r_ist1 rfl (by decide) dX9_fault_123 ?_
                      refine r_iload rfl dX9_fault_124 ?_
                      refine r_ist2 rfl (by decide) dX9_fault_126 ?_
                      first | refine r_incN3 rfl (by decide) dX9_fault_127 ?_ | refine r_incP3 rfl (by decide) dX9_fault_127 ?_
                      refine r_goto 6 dX9_fault_130 (by decide) ?_
                      first
                        | exact absurd (let124 hn6 c_67) c_41
                        | exact absurd rfl c_95
                        | exact absurd c_95 (by decide)
                        | exact absurd rfl c_100
                        | exact absurd c_108 (by decide)
                        | exact absurd rfl c_108
                        | (have t9 := ff_new (ev := nI (2 ^ n) - 1) (d := d) (bh := bh) c_67 c_41 c_53
                           refine Ri.imp (ih d (i + 1) _ _ (by omega) (by omega) (fun q => absurd q (by decide))) (fun v h' q => ⟨q.1, ?_⟩)
                           rw [q.2, t9])
                        | (have t9 : ¬ bh = 0 := c_71
                           refine Ri.imp (ih d (i + 1) _ _ (by omega) (by omega) (fun _ => by rw [Int32.or_zero]; exact c_83)) (fun v h' q => ⟨q.1, ?_⟩)
                           rw [q.2, Int32.or_zero, ffF, if_pos c_67, if_neg c_71, if_neg c_83])
                  · refine r_iload_n rfl dX9_fault_103 ?_
                    refine ret_i dX9_fault_104 rfl ?_
                    first
                      | exact absurd c_95 (by decide)
                      | exact absurd c_100 (by decide)
                      | exact ⟨rfl, by rw [ff_bad c_67 c_41]⟩
                      | exact ⟨rfl, by rw [ff_was c_67 c_41 c_53]⟩
                      | exact ⟨rfl, by rw [ffF, if_pos c_67, if_pos c_71]⟩
                      | exact ⟨rfl, by rw [ffF, if_pos c_67, if_neg c_71, if_pos c_83]⟩
              · refine r_iconst (v := (1 : Int32)) (by decide) dX9_fault_86 ?_
                refine r_goto 91 dX9_fault_87 (by decide) ?_
                refine r_ist6 rfl (by decide) dX9_fault_91 ?_
                refine r_iload rfl dX9_fault_93 ?_
                refine r_if_ne 105 dX9_fault_95 (by decide) (fun c_95 => ?_) (fun c_95 => ?_)
                · refine r_iload_n rfl dX9_fault_105 ?_
                  refine r_iload rfl dX9_fault_106 ?_
                  refine r_if_eq 121 dX9_fault_108 (by decide) (fun c_108 => ?_) (fun c_108 => ?_)
                  · refine r_iconst (v := (0 : Int32)) (by decide) dX9_fault_121 ?_
                    refine r_ior dX9_fault_122 ?_
                    refine r_ist1 rfl (by decide) dX9_fault_123 ?_
                    refine r_iload rfl dX9_fault_124 ?_
                    refine r_ist2 rfl (by decide) dX9_fault_126 ?_
                    first | refine r_incN3 rfl (by decide) dX9_fault_127 ?_ | refine r_incP3 rfl (by decide) dX9_fault_127 ?_
                    refine r_goto 6 dX9_fault_130 (by decide) ?_
                    first
                      | exact absurd (let124 hn6 c_67) c_41
                      | exact absurd rfl c_95
                      | exact absurd c_95 (by decide)
                      | exact absurd rfl c_100
                      | exact absurd c_108 (by decide)
                      | exact absurd rfl c_108
                      | (have t9 := ff_new (ev := nI (2 ^ n) - 1) (d := d) (bh := bh) c_67 c_41 c_53
                         refine Ri.imp (ih d (i + 1) _ _ (by omega) (by omega) (fun q => absurd q (by decide))) (fun v h' q => ⟨q.1, ?_⟩)
                         rw [q.2, t9])
                      | (have t9 : ¬ bh = 0 := c_71
                         refine Ri.imp (ih d (i + 1) _ _ (by omega) (by omega) (fun _ => by rw [Int32.or_zero]; exact c_83)) (fun v h' q => ⟨q.1, ?_⟩)
                         rw [q.2, Int32.or_zero, ffF, if_pos c_67, if_neg c_71, if_neg c_83])
                  · refine r_iconst (v := (1 : Int32)) (by decide) dX9_fault_111 ?_
                    refine r_iload rfl dX9_fault_112 ?_
                    refine r_bipush (v := (97 : Int32)) (by decide) dX9_fault_114 ?_
                    refine r_isub dX9_fault_116 ?_
                    refine r_ishl dX9_fault_117 ?_
                    refine r_goto 122 dX9_fault_118 (by decide) ?_
                    refine r_ior dX9_fault_122 ?_
                    refine r_ist1 rfl (by decide) dX9_fault_123 ?_
                    refine r_iload rfl dX9_fault_124 ?_
                    refine r_ist2 rfl (by decide) dX9_fault_126 ?_
                    first | refine r_incN3 rfl (by decide) dX9_fault_127 ?_ | refine r_incP3 rfl (by decide) dX9_fault_127 ?_
                    refine r_goto 6 dX9_fault_130 (by decide) ?_
                    first
                      | exact absurd (let124 hn6 c_67) c_41
                      | exact absurd rfl c_95
                      | exact absurd c_95 (by decide)
                      | exact absurd rfl c_100
                      | exact absurd c_108 (by decide)
                      | exact absurd rfl c_108
                      | (have t9 := ff_new (ev := nI (2 ^ n) - 1) (d := d) (bh := bh) c_67 c_41 c_53
                         refine Ri.imp (ih d (i + 1) _ _ (by omega) (by omega) (fun q => absurd q (by decide))) (fun v h' q => ⟨q.1, ?_⟩)
                         rw [q.2, t9])
                      | (have t9 : ¬ bh = 0 := c_71
                         refine Ri.imp (ih d (i + 1) _ _ (by omega) (by omega) (fun _ => by rw [Int32.or_zero]; exact c_83)) (fun v h' q => ⟨q.1, ?_⟩)
                         rw [q.2, Int32.or_zero, ffF, if_pos c_67, if_neg c_71, if_neg c_83])
                · refine r_iload rfl dX9_fault_98 ?_
                  refine r_if_ne 105 dX9_fault_100 (by decide) (fun c_100 => ?_) (fun c_100 => ?_)
                  · refine r_iload_n rfl dX9_fault_105 ?_
                    refine r_iload rfl dX9_fault_106 ?_
                    refine r_if_eq 121 dX9_fault_108 (by decide) (fun c_108 => ?_) (fun c_108 => ?_)
                    · refine r_iconst (v := (0 : Int32)) (by decide) dX9_fault_121 ?_
                      refine r_ior dX9_fault_122 ?_
                      refine r_ist1 rfl (by decide) dX9_fault_123 ?_
                      refine r_iload rfl dX9_fault_124 ?_
                      refine r_ist2 rfl (by decide) dX9_fault_126 ?_
                      first | refine r_incN3 rfl (by decide) dX9_fault_127 ?_ | refine r_incP3 rfl (by decide) dX9_fault_127 ?_
                      refine r_goto 6 dX9_fault_130 (by decide) ?_
                      first
                        | exact absurd (let124 hn6 c_67) c_41
                        | exact absurd rfl c_95
                        | exact absurd c_95 (by decide)
                        | exact absurd rfl c_100
                        | exact absurd c_108 (by decide)
                        | exact absurd rfl c_108
                        | (have t9 := ff_new (ev := nI (2 ^ n) - 1) (d := d) (bh := bh) c_67 c_41 c_53
                           refine Ri.imp (ih d (i + 1) _ _ (by omega) (by omega) (fun q => absurd q (by decide))) (fun v h' q => ⟨q.1, ?_⟩)
                           rw [q.2, t9])
                        | (have t9 : ¬ bh = 0 := c_71
                           refine Ri.imp (ih d (i + 1) _ _ (by omega) (by omega) (fun _ => by rw [Int32.or_zero]; exact c_83)) (fun v h' q => ⟨q.1, ?_⟩)
                           rw [q.2, Int32.or_zero, ffF, if_pos c_67, if_neg c_71, if_neg c_83])
                    · refine r_iconst (v := (1 : Int32)) (by decide) dX9_fault_111 ?_
                      refine r_iload rfl dX9_fault_112 ?_
                      refine r_bipush (v := (97 : Int32)) (by decide) dX9_fault_114 ?_
                      refine r_isub dX9_fault_116 ?_
                      refine r_ishl dX9_fault_117 ?_
                      refine r_goto 122 dX9_fault_118 (by decide) ?_
                      refine r_ior dX9_fault_122 ?_
                      refine r_ist1 rfl (by decide) dX9_fault_123 ?_
                      refine r_iload rfl dX9_fault_124 ?_
                      refine r_ist2 rfl (by decide) dX9_fault_126 ?_
                      first | refine r_incN3 rfl (by decide) dX9_fault_127 ?_ | refine r_incP3 rfl (by decide) dX9_fault_127 ?_
                      refine r_goto 6 dX9_fault_130 (by decide) ?_
                      first
                        | exact absurd (let124 hn6 c_67) c_41
                        | exact absurd rfl c_95
                        | exact absurd c_95 (by decide)
                        | exact absurd rfl c_100
                        | exact absurd c_108 (by decide)
                        | exact absurd rfl c_108
                        | (have t9 := ff_new (ev := nI (2 ^ n) - 1) (d := d) (bh := bh) c_67 c_41 c_53
                           refine Ri.imp (ih d (i + 1) _ _ (by omega) (by omega) (fun q => absurd q (by decide))) (fun v h' q => ⟨q.1, ?_⟩)
                           rw [q.2, t9])
                        | (have t9 : ¬ bh = 0 := c_71
                           refine Ri.imp (ih d (i + 1) _ _ (by omega) (by omega) (fun _ => by rw [Int32.or_zero]; exact c_83)) (fun v h' q => ⟨q.1, ?_⟩)
                           rw [q.2, Int32.or_zero, ffF, if_pos c_67, if_neg c_71, if_neg c_83])
                  · refine r_iload_n rfl dX9_fault_103 ?_
                    refine ret_i dX9_fault_104 rfl ?_
                    first
                      | exact absurd c_95 (by decide)
                      | exact absurd c_100 (by decide)
                      | exact ⟨rfl, by rw [ff_bad c_67 c_41]⟩
                      | exact ⟨rfl, by rw [ff_was c_67 c_41 c_53]⟩
                      | exact ⟨rfl, by rw [ffF, if_pos c_67, if_pos c_71]⟩
                      | exact ⟨rfl, by rw [ffF, if_pos c_67, if_neg c_71, if_pos c_83]⟩
        · refine r_iload_n rfl dX9_fault_44 ?_
          refine r_iload rfl dX9_fault_45 ?_
          refine r_bipush (v := (97 : Int32)) (by decide) dX9_fault_47 ?_
          refine r_isub dX9_fault_49 ?_
          refine r_ishr dX9_fault_50 ?_
          refine r_iconst (v := (1 : Int32)) (by decide) dX9_fault_51 ?_
          refine r_iand dX9_fault_52 ?_
          refine r_if_ne 60 dX9_fault_53 (by decide) (fun c_53 => ?_) (fun c_53 => ?_)
          · refine r_iconst (v := (0 : Int32)) (by decide) dX9_fault_60 ?_
            refine r_ist5 rfl (by decide) dX9_fault_61 ?_
            refine r_iload rfl dX9_fault_63 ?_
            refine r_bipush (v := (124 : Int32)) (by decide) dX9_fault_65 ?_
            refine r_icmp_ne 90 dX9_fault_67 (by decide) (fun c_67 => ?_) (fun c_67 => ?_)
            · refine r_iconst (v := (0 : Int32)) (by decide) dX9_fault_90 ?_
              refine r_ist6 rfl (by decide) dX9_fault_91 ?_
              refine r_iload rfl dX9_fault_93 ?_
              refine r_if_ne 105 dX9_fault_95 (by decide) (fun c_95 => ?_) (fun c_95 => ?_)
              · refine r_iload_n rfl dX9_fault_105 ?_
                refine r_iload rfl dX9_fault_106 ?_
                refine r_if_eq 121 dX9_fault_108 (by decide) (fun c_108 => ?_) (fun c_108 => ?_)
                · refine r_iconst (v := (0 : Int32)) (by decide) dX9_fault_121 ?_
                  refine r_ior dX9_fault_122 ?_
                  refine r_ist1 rfl (by decide) dX9_fault_123 ?_
                  refine r_iload rfl dX9_fault_124 ?_
                  refine r_ist2 rfl (by decide) dX9_fault_126 ?_
                  first | refine r_incN3 rfl (by decide) dX9_fault_127 ?_ | refine r_incP3 rfl (by decide) dX9_fault_127 ?_
                  refine r_goto 6 dX9_fault_130 (by decide) ?_
                  first
                    | exact absurd (let124 hn6 c_67) c_41
                    | exact absurd rfl c_95
                    | exact absurd c_95 (by decide)
                    | exact absurd rfl c_100
                    | exact absurd c_108 (by decide)
                    | exact absurd rfl c_108
                    | (have t9 := ff_new (ev := nI (2 ^ n) - 1) (d := d) (bh := bh) c_67 c_41 c_53
                       refine Ri.imp (ih d (i + 1) _ _ (by omega) (by omega) (fun q => absurd q (by decide))) (fun v h' q => ⟨q.1, ?_⟩)
                       rw [q.2, t9])
                    | (have t9 : ¬ bh = 0 := c_71
                       refine Ri.imp (ih d (i + 1) _ _ (by omega) (by omega) (fun _ => by rw [Int32.or_zero]; exact c_83)) (fun v h' q => ⟨q.1, ?_⟩)
                       rw [q.2, Int32.or_zero, ffF, if_pos c_67, if_neg c_71, if_neg c_83])
                · refine r_iconst (v := (1 : Int32)) (by decide) dX9_fault_111 ?_
                  refine r_iload rfl dX9_fault_112 ?_
                  refine r_bipush (v := (97 : Int32)) (by decide) dX9_fault_114 ?_
                  refine r_isub dX9_fault_116 ?_
                  refine r_ishl dX9_fault_117 ?_
                  refine r_goto 122 dX9_fault_118 (by decide) ?_
                  refine r_ior dX9_fault_122 ?_
                  refine r_ist1 rfl (by decide) dX9_fault_123 ?_
                  refine r_iload rfl dX9_fault_124 ?_
                  refine r_ist2 rfl (by decide) dX9_fault_126 ?_
                  first | refine r_incN3 rfl (by decide) dX9_fault_127 ?_ | refine r_incP3 rfl (by decide) dX9_fault_127 ?_
                  refine r_goto 6 dX9_fault_130 (by decide) ?_
                  first
                    | exact absurd (let124 hn6 c_67) c_41
                    | exact absurd rfl c_95
                    | exact absurd c_95 (by decide)
                    | exact absurd rfl c_100
                    | exact absurd c_108 (by decide)
                    | exact absurd rfl c_108
                    | (have t9 := ff_new (ev := nI (2 ^ n) - 1) (d := d) (bh := bh) c_67 c_41 c_53
                       refine Ri.imp (ih d (i + 1) _ _ (by omega) (by omega) (fun q => absurd q (by decide))) (fun v h' q => ⟨q.1, ?_⟩)
                       rw [q.2, t9])
                    | (have t9 : ¬ bh = 0 := c_71
                       refine Ri.imp (ih d (i + 1) _ _ (by omega) (by omega) (fun _ => by rw [Int32.or_zero]; exact c_83)) (fun v h' q => ⟨q.1, ?_⟩)
                       rw [q.2, Int32.or_zero, ffF, if_pos c_67, if_neg c_71, if_neg c_83])
              · refine r_iload rfl dX9_fault_98 ?_
                refine r_if_ne 105 dX9_fault_100 (by decide) (fun c_100 => ?_) (fun c_100 => ?_)
                · refine r_iload_n rfl dX9_fault_105 ?_
                  refine r_iload rfl dX9_fault_106 ?_
                  refine r_if_eq 121 dX9_fault_108 (by decide) (fun c_108 => ?_) (fun c_108 => ?_)
                  · refine r_iconst (v := (0 : Int32)) (by decide) dX9_fault_121 ?_
                    refine r_ior dX9_fault_122 ?_
                    refine r_ist1 rfl (by decide) dX9_fault_123 ?_
                    refine r_iload rfl dX9_fault_124 ?_
                    refine r_ist2 rfl (by decide) dX9_fault_126 ?_
                    first | refine r_incN3 rfl (by decide) dX9_fault_127 ?_ | refine r_incP3 rfl (by decide) dX9_fault_127 ?_
                    refine r_goto 6 dX9_fault_130 (by decide) ?_
                    first
                      | exact absurd (let124 hn6 c_67) c_41
                      | exact absurd rfl c_95
                      | exact absurd c_95 (by decide)
                      | exact absurd rfl c_100
                      | exact absurd c_108 (by decide)
                      | exact absurd rfl c_108
                      | (have t9 := ff_new (ev := nI (2 ^ n) - 1) (d := d) (bh := bh) c_67 c_41 c_53
                         refine Ri.imp (ih d (i + 1) _ _ (by omega) (by omega) (fun q => absurd q (by decide))) (fun v h' q => ⟨q.1, ?_⟩)
                         rw [q.2, t9])
                      | (have t9 : ¬ bh = 0 := c_71
                         refine Ri.imp (ih d (i + 1) _ _ (by omega) (by omega) (fun _ => by rw [Int32.or_zero]; exact c_83)) (fun v h' q => ⟨q.1, ?_⟩)
                         rw [q.2, Int32.or_zero, ffF, if_pos c_67, if_neg c_71, if_neg c_83])
                  · refine r_iconst (v := (1 : Int32)) (by decide) dX9_fault_111 ?_
                    refine r_iload rfl dX9_fault_112 ?_
                    refine r_bipush (v := (97 : Int32)) (by decide) dX9_fault_114 ?_
                    refine r_isub dX9_fault_116 ?_
                    refine r_ishl dX9_fault_117 ?_
                    refine r_goto 122 dX9_fault_118 (by decide) ?_
                    refine r_ior dX9_fault_122 ?_
                    refine r_ist1 rfl (by decide) dX9_fault_123 ?_
                    refine r_iload rfl dX9_fault_124 ?_
                    refine r_ist2 rfl (by decide) dX9_fault_126 ?_
                    first | refine r_incN3 rfl (by decide) dX9_fault_127 ?_ | refine r_incP3 rfl (by decide) dX9_fault_127 ?_
                    refine r_goto 6 dX9_fault_130 (by decide) ?_
                    first
                      | exact absurd (let124 hn6 c_67) c_41
                      | exact absurd rfl c_95
                      | exact absurd c_95 (by decide)
                      | exact absurd rfl c_100
                      | exact absurd c_108 (by decide)
                      | exact absurd rfl c_108
                      | (have t9 := ff_new (ev := nI (2 ^ n) - 1) (d := d) (bh := bh) c_67 c_41 c_53
                         refine Ri.imp (ih d (i + 1) _ _ (by omega) (by omega) (fun q => absurd q (by decide))) (fun v h' q => ⟨q.1, ?_⟩)
                         rw [q.2, t9])
                      | (have t9 : ¬ bh = 0 := c_71
                         refine Ri.imp (ih d (i + 1) _ _ (by omega) (by omega) (fun _ => by rw [Int32.or_zero]; exact c_83)) (fun v h' q => ⟨q.1, ?_⟩)
                         rw [q.2, Int32.or_zero, ffF, if_pos c_67, if_neg c_71, if_neg c_83])
                · refine r_iload_n rfl dX9_fault_103 ?_
                  refine ret_i dX9_fault_104 rfl ?_
                  first
                    | exact absurd c_95 (by decide)
                    | exact absurd c_100 (by decide)
                    | exact ⟨rfl, by rw [ff_bad c_67 c_41]⟩
                    | exact ⟨rfl, by rw [ff_was c_67 c_41 c_53]⟩
                    | exact ⟨rfl, by rw [ffF, if_pos c_67, if_pos c_71]⟩
                    | exact ⟨rfl, by rw [ffF, if_pos c_67, if_neg c_71, if_pos c_83]⟩
            · refine r_iload_n rfl dX9_fault_70 ?_
              refine r_if_eq 90 dX9_fault_71 (by decide) (fun c_71 => ?_) (fun c_71 => ?_)
              · refine r_iconst (v := (0 : Int32)) (by decide) dX9_fault_90 ?_
                refine r_ist6 rfl (by decide) dX9_fault_91 ?_
                refine r_iload rfl dX9_fault_93 ?_
                refine r_if_ne 105 dX9_fault_95 (by decide) (fun c_95 => ?_) (fun c_95 => ?_)
                · refine r_iload_n rfl dX9_fault_105 ?_
                  refine r_iload rfl dX9_fault_106 ?_
                  refine r_if_eq 121 dX9_fault_108 (by decide) (fun c_108 => ?_) (fun c_108 => ?_)
                  · refine r_iconst (v := (0 : Int32)) (by decide) dX9_fault_121 ?_
                    refine r_ior dX9_fault_122 ?_
                    refine r_ist1 rfl (by decide) dX9_fault_123 ?_
                    refine r_iload rfl dX9_fault_124 ?_
                    refine r_ist2 rfl (by decide) dX9_fault_126 ?_
                    first | refine r_incN3 rfl (by decide) dX9_fault_127 ?_ | refine r_incP3 rfl (by decide) dX9_fault_127 ?_
                    refine r_goto 6 dX9_fault_130 (by decide) ?_
                    first
                      | exact absurd (let124 hn6 c_67) c_41
                      | exact absurd rfl c_95
                      | exact absurd c_95 (by decide)
                      | exact absurd rfl c_100
                      | exact absurd c_108 (by decide)
                      | exact absurd rfl c_108
                      | (have t9 := ff_new (ev := nI (2 ^ n) - 1) (d := d) (bh := bh) c_67 c_41 c_53
                         refine Ri.imp (ih d (i + 1) _ _ (by omega) (by omega) (fun q => absurd q (by decide))) (fun v h' q => ⟨q.1, ?_⟩)
                         rw [q.2, t9])
                      | (have t9 : ¬ bh = 0 := c_71
                         refine Ri.imp (ih d (i + 1) _ _ (by omega) (by omega) (fun _ => by rw [Int32.or_zero]; exact c_83)) (fun v h' q => ⟨q.1, ?_⟩)
                         rw [q.2, Int32.or_zero, ffF, if_pos c_67, if_neg c_71, if_neg c_83])
                  · refine r_iconst (v := (1 : Int32)) (by decide) dX9_fault_111 ?_
                    refine r_iload rfl dX9_fault_112 ?_
                    refine r_bipush (v := (97 : Int32)) (by decide) dX9_fault_114 ?_
                    refine r_isub dX9_fault_116 ?_
                    refine r_ishl dX9_fault_117 ?_
                    refine r_goto 122 dX9_fault_118 (by decide) ?_
                    refine r_ior dX9_fault_122 ?_
                    refine r_ist1 rfl (by decide) dX9_fault_123 ?_
                    refine r_iload rfl dX9_fault_124 ?_
                    refine r_ist2 rfl (by decide) dX9_fault_126 ?_
                    first | refine r_incN3 rfl (by decide) dX9_fault_127 ?_ | refine r_incP3 rfl (by decide) dX9_fault_127 ?_
                    refine r_goto 6 dX9_fault_130 (by decide) ?_
                    first
                      | exact absurd (let124 hn6 c_67) c_41
                      | exact absurd rfl c_95
                      | exact absurd c_95 (by decide)
                      | exact absurd rfl c_100
                      | exact absurd c_108 (by decide)
                      | exact absurd rfl c_108
                      | (have t9 := ff_new (ev := nI (2 ^ n) - 1) (d := d) (bh := bh) c_67 c_41 c_53
                         refine Ri.imp (ih d (i + 1) _ _ (by omega) (by omega) (fun q => absurd q (by decide))) (fun v h' q => ⟨q.1, ?_⟩)
                         rw [q.2, t9])
                      | (have t9 : ¬ bh = 0 := c_71
                         refine Ri.imp (ih d (i + 1) _ _ (by omega) (by omega) (fun _ => by rw [Int32.or_zero]; exact c_83)) (fun v h' q => ⟨q.1, ?_⟩)
                         rw [q.2, Int32.or_zero, ffF, if_pos c_67, if_neg c_71, if_neg c_83])
                · refine r_iload rfl dX9_fault_98 ?_
                  refine r_if_ne 105 dX9_fault_100 (by decide) (fun c_100 => ?_) (fun c_100 => ?_)
                  · refine r_iload_n rfl dX9_fault_105 ?_
                    refine r_iload rfl dX9_fault_106 ?_
                    refine r_if_eq 121 dX9_fault_108 (by decide) (fun c_108 => ?_) (fun c_108 => ?_)
                    · refine r_iconst (v := (0 : Int32)) (by decide) dX9_fault_121 ?_
                      refine r_ior dX9_fault_122 ?_
                      refine r_ist1 rfl (by decide) dX9_fault_123 ?_
                      refine r_iload rfl dX9_fault_124 ?_
                      refine r_ist2 rfl (by decide) dX9_fault_126 ?_
                      first | refine r_incN3 rfl (by decide) dX9_fault_127 ?_ | refine r_incP3 rfl (by decide) dX9_fault_127 ?_
                      refine r_goto 6 dX9_fault_130 (by decide) ?_
                      first
                        | exact absurd (let124 hn6 c_67) c_41
                        | exact absurd rfl c_95
                        | exact absurd c_95 (by decide)
                        | exact absurd rfl c_100
                        | exact absurd c_108 (by decide)
                        | exact absurd rfl c_108
                        | (have t9 := ff_new (ev := nI (2 ^ n) - 1) (d := d) (bh := bh) c_67 c_41 c_53
                           refine Ri.imp (ih d (i + 1) _ _ (by omega) (by omega) (fun q => absurd q (by decide))) (fun v h' q => ⟨q.1, ?_⟩)
                           rw [q.2, t9])
                        | (have t9 : ¬ bh = 0 := c_71
                           refine Ri.imp (ih d (i + 1) _ _ (by omega) (by omega) (fun _ => by rw [Int32.or_zero]; exact c_83)) (fun v h' q => ⟨q.1, ?_⟩)
                           rw [q.2, Int32.or_zero, ffF, if_pos c_67, if_neg c_71, if_neg c_83])
                    · refine r_iconst (v := (1 : Int32)) (by decide) dX9_fault_111 ?_
                      refine r_iload rfl dX9_fault_112 ?_
                      refine r_bipush (v := (97 : Int32)) (by decide) dX9_fault_114 ?_
                      refine r_isub dX9_fault_116 ?_
                      refine r_ishl dX9_fault_117 ?_
                      refine r_goto 122 dX9_fault_118 (by decide) ?_
                      refine r_ior dX9_fault_122 ?_
                      refine r_ist1 rfl (by decide) dX9_fault_123 ?_
                      refine r_iload rfl dX9_fault_124 ?_
                      refine r_ist2 rfl (by decide) dX9_fault_126 ?_
                      first | refine r_incN3 rfl (by decide) dX9_fault_127 ?_ | refine r_incP3 rfl (by decide) dX9_fault_127 ?_
                      refine r_goto 6 dX9_fault_130 (by decide) ?_
                      first
                        | exact absurd (let124 hn6 c_67) c_41
                        | exact absurd rfl c_95
                        | exact absurd c_95 (by decide)
                        | exact absurd rfl c_100
                        | exact absurd c_108 (by decide)
                        | exact absurd rfl c_108
                        | (have t9 := ff_new (ev := nI (2 ^ n) - 1) (d := d) (bh := bh) c_67 c_41 c_53
                           refine Ri.imp (ih d (i + 1) _ _ (by omega) (by omega) (fun q => absurd q (by decide))) (fun v h' q => ⟨q.1, ?_⟩)
                           rw [q.2, t9])
                        | (have t9 : ¬ bh = 0 := c_71
                           refine Ri.imp (ih d (i + 1) _ _ (by omega) (by omega) (fun _ => by rw [Int32.or_zero]; exact c_83)) (fun v h' q => ⟨q.1, ?_⟩)
                           rw [q.2, Int32.or_zero, ffF, if_pos c_67, if_neg c_71, if_neg c_83])
                  · refine r_iload_n rfl dX9_fault_103 ?_
                    refine ret_i dX9_fault_104 rfl ?_
                    first
                      | exact absurd c_95 (by decide)
                      | exact absurd c_100 (by decide)
                      | exact ⟨rfl, by rw [ff_bad c_67 c_41]⟩
                      | exact ⟨rfl, by rw [ff_was c_67 c_41 c_53]⟩
                      | exact ⟨rfl, by rw [ffF, if_pos c_67, if_pos c_71]⟩
                      | exact ⟨rfl, by rw [ffF, if_pos c_67, if_neg c_71, if_pos c_83]⟩
              · refine r_iload_n rfl dX9_fault_74 ?_
                refine r_iconst (v := (1 : Int32)) (by decide) dX9_fault_75 ?_
                refine r_aload_n rfl dX9_fault_76 ?_
                refine r_getI foX9_55 rfl rfl dX9_fault_77 ?_
                rw [I.1.2]
                refine r_ishl dX9_fault_80 ?_
                rw [shl1 hn6]
                refine r_iconst (v := (1 : Int32)) (by decide) dX9_fault_81 ?_
                refine r_isub dX9_fault_82 ?_
                refine r_icmp_eq 90 dX9_fault_83 (by decide) (fun c_83 => ?_) (fun c_83 => ?_)
                · refine r_iconst (v := (0 : Int32)) (by decide) dX9_fault_90 ?_
                  refine r_ist6 rfl (by decide) dX9_fault_91 ?_
                  refine r_iload rfl dX9_fault_93 ?_
                  refine r_if_ne 105 dX9_fault_95 (by decide) (fun c_95 => ?_) (fun c_95 => ?_)
                  · refine r_iload_n rfl dX9_fault_105 ?_
                    refine r_iload rfl dX9_fault_106 ?_
                    refine r_if_eq 121 dX9_fault_108 (by decide) (fun c_108 => ?_) (fun c_108 => ?_)
                    · refine r_iconst (v := (0 : Int32)) (by decide) dX9_fault_121 ?_
                      refine r_ior dX9_fault_122 ?_
                      refine r_ist1 rfl (by decide) dX9_fault_123 ?_
                      refine r_iload rfl dX9_fault_124 ?_
                      refine r_ist2 rfl (by decide) dX9_fault_126 ?_
                      first | refine r_incN3 rfl (by decide) dX9_fault_127 ?_ | refine r_incP3 rfl (by decide) dX9_fault_127 ?_
                      refine r_goto 6 dX9_fault_130 (by decide) ?_
                      first
                        | exact absurd (let124 hn6 c_67) c_41
                        | exact absurd rfl c_95
                        | exact absurd c_95 (by decide)
                        | exact absurd rfl c_100
                        | exact absurd c_108 (by decide)
                        | exact absurd rfl c_108
                        | (have t9 := ff_new (ev := nI (2 ^ n) - 1) (d := d) (bh := bh) c_67 c_41 c_53
                           refine Ri.imp (ih d (i + 1) _ _ (by omega) (by omega) (fun q => absurd q (by decide))) (fun v h' q => ⟨q.1, ?_⟩)
                           rw [q.2, t9])
                        | (have t9 : ¬ bh = 0 := c_71
                           refine Ri.imp (ih d (i + 1) _ _ (by omega) (by omega) (fun _ => by rw [Int32.or_zero]; exact c_83)) (fun v h' q => ⟨q.1, ?_⟩)
                           rw [q.2, Int32.or_zero, ffF, if_pos c_67, if_neg c_71, if_neg c_83])
                    · refine r_iconst (v := (1 : Int32)) (by decide) dX9_fault_111 ?_
                      refine r_iload rfl dX9_fault_112 ?_
                      refine r_bipush (v := (97 : Int32)) (by decide) dX9_fault_114 ?_
                      refine r_isub dX9_fault_116 ?_
                      refine r_ishl dX9_fault_117 ?_
                      refine r_goto 122 dX9_fault_118 (by decide) ?_
                      refine r_ior dX9_fault_122 ?_
                      refine r_ist1 rfl (by decide) dX9_fault_123 ?_
                      refine r_iload rfl dX9_fault_124 ?_
                      refine r_ist2 rfl (by decide) dX9_fault_126 ?_
                      first | refine r_incN3 rfl (by decide) dX9_fault_127 ?_ | refine r_incP3 rfl (by decide) dX9_fault_127 ?_
                      refine r_goto 6 dX9_fault_130 (by decide) ?_
                      first
                        | exact absurd (let124 hn6 c_67) c_41
                        | exact absurd rfl c_95
                        | exact absurd c_95 (by decide)
                        | exact absurd rfl c_100
                        | exact absurd c_108 (by decide)
                        | exact absurd rfl c_108
                        | (have t9 := ff_new (ev := nI (2 ^ n) - 1) (d := d) (bh := bh) c_67 c_41 c_53
                           refine Ri.imp (ih d (i + 1) _ _ (by omega) (by omega) (fun q => absurd q (by decide))) (fun v h' q => ⟨q.1, ?_⟩)
                           rw [q.2, t9])
                        | (have t9 : ¬ bh = 0 := c_71
                           refine Ri.imp (ih d (i + 1) _ _ (by omega) (by omega) (fun _ => by rw [Int32.or_zero]; exact c_83)) (fun v h' q => ⟨q.1, ?_⟩)
                           rw [q.2, Int32.or_zero, ffF, if_pos c_67, if_neg c_71, if_neg c_83])
                  · refine r_iload rfl dX9_fault_98 ?_
                    refine r_if_ne 105 dX9_fault_100 (by decide) (fun c_100 => ?_) (fun c_100 => ?_)
                    · refine r_iload_n rfl dX9_fault_105 ?_
                      refine r_iload rfl dX9_fault_106 ?_
                      refine r_if_eq 121 dX9_fault_108 (by decide) (fun c_108 => ?_) (fun c_108 => ?_)
                      · refine r_iconst (v := (0 : Int32)) (by decide) dX9_fault_121 ?_
                        refine r_ior dX9_fault_122 ?_
                        refine r_ist1 rfl (by decide) dX9_fault_123 ?_
                        refine r_iload rfl dX9_fault_124 ?_
                        refine r_ist2 rfl (by decide) dX9_fault_126 ?_
                        first | refine r_incN3 rfl (by decide) dX9_fault_127 ?_ | refine r_incP3 rfl (by decide) dX9_fault_127 ?_
                        refine r_goto 6 dX9_fault_130 (by decide) ?_
                        first
                          | exact absurd (let124 hn6 c_67) c_41
                          | exact absurd rfl c_95
                          | exact absurd c_95 (by decide)
                          | exact absurd rfl c_100
                          | exact absurd c_108 (by decide)
                          | exact absurd rfl c_108
                          | (have t9 := ff_new (ev := nI (2 ^ n) - 1) (d := d) (bh := bh) c_67 c_41 c_53
                             refine Ri.imp (ih d (i + 1) _ _ (by omega) (by omega) (fun q => absurd q (by decide))) (fun v h' q => ⟨q.1, ?_⟩)
                             rw [q.2, t9])
                          | (have t9 : ¬ bh = 0 := c_71
                             refine Ri.imp (ih d (i + 1) _ _ (by omega) (by omega) (fun _ => by rw [Int32.or_zero]; exact c_83)) (fun v h' q => ⟨q.1, ?_⟩)
                             rw [q.2, Int32.or_zero, ffF, if_pos c_67, if_neg c_71, if_neg c_83])
                      · refine r_iconst (v := (1 : Int32)) (by decide) dX9_fault_111 ?_
                        refine r_iload rfl dX9_fault_112 ?_
                        refine r_bipush (v := (97 : Int32)) (by decide) dX9_fault_114 ?_
                        refine r_isub dX9_fault_116 ?_
                        refine r_ishl dX9_fault_117 ?_
                        refine r_goto 122 dX9_fault_118 (by decide) ?_
                        refine r_ior dX9_fault_122 ?_
                        refine r_ist1 rfl (by decide) dX9_fault_123 ?_
                        refine r_iload rfl dX9_fault_124 ?_
                        refine r_ist2 rfl (by decide) dX9_fault_126 ?_
                        first | refine r_incN3 rfl (by decide) dX9_fault_127 ?_ | refine r_incP3 rfl (by decide) dX9_fault_127 ?_
                        refine r_goto 6 dX9_fault_130 (by decide) ?_
                        first
                          | exact absurd (let124 hn6 c_67) c_41
                          | exact absurd rfl c_95
                          | exact absurd c_95 (by decide)
                          | exact absurd rfl c_100
                          | exact absurd c_108 (by decide)
                          | exact absurd rfl c_108
                          | (have t9 := ff_new (ev := nI (2 ^ n) - 1) (d := d) (bh := bh) c_67 c_41 c_53
                             refine Ri.imp (ih d (i + 1) _ _ (by omega) (by omega) (fun q => absurd q (by decide))) (fun v h' q => ⟨q.1, ?_⟩)
                             rw [q.2, t9])
                          | (have t9 : ¬ bh = 0 := c_71
                             refine Ri.imp (ih d (i + 1) _ _ (by omega) (by omega) (fun _ => by rw [Int32.or_zero]; exact c_83)) (fun v h' q => ⟨q.1, ?_⟩)
                             rw [q.2, Int32.or_zero, ffF, if_pos c_67, if_neg c_71, if_neg c_83])
                    · refine r_iload_n rfl dX9_fault_103 ?_
                      refine ret_i dX9_fault_104 rfl ?_
                      first
                        | exact absurd c_95 (by decide)
                        | exact absurd c_100 (by decide)
                        | exact ⟨rfl, by rw [ff_bad c_67 c_41]⟩
                        | exact ⟨rfl, by rw [ff_was c_67 c_41 c_53]⟩
                        | exact ⟨rfl, by rw [ffF, if_pos c_67, if_pos c_71]⟩
                        | exact ⟨rfl, by rw [ffF, if_pos c_67, if_neg c_71, if_pos c_83]⟩
                · refine r_iconst (v := (1 : Int32)) (by decide) dX9_fault_86 ?_
                  refine r_goto 91 dX9_fault_87 (by decide) ?_
                  refine r_ist6 rfl (by decide) dX9_fault_91 ?_
                  refine r_iload rfl dX9_fault_93 ?_
                  refine r_if_ne 105 dX9_fault_95 (by decide) (fun c_95 => ?_) (fun c_95 => ?_)
                  · refine r_iload_n rfl dX9_fault_105 ?_
                    refine r_iload rfl dX9_fault_106 ?_
                    refine r_if_eq 121 dX9_fault_108 (by decide) (fun c_108 => ?_) (fun c_108 => ?_)
                    · refine r_iconst (v := (0 : Int32)) (by decide) dX9_fault_121 ?_
                      refine r_ior dX9_fault_122 ?_
                      refine r_ist1 rfl (by decide) dX9_fault_123 ?_
                      refine r_iload rfl dX9_fault_124 ?_
                      refine r_ist2 rfl (by decide) dX9_fault_126 ?_
                      first | refine r_incN3 rfl (by decide) dX9_fault_127 ?_ | refine r_incP3 rfl (by decide) dX9_fault_127 ?_
                      refine r_goto 6 dX9_fault_130 (by decide) ?_
                      first
                        | exact absurd (let124 hn6 c_67) c_41
                        | exact absurd rfl c_95
                        | exact absurd c_95 (by decide)
                        | exact absurd rfl c_100
                        | exact absurd c_108 (by decide)
                        | exact absurd rfl c_108
                        | (have t9 := ff_new (ev := nI (2 ^ n) - 1) (d := d) (bh := bh) c_67 c_41 c_53
                           refine Ri.imp (ih d (i + 1) _ _ (by omega) (by omega) (fun q => absurd q (by decide))) (fun v h' q => ⟨q.1, ?_⟩)
                           rw [q.2, t9])
                        | (have t9 : ¬ bh = 0 := c_71
                           refine Ri.imp (ih d (i + 1) _ _ (by omega) (by omega) (fun _ => by rw [Int32.or_zero]; exact c_83)) (fun v h' q => ⟨q.1, ?_⟩)
                           rw [q.2, Int32.or_zero, ffF, if_pos c_67, if_neg c_71, if_neg c_83])
                    · refine r_iconst (v := (1 : Int32)) (by decide) dX9_fault_111 ?_
                      refine r_iload rfl dX9_fault_112 ?_
                      refine r_bipush (v := (97 : Int32)) (by decide) dX9_fault_114 ?_
                      refine r_isub dX9_fault_116 ?_
                      refine r_ishl dX9_fault_117 ?_
                      refine r_goto 122 dX9_fault_118 (by decide) ?_
                      refine r_ior dX9_fault_122 ?_
                      refine r_ist1 rfl (by decide) dX9_fault_123 ?_
                      refine r_iload rfl dX9_fault_124 ?_
                      refine r_ist2 rfl (by decide) dX9_fault_126 ?_
                      first | refine r_incN3 rfl (by decide) dX9_fault_127 ?_ | refine r_incP3 rfl (by decide) dX9_fault_127 ?_
                      refine r_goto 6 dX9_fault_130 (by decide) ?_
                      first
                        | exact absurd (let124 hn6 c_67) c_41
                        | exact absurd rfl c_95
                        | exact absurd c_95 (by decide)
                        | exact absurd rfl c_100
                        | exact absurd c_108 (by decide)
                        | exact absurd rfl c_108
                        | (have t9 := ff_new (ev := nI (2 ^ n) - 1) (d := d) (bh := bh) c_67 c_41 c_53
                           refine Ri.imp (ih d (i + 1) _ _ (by omega) (by omega) (fun q => absurd q (by decide))) (fun v h' q => ⟨q.1, ?_⟩)
                           rw [q.2, t9])
                        | (have t9 : ¬ bh = 0 := c_71
                           refine Ri.imp (ih d (i + 1) _ _ (by omega) (by omega) (fun _ => by rw [Int32.or_zero]; exact c_83)) (fun v h' q => ⟨q.1, ?_⟩)
                           rw [q.2, Int32.or_zero, ffF, if_pos c_67, if_neg c_71, if_neg c_83])
                  · refine r_iload rfl dX9_fault_98 ?_
                    refine r_if_ne 105 dX9_fault_100 (by decide) (fun c_100 => ?_) (fun c_100 => ?_)
                    · refine r_iload_n rfl dX9_fault_105 ?_
                      refine r_iload rfl dX9_fault_106 ?_
                      refine r_if_eq 121 dX9_fault_108 (by decide) (fun c_108 => ?_) (fun c_108 => ?_)
                      · refine r_iconst (v := (0 : Int32)) (by decide) dX9_fault_121 ?_
                        refine r_ior dX9_fault_122 ?_
                        refine r_ist1 rfl (by decide) dX9_fault_123 ?_
                        refine r_iload rfl dX9_fault_124 ?_
                        refine r_ist2 rfl (by decide) dX9_fault_126 ?_
                        first | refine r_incN3 rfl (by decide) dX9_fault_127 ?_ | refine r_incP3 rfl (by decide) dX9_fault_127 ?_
                        refine r_goto 6 dX9_fault_130 (by decide) ?_
                        first
                          | exact absurd (let124 hn6 c_67) c_41
                          | exact absurd rfl c_95
                          | exact absurd c_95 (by decide)
                          | exact absurd rfl c_100
                          | exact absurd c_108 (by decide)
                          | exact absurd rfl c_108
                          | (have t9 := ff_new (ev := nI (2 ^ n) - 1) (d := d) (bh := bh) c_67 c_41 c_53
                             refine Ri.imp (ih d (i + 1) _ _ (by omega) (by omega) (fun q => absurd q (by decide))) (fun v h' q => ⟨q.1, ?_⟩)
                             rw [q.2, t9])
                          | (have t9 : ¬ bh = 0 := c_71
                             refine Ri.imp (ih d (i + 1) _ _ (by omega) (by omega) (fun _ => by rw [Int32.or_zero]; exact c_83)) (fun v h' q => ⟨q.1, ?_⟩)
                             rw [q.2, Int32.or_zero, ffF, if_pos c_67, if_neg c_71, if_neg c_83])
                      · refine r_iconst (v := (1 : Int32)) (by decide) dX9_fault_111 ?_
                        refine r_iload rfl dX9_fault_112 ?_
                        refine r_bipush (v := (97 : Int32)) (by decide) dX9_fault_114 ?_
                        refine r_isub dX9_fault_116 ?_
                        refine r_ishl dX9_fault_117 ?_
                        refine r_goto 122 dX9_fault_118 (by decide) ?_
                        refine r_ior dX9_fault_122 ?_
                        refine r_ist1 rfl (by decide) dX9_fault_123 ?_
                        refine r_iload rfl dX9_fault_124 ?_
                        refine r_ist2 rfl (by decide) dX9_fault_126 ?_
                        first | refine r_incN3 rfl (by decide) dX9_fault_127 ?_ | refine r_incP3 rfl (by decide) dX9_fault_127 ?_
                        refine r_goto 6 dX9_fault_130 (by decide) ?_
                        first
                          | exact absurd (let124 hn6 c_67) c_41
                          | exact absurd rfl c_95
                          | exact absurd c_95 (by decide)
                          | exact absurd rfl c_100
                          | exact absurd c_108 (by decide)
                          | exact absurd rfl c_108
                          | (have t9 := ff_new (ev := nI (2 ^ n) - 1) (d := d) (bh := bh) c_67 c_41 c_53
                             refine Ri.imp (ih d (i + 1) _ _ (by omega) (by omega) (fun q => absurd q (by decide))) (fun v h' q => ⟨q.1, ?_⟩)
                             rw [q.2, t9])
                          | (have t9 : ¬ bh = 0 := c_71
                             refine Ri.imp (ih d (i + 1) _ _ (by omega) (by omega) (fun _ => by rw [Int32.or_zero]; exact c_83)) (fun v h' q => ⟨q.1, ?_⟩)
                             rw [q.2, Int32.or_zero, ffF, if_pos c_67, if_neg c_71, if_neg c_83])
                    · refine r_iload_n rfl dX9_fault_103 ?_
                      refine ret_i dX9_fault_104 rfl ?_
                      first
                        | exact absurd c_95 (by decide)
                        | exact absurd c_100 (by decide)
                        | exact ⟨rfl, by rw [ff_bad c_67 c_41]⟩
                        | exact ⟨rfl, by rw [ff_was c_67 c_41 c_53]⟩
                        | exact ⟨rfl, by rw [ffF, if_pos c_67, if_pos c_71]⟩
                        | exact ⟨rfl, by rw [ffF, if_pos c_67, if_neg c_71, if_pos c_83]⟩
          · refine r_iconst (v := (1 : Int32)) (by decide) dX9_fault_56 ?_
            refine r_goto 61 dX9_fault_57 (by decide) ?_
            refine r_ist5 rfl (by decide) dX9_fault_61 ?_
            refine r_iload rfl dX9_fault_63 ?_
            refine r_bipush (v := (124 : Int32)) (by decide) dX9_fault_65 ?_
            refine r_icmp_ne 90 dX9_fault_67 (by decide) (fun c_67 => ?_) (fun c_67 => ?_)
            · refine r_iconst (v := (0 : Int32)) (by decide) dX9_fault_90 ?_
              refine r_ist6 rfl (by decide) dX9_fault_91 ?_
              refine r_iload rfl dX9_fault_93 ?_
              refine r_if_ne 105 dX9_fault_95 (by decide) (fun c_95 => ?_) (fun c_95 => ?_)
              · refine r_iload_n rfl dX9_fault_105 ?_
                refine r_iload rfl dX9_fault_106 ?_
                refine r_if_eq 121 dX9_fault_108 (by decide) (fun c_108 => ?_) (fun c_108 => ?_)
                · refine r_iconst (v := (0 : Int32)) (by decide) dX9_fault_121 ?_
                  refine r_ior dX9_fault_122 ?_
                  refine r_ist1 rfl (by decide) dX9_fault_123 ?_
                  refine r_iload rfl dX9_fault_124 ?_
                  refine r_ist2 rfl (by decide) dX9_fault_126 ?_
                  first | refine r_incN3 rfl (by decide) dX9_fault_127 ?_ | refine r_incP3 rfl (by decide) dX9_fault_127 ?_
                  refine r_goto 6 dX9_fault_130 (by decide) ?_
                  first
                    | exact absurd (let124 hn6 c_67) c_41
                    | exact absurd rfl c_95
                    | exact absurd c_95 (by decide)
                    | exact absurd rfl c_100
                    | exact absurd c_108 (by decide)
                    | exact absurd rfl c_108
                    | (have t9 := ff_new (ev := nI (2 ^ n) - 1) (d := d) (bh := bh) c_67 c_41 c_53
                       refine Ri.imp (ih d (i + 1) _ _ (by omega) (by omega) (fun q => absurd q (by decide))) (fun v h' q => ⟨q.1, ?_⟩)
                       rw [q.2, t9])
                    | (have t9 : ¬ bh = 0 := c_71
                       refine Ri.imp (ih d (i + 1) _ _ (by omega) (by omega) (fun _ => by rw [Int32.or_zero]; exact c_83)) (fun v h' q => ⟨q.1, ?_⟩)
                       rw [q.2, Int32.or_zero, ffF, if_pos c_67, if_neg c_71, if_neg c_83])
                · refine r_iconst (v := (1 : Int32)) (by decide) dX9_fault_111 ?_
                  refine r_iload rfl dX9_fault_112 ?_
                  refine r_bipush (v := (97 : Int32)) (by decide) dX9_fault_114 ?_
                  refine r_isub dX9_fault_116 ?_
                  refine r_ishl dX9_fault_117 ?_
                  refine r_goto 122 dX9_fault_118 (by decide) ?_
                  refine r_ior dX9_fault_122 ?_
                  refine r_ist1 rfl (by decide) dX9_fault_123 ?_
                  refine r_iload rfl dX9_fault_124 ?_
                  refine r_ist2 rfl (by decide) dX9_fault_126 ?_
                  first | refine r_incN3 rfl (by decide) dX9_fault_127 ?_ | refine r_incP3 rfl (by decide) dX9_fault_127 ?_
                  refine r_goto 6 dX9_fault_130 (by decide) ?_
                  first
                    | exact absurd (let124 hn6 c_67) c_41
                    | exact absurd rfl c_95
                    | exact absurd c_95 (by decide)
                    | exact absurd rfl c_100
                    | exact absurd c_108 (by decide)
                    | exact absurd rfl c_108
                    | (have t9 := ff_new (ev := nI (2 ^ n) - 1) (d := d) (bh := bh) c_67 c_41 c_53
                       refine Ri.imp (ih d (i + 1) _ _ (by omega) (by omega) (fun q => absurd q (by decide))) (fun v h' q => ⟨q.1, ?_⟩)
                       rw [q.2, t9])
                    | (have t9 : ¬ bh = 0 := c_71
                       refine Ri.imp (ih d (i + 1) _ _ (by omega) (by omega) (fun _ => by rw [Int32.or_zero]; exact c_83)) (fun v h' q => ⟨q.1, ?_⟩)
                       rw [q.2, Int32.or_zero, ffF, if_pos c_67, if_neg c_71, if_neg c_83])
              · refine r_iload rfl dX9_fault_98 ?_
                refine r_if_ne 105 dX9_fault_100 (by decide) (fun c_100 => ?_) (fun c_100 => ?_)
                · refine r_iload_n rfl dX9_fault_105 ?_
                  refine r_iload rfl dX9_fault_106 ?_
                  refine r_if_eq 121 dX9_fault_108 (by decide) (fun c_108 => ?_) (fun c_108 => ?_)
                  · refine r_iconst (v := (0 : Int32)) (by decide) dX9_fault_121 ?_
                    refine r_ior dX9_fault_122 ?_
                    refine r_ist1 rfl (by decide) dX9_fault_123 ?_
                    refine r_iload rfl dX9_fault_124 ?_
                    refine r_ist2 rfl (by decide) dX9_fault_126 ?_
                    first | refine r_incN3 rfl (by decide) dX9_fault_127 ?_ | refine r_incP3 rfl (by decide) dX9_fault_127 ?_
                    refine r_goto 6 dX9_fault_130 (by decide) ?_
                    first
                      | exact absurd (let124 hn6 c_67) c_41
                      | exact absurd rfl c_95
                      | exact absurd c_95 (by decide)
                      | exact absurd rfl c_100
                      | exact absurd c_108 (by decide)
                      | exact absurd rfl c_108
                      | (have t9 := ff_new (ev := nI (2 ^ n) - 1) (d := d) (bh := bh) c_67 c_41 c_53
                         refine Ri.imp (ih d (i + 1) _ _ (by omega) (by omega) (fun q => absurd q (by decide))) (fun v h' q => ⟨q.1, ?_⟩)
                         rw [q.2, t9])
                      | (have t9 : ¬ bh = 0 := c_71
                         refine Ri.imp (ih d (i + 1) _ _ (by omega) (by omega) (fun _ => by rw [Int32.or_zero]; exact c_83)) (fun v h' q => ⟨q.1, ?_⟩)
                         rw [q.2, Int32.or_zero, ffF, if_pos c_67, if_neg c_71, if_neg c_83])
                  · refine r_iconst (v := (1 : Int32)) (by decide) dX9_fault_111 ?_
                    refine r_iload rfl dX9_fault_112 ?_
                    refine r_bipush (v := (97 : Int32)) (by decide) dX9_fault_114 ?_
                    refine r_isub dX9_fault_116 ?_
                    refine r_ishl dX9_fault_117 ?_
                    refine r_goto 122 dX9_fault_118 (by decide) ?_
                    refine r_ior dX9_fault_122 ?_
                    refine r_ist1 rfl (by decide) dX9_fault_123 ?_
                    refine r_iload rfl dX9_fault_124 ?_
                    refine r_ist2 rfl (by decide) dX9_fault_126 ?_
                    first | refine r_incN3 rfl (by decide) dX9_fault_127 ?_ | refine r_incP3 rfl (by decide) dX9_fault_127 ?_
                    refine r_goto 6 dX9_fault_130 (by decide) ?_
                    first
                      | exact absurd (let124 hn6 c_67) c_41
                      | exact absurd rfl c_95
                      | exact absurd c_95 (by decide)
                      | exact absurd rfl c_100
                      | exact absurd c_108 (by decide)
                      | exact absurd rfl c_108
                      | (have t9 := ff_new (ev := nI (2 ^ n) - 1) (d := d) (bh := bh) c_67 c_41 c_53
                         refine Ri.imp (ih d (i + 1) _ _ (by omega) (by omega) (fun q => absurd q (by decide))) (fun v h' q => ⟨q.1, ?_⟩)
                         rw [q.2, t9])
                      | (have t9 : ¬ bh = 0 := c_71
                         refine Ri.imp (ih d (i + 1) _ _ (by omega) (by omega) (fun _ => by rw [Int32.or_zero]; exact c_83)) (fun v h' q => ⟨q.1, ?_⟩)
                         rw [q.2, Int32.or_zero, ffF, if_pos c_67, if_neg c_71, if_neg c_83])
                · refine r_iload_n rfl dX9_fault_103 ?_
                  refine ret_i dX9_fault_104 rfl ?_
                  first
                    | exact absurd c_95 (by decide)
                    | exact absurd c_100 (by decide)
                    | exact ⟨rfl, by rw [ff_bad c_67 c_41]⟩
                    | exact ⟨rfl, by rw [ff_was c_67 c_41 c_53]⟩
                    | exact ⟨rfl, by rw [ffF, if_pos c_67, if_pos c_71]⟩
                    | exact ⟨rfl, by rw [ffF, if_pos c_67, if_neg c_71, if_pos c_83]⟩
            · refine r_iload_n rfl dX9_fault_70 ?_
              refine r_if_eq 90 dX9_fault_71 (by decide) (fun c_71 => ?_) (fun c_71 => ?_)
              · refine r_iconst (v := (0 : Int32)) (by decide) dX9_fault_90 ?_
                refine r_ist6 rfl (by decide) dX9_fault_91 ?_
                refine r_iload rfl dX9_fault_93 ?_
                refine r_if_ne 105 dX9_fault_95 (by decide) (fun c_95 => ?_) (fun c_95 => ?_)
                · refine r_iload_n rfl dX9_fault_105 ?_
                  refine r_iload rfl dX9_fault_106 ?_
                  refine r_if_eq 121 dX9_fault_108 (by decide) (fun c_108 => ?_) (fun c_108 => ?_)
                  · refine r_iconst (v := (0 : Int32)) (by decide) dX9_fault_121 ?_
                    refine r_ior dX9_fault_122 ?_
                    refine r_ist1 rfl (by decide) dX9_fault_123 ?_
                    refine r_iload rfl dX9_fault_124 ?_
                    refine r_ist2 rfl (by decide) dX9_fault_126 ?_
                    first | refine r_incN3 rfl (by decide) dX9_fault_127 ?_ | refine r_incP3 rfl (by decide) dX9_fault_127 ?_
                    refine r_goto 6 dX9_fault_130 (by decide) ?_
                    first
                      | exact absurd (let124 hn6 c_67) c_41
                      | exact absurd rfl c_95
                      | exact absurd c_95 (by decide)
                      | exact absurd rfl c_100
                      | exact absurd c_108 (by decide)
                      | exact absurd rfl c_108
                      | (have t9 := ff_new (ev := nI (2 ^ n) - 1) (d := d) (bh := bh) c_67 c_41 c_53
                         refine Ri.imp (ih d (i + 1) _ _ (by omega) (by omega) (fun q => absurd q (by decide))) (fun v h' q => ⟨q.1, ?_⟩)
                         rw [q.2, t9])
                      | (have t9 : ¬ bh = 0 := c_71
                         refine Ri.imp (ih d (i + 1) _ _ (by omega) (by omega) (fun _ => by rw [Int32.or_zero]; exact c_83)) (fun v h' q => ⟨q.1, ?_⟩)
                         rw [q.2, Int32.or_zero, ffF, if_pos c_67, if_neg c_71, if_neg c_83])
                  · refine r_iconst (v := (1 : Int32)) (by decide) dX9_fault_111 ?_
                    refine r_iload rfl dX9_fault_112 ?_
                    refine r_bipush (v := (97 : Int32)) (by decide) dX9_fault_114 ?_
                    refine r_isub dX9_fault_116 ?_
                    refine r_ishl dX9_fault_117 ?_
                    refine r_goto 122 dX9_fault_118 (by decide) ?_
                    refine r_ior dX9_fault_122 ?_
                    refine r_ist1 rfl (by decide) dX9_fault_123 ?_
                    refine r_iload rfl dX9_fault_124 ?_
                    refine r_ist2 rfl (by decide) dX9_fault_126 ?_
                    first | refine r_incN3 rfl (by decide) dX9_fault_127 ?_ | refine r_incP3 rfl (by decide) dX9_fault_127 ?_
                    refine r_goto 6 dX9_fault_130 (by decide) ?_
                    first
                      | exact absurd (let124 hn6 c_67) c_41
                      | exact absurd rfl c_95
                      | exact absurd c_95 (by decide)
                      | exact absurd rfl c_100
                      | exact absurd c_108 (by decide)
                      | exact absurd rfl c_108
                      | (have t9 := ff_new (ev := nI (2 ^ n) - 1) (d := d) (bh := bh) c_67 c_41 c_53
                         refine Ri.imp (ih d (i + 1) _ _ (by omega) (by omega) (fun q => absurd q (by decide))) (fun v h' q => ⟨q.1, ?_⟩)
                         rw [q.2, t9])
                      | (have t9 : ¬ bh = 0 := c_71
                         refine Ri.imp (ih d (i + 1) _ _ (by omega) (by omega) (fun _ => by rw [Int32.or_zero]; exact c_83)) (fun v h' q => ⟨q.1, ?_⟩)
                         rw [q.2, Int32.or_zero, ffF, if_pos c_67, if_neg c_71, if_neg c_83])
                · refine r_iload rfl dX9_fault_98 ?_
                  refine r_if_ne 105 dX9_fault_100 (by decide) (fun c_100 => ?_) (fun c_100 => ?_)
                  · refine r_iload_n rfl dX9_fault_105 ?_
                    refine r_iload rfl dX9_fault_106 ?_
                    refine r_if_eq 121 dX9_fault_108 (by decide) (fun c_108 => ?_) (fun c_108 => ?_)
                    · refine r_iconst (v := (0 : Int32)) (by decide) dX9_fault_121 ?_
                      refine r_ior dX9_fault_122 ?_
                      refine r_ist1 rfl (by decide) dX9_fault_123 ?_
                      refine r_iload rfl dX9_fault_124 ?_
                      refine r_ist2 rfl (by decide) dX9_fault_126 ?_
                      first | refine r_incN3 rfl (by decide) dX9_fault_127 ?_ | refine r_incP3 rfl (by decide) dX9_fault_127 ?_
                      refine r_goto 6 dX9_fault_130 (by decide) ?_
                      first
                        | exact absurd (let124 hn6 c_67) c_41
                        | exact absurd rfl c_95
                        | exact absurd c_95 (by decide)
                        | exact absurd rfl c_100
                        | exact absurd c_108 (by decide)
                        | exact absurd rfl c_108
                        | (have t9 := ff_new (ev := nI (2 ^ n) - 1) (d := d) (bh := bh) c_67 c_41 c_53
                           refine Ri.imp (ih d (i + 1) _ _ (by omega) (by omega) (fun q => absurd q (by decide))) (fun v h' q => ⟨q.1, ?_⟩)
                           rw [q.2, t9])
                        | (have t9 : ¬ bh = 0 := c_71
                           refine Ri.imp (ih d (i + 1) _ _ (by omega) (by omega) (fun _ => by rw [Int32.or_zero]; exact c_83)) (fun v h' q => ⟨q.1, ?_⟩)
                           rw [q.2, Int32.or_zero, ffF, if_pos c_67, if_neg c_71, if_neg c_83])
                    · refine r_iconst (v := (1 : Int32)) (by decide) dX9_fault_111 ?_
                      refine r_iload rfl dX9_fault_112 ?_
                      refine r_bipush (v := (97 : Int32)) (by decide) dX9_fault_114 ?_
                      refine r_isub dX9_fault_116 ?_
                      refine r_ishl dX9_fault_117 ?_
                      refine r_goto 122 dX9_fault_118 (by decide) ?_
                      refine r_ior dX9_fault_122 ?_
                      refine r_ist1 rfl (by decide) dX9_fault_123 ?_
                      refine r_iload rfl dX9_fault_124 ?_
                      refine r_ist2 rfl (by decide) dX9_fault_126 ?_
                      first | refine r_incN3 rfl (by decide) dX9_fault_127 ?_ | refine r_incP3 rfl (by decide) dX9_fault_127 ?_
                      refine r_goto 6 dX9_fault_130 (by decide) ?_
                      first
                        | exact absurd (let124 hn6 c_67) c_41
                        | exact absurd rfl c_95
                        | exact absurd c_95 (by decide)
                        | exact absurd rfl c_100
                        | exact absurd c_108 (by decide)
                        | exact absurd rfl c_108
                        | (have t9 := ff_new (ev := nI (2 ^ n) - 1) (d := d) (bh := bh) c_67 c_41 c_53
                           refine Ri.imp (ih d (i + 1) _ _ (by omega) (by omega) (fun q => absurd q (by decide))) (fun v h' q => ⟨q.1, ?_⟩)
                           rw [q.2, t9])
                        | (have t9 : ¬ bh = 0 := c_71
                           refine Ri.imp (ih d (i + 1) _ _ (by omega) (by omega) (fun _ => by rw [Int32.or_zero]; exact c_83)) (fun v h' q => ⟨q.1, ?_⟩)
                           rw [q.2, Int32.or_zero, ffF, if_pos c_67, if_neg c_71, if_neg c_83])
                  · refine r_iload_n rfl dX9_fault_103 ?_
                    refine ret_i dX9_fault_104 rfl ?_
                    first
                      | exact absurd c_95 (by decide)
                      | exact absurd c_100 (by decide)
                      | exact ⟨rfl, by rw [ff_bad c_67 c_41]⟩
                      | exact ⟨rfl, by rw [ff_was c_67 c_41 c_53]⟩
                      | exact ⟨rfl, by rw [ffF, if_pos c_67, if_pos c_71]⟩
                      | exact ⟨rfl, by rw [ffF, if_pos c_67, if_neg c_71, if_pos c_83]⟩
              · refine r_iload_n rfl dX9_fault_74 ?_
                refine r_iconst (v := (1 : Int32)) (by decide) dX9_fault_75 ?_
                refine r_aload_n rfl dX9_fault_76 ?_
                refine r_getI foX9_55 rfl rfl dX9_fault_77 ?_
                rw [I.1.2]
                refine r_ishl dX9_fault_80 ?_
                rw [shl1 hn6]
                refine r_iconst (v := (1 : Int32)) (by decide) dX9_fault_81 ?_
                refine r_isub dX9_fault_82 ?_
                refine r_icmp_eq 90 dX9_fault_83 (by decide) (fun c_83 => ?_) (fun c_83 => ?_)
                · refine r_iconst (v := (0 : Int32)) (by decide) dX9_fault_90 ?_
                  refine r_ist6 rfl (by decide) dX9_fault_91 ?_
                  refine r_iload rfl dX9_fault_93 ?_
                  refine r_if_ne 105 dX9_fault_95 (by decide) (fun c_95 => ?_) (fun c_95 => ?_)
                  · refine r_iload_n rfl dX9_fault_105 ?_
                    refine r_iload rfl dX9_fault_106 ?_
                    refine r_if_eq 121 dX9_fault_108 (by decide) (fun c_108 => ?_) (fun c_108 => ?_)
                    · refine r_iconst (v := (0 : Int32)) (by decide) dX9_fault_121 ?_
                      refine r_ior dX9_fault_122 ?_
                      refine r_ist1 rfl (by decide) dX9_fault_123 ?_
                      refine r_iload rfl dX9_fault_124 ?_
                      refine r_ist2 rfl (by decide) dX9_fault_126 ?_
                      first | refine r_incN3 rfl (by decide) dX9_fault_127 ?_ | refine r_incP3 rfl (by decide) dX9_fault_127 ?_
                      refine r_goto 6 dX9_fault_130 (by decide) ?_
                      first
                        | exact absurd (let124 hn6 c_67) c_41
                        | exact absurd rfl c_95
                        | exact absurd c_95 (by decide)
                        | exact absurd rfl c_100
                        | exact absurd c_108 (by decide)
                        | exact absurd rfl c_108
                        | (have t9 := ff_new (ev := nI (2 ^ n) - 1) (d := d) (bh := bh) c_67 c_41 c_53
                           refine Ri.imp (ih d (i + 1) _ _ (by omega) (by omega) (fun q => absurd q (by decide))) (fun v h' q => ⟨q.1, ?_⟩)
                           rw [q.2, t9])
                        | (have t9 : ¬ bh = 0 := c_71
                           refine Ri.imp (ih d (i + 1) _ _ (by omega) (by omega) (fun _ => by rw [Int32.or_zero]; exact c_83)) (fun v h' q => ⟨q.1, ?_⟩)
                           rw [q.2, Int32.or_zero, ffF, if_pos c_67, if_neg c_71, if_neg c_83])
                    · refine r_iconst (v := (1 : Int32)) (by decide) dX9_fault_111 ?_
                      refine r_iload rfl dX9_fault_112 ?_
                      refine r_bipush (v := (97 : Int32)) (by decide) dX9_fault_114 ?_
                      refine r_isub dX9_fault_116 ?_
                      refine r_ishl dX9_fault_117 ?_
                      refine r_goto 122 dX9_fault_118 (by decide) ?_
                      refine r_ior dX9_fault_122 ?_
                      refine r_ist1 rfl (by decide) dX9_fault_123 ?_
                      refine r_iload rfl dX9_fault_124 ?_
                      refine r_ist2 rfl (by decide) dX9_fault_126 ?_
                      first | refine r_incN3 rfl (by decide) dX9_fault_127 ?_ | refine r_incP3 rfl (by decide) dX9_fault_127 ?_
                      refine r_goto 6 dX9_fault_130 (by decide) ?_
                      first
                        | exact absurd (let124 hn6 c_67) c_41
                        | exact absurd rfl c_95
                        | exact absurd c_95 (by decide)
                        | exact absurd rfl c_100
                        | exact absurd c_108 (by decide)
                        | exact absurd rfl c_108
                        | (have t9 := ff_new (ev := nI (2 ^ n) - 1) (d := d) (bh := bh) c_67 c_41 c_53
                           refine Ri.imp (ih d (i + 1) _ _ (by omega) (by omega) (fun q => absurd q (by decide))) (fun v h' q => ⟨q.1, ?_⟩)
                           rw [q.2, t9])
                        | (have t9 : ¬ bh = 0 := c_71
                           refine Ri.imp (ih d (i + 1) _ _ (by omega) (by omega) (fun _ => by rw [Int32.or_zero]; exact c_83)) (fun v h' q => ⟨q.1, ?_⟩)
                           rw [q.2, Int32.or_zero, ffF, if_pos c_67, if_neg c_71, if_neg c_83])
                  · refine r_iload rfl dX9_fault_98 ?_
                    refine r_if_ne 105 dX9_fault_100 (by decide) (fun c_100 => ?_) (fun c_100 => ?_)
                    · refine r_iload_n rfl dX9_fault_105 ?_
                      refine r_iload rfl dX9_fault_106 ?_
                      refine r_if_eq 121 dX9_fault_108 (by decide) (fun c_108 => ?_) (fun c_108 => ?_)
                      · refine r_iconst (v := (0 : Int32)) (by decide) dX9_fault_121 ?_
                        refine r_ior dX9_fault_122 ?_
                        refine r_ist1 rfl (by decide) dX9_fault_123 ?_
                        refine r_iload rfl dX9_fault_124 ?_
                        refine r_ist2 rfl (by decide) dX9_fault_126 ?_
                        first | refine r_incN3 rfl (by decide) dX9_fault_127 ?_ | refine r_incP3 rfl (by decide) dX9_fault_127 ?_
                        refine r_goto 6 dX9_fault_130 (by decide) ?_
                        first
                          | exact absurd (let124 hn6 c_67) c_41
                          | exact absurd rfl c_95
                          | exact absurd c_95 (by decide)
                          | exact absurd rfl c_100
                          | exact absurd c_108 (by decide)
                          | exact absurd rfl c_108
                          | (have t9 := ff_new (ev := nI (2 ^ n) - 1) (d := d) (bh := bh) c_67 c_41 c_53
                             refine Ri.imp (ih d (i + 1) _ _ (by omega) (by omega) (fun q => absurd q (by decide))) (fun v h' q => ⟨q.1, ?_⟩)
                             rw [q.2, t9])
                          | (have t9 : ¬ bh = 0 := c_71
                             refine Ri.imp (ih d (i + 1) _ _ (by omega) (by omega) (fun _ => by rw [Int32.or_zero]; exact c_83)) (fun v h' q => ⟨q.1, ?_⟩)
                             rw [q.2, Int32.or_zero, ffF, if_pos c_67, if_neg c_71, if_neg c_83])
                      · refine r_iconst (v := (1 : Int32)) (by decide) dX9_fault_111 ?_
                        refine r_iload rfl dX9_fault_112 ?_
                        refine r_bipush (v := (97 : Int32)) (by decide) dX9_fault_114 ?_
                        refine r_isub dX9_fault_116 ?_
                        refine r_ishl dX9_fault_117 ?_
                        refine r_goto 122 dX9_fault_118 (by decide) ?_
                        refine r_ior dX9_fault_122 ?_
                        refine r_ist1 rfl (by decide) dX9_fault_123 ?_
                        refine r_iload rfl dX9_fault_124 ?_
                        refine r_ist2 rfl (by decide) dX9_fault_126 ?_
                        first | refine r_incN3 rfl (by decide) dX9_fault_127 ?_ | refine r_incP3 rfl (by decide) dX9_fault_127 ?_
                        refine r_goto 6 dX9_fault_130 (by decide) ?_
                        first
                          | exact absurd (let124 hn6 c_67) c_41
                          | exact absurd rfl c_95
                          | exact absurd c_95 (by decide)
                          | exact absurd rfl c_100
                          | exact absurd c_108 (by decide)
                          | exact absurd rfl c_108
                          | (have t9 := ff_new (ev := nI (2 ^ n) - 1) (d := d) (bh := bh) c_67 c_41 c_53
                             refine Ri.imp (ih d (i + 1) _ _ (by omega) (by omega) (fun q => absurd q (by decide))) (fun v h' q => ⟨q.1, ?_⟩)
                             rw [q.2, t9])
                          | (have t9 : ¬ bh = 0 := c_71
                             refine Ri.imp (ih d (i + 1) _ _ (by omega) (by omega) (fun _ => by rw [Int32.or_zero]; exact c_83)) (fun v h' q => ⟨q.1, ?_⟩)
                             rw [q.2, Int32.or_zero, ffF, if_pos c_67, if_neg c_71, if_neg c_83])
                    · refine r_iload_n rfl dX9_fault_103 ?_
                      refine ret_i dX9_fault_104 rfl ?_
                      first
                        | exact absurd c_95 (by decide)
                        | exact absurd c_100 (by decide)
                        | exact ⟨rfl, by rw [ff_bad c_67 c_41]⟩
                        | exact ⟨rfl, by rw [ff_was c_67 c_41 c_53]⟩
                        | exact ⟨rfl, by rw [ffF, if_pos c_67, if_pos c_71]⟩
                        | exact ⟨rfl, by rw [ffF, if_pos c_67, if_neg c_71, if_pos c_83]⟩
                · refine r_iconst (v := (1 : Int32)) (by decide) dX9_fault_86 ?_
                  refine r_goto 91 dX9_fault_87 (by decide) ?_
                  refine r_ist6 rfl (by decide) dX9_fault_91 ?_
                  refine r_iload rfl dX9_fault_93 ?_
                  refine r_if_ne 105 dX9_fault_95 (by decide) (fun c_95 => ?_) (fun c_95 => ?_)
                  · refine r_iload_n rfl dX9_fault_105 ?_
                    refine r_iload rfl dX9_fault_106 ?_
                    refine r_if_eq 121 dX9_fault_108 (by decide) (fun c_108 => ?_) (fun c_108 => ?_)
                    · refine r_iconst (v := (0 : Int32)) (by decide) dX9_fault_121 ?_
                      refine r_ior dX9_fault_122 ?_
                      refine r_ist1 rfl (by decide) dX9_fault_123 ?_
                      refine r_iload rfl dX9_fault_124 ?_
                      refine r_ist2 rfl (by decide) dX9_fault_126 ?_
                      first | refine r_incN3 rfl (by decide) dX9_fault_127 ?_ | refine r_incP3 rfl (by decide) dX9_fault_127 ?_
                      refine r_goto 6 dX9_fault_130 (by decide) ?_
                      first
                        | exact absurd (let124 hn6 c_67) c_41
                        | exact absurd rfl c_95
                        | exact absurd c_95 (by decide)
                        | exact absurd rfl c_100
                        | exact absurd c_108 (by decide)
                        | exact absurd rfl c_108
                        | (have t9 := ff_new (ev := nI (2 ^ n) - 1) (d := d) (bh := bh) c_67 c_41 c_53
                           refine Ri.imp (ih d (i + 1) _ _ (by omega) (by omega) (fun q => absurd q (by decide))) (fun v h' q => ⟨q.1, ?_⟩)
                           rw [q.2, t9])
                        | (have t9 : ¬ bh = 0 := c_71
                           refine Ri.imp (ih d (i + 1) _ _ (by omega) (by omega) (fun _ => by rw [Int32.or_zero]; exact c_83)) (fun v h' q => ⟨q.1, ?_⟩)
                           rw [q.2, Int32.or_zero, ffF, if_pos c_67, if_neg c_71, if_neg c_83])
                    · refine r_iconst (v := (1 : Int32)) (by decide) dX9_fault_111 ?_
                      refine r_iload rfl dX9_fault_112 ?_
                      refine r_bipush (v := (97 : Int32)) (by decide) dX9_fault_114 ?_
                      refine r_isub dX9_fault_116 ?_
                      refine r_ishl dX9_fault_117 ?_
                      refine r_goto 122 dX9_fault_118 (by decide) ?_
                      refine r_ior dX9_fault_122 ?_
                      refine r_ist1 rfl (by decide) dX9_fault_123 ?_
                      refine r_iload rfl dX9_fault_124 ?_
                      refine r_ist2 rfl (by decide) dX9_fault_126 ?_
                      first | refine r_incN3 rfl (by decide) dX9_fault_127 ?_ | refine r_incP3 rfl (by decide) dX9_fault_127 ?_
                      refine r_goto 6 dX9_fault_130 (by decide) ?_
                      first
                        | exact absurd (let124 hn6 c_67) c_41
                        | exact absurd rfl c_95
                        | exact absurd c_95 (by decide)
                        | exact absurd rfl c_100
                        | exact absurd c_108 (by decide)
                        | exact absurd rfl c_108
                        | (have t9 := ff_new (ev := nI (2 ^ n) - 1) (d := d) (bh := bh) c_67 c_41 c_53
                           refine Ri.imp (ih d (i + 1) _ _ (by omega) (by omega) (fun q => absurd q (by decide))) (fun v h' q => ⟨q.1, ?_⟩)
                           rw [q.2, t9])
                        | (have t9 : ¬ bh = 0 := c_71
                           refine Ri.imp (ih d (i + 1) _ _ (by omega) (by omega) (fun _ => by rw [Int32.or_zero]; exact c_83)) (fun v h' q => ⟨q.1, ?_⟩)
                           rw [q.2, Int32.or_zero, ffF, if_pos c_67, if_neg c_71, if_neg c_83])
                  · refine r_iload rfl dX9_fault_98 ?_
                    refine r_if_ne 105 dX9_fault_100 (by decide) (fun c_100 => ?_) (fun c_100 => ?_)
                    · refine r_iload_n rfl dX9_fault_105 ?_
                      refine r_iload rfl dX9_fault_106 ?_
                      refine r_if_eq 121 dX9_fault_108 (by decide) (fun c_108 => ?_) (fun c_108 => ?_)
                      · refine r_iconst (v := (0 : Int32)) (by decide) dX9_fault_121 ?_
                        refine r_ior dX9_fault_122 ?_
                        refine r_ist1 rfl (by decide) dX9_fault_123 ?_
                        refine r_iload rfl dX9_fault_124 ?_
                        refine r_ist2 rfl (by decide) dX9_fault_126 ?_
                        first | refine r_incN3 rfl (by decide) dX9_fault_127 ?_ | refine r_incP3 rfl (by decide) dX9_fault_127 ?_
                        refine r_goto 6 dX9_fault_130 (by decide) ?_
                        first
                          | exact absurd (let124 hn6 c_67) c_41
                          | exact absurd rfl c_95
                          | exact absurd c_95 (by decide)
                          | exact absurd rfl c_100
                          | exact absurd c_108 (by decide)
                          | exact absurd rfl c_108
                          | (have t9 := ff_new (ev := nI (2 ^ n) - 1) (d := d) (bh := bh) c_67 c_41 c_53
                             refine Ri.imp (ih d (i + 1) _ _ (by omega) (by omega) (fun q => absurd q (by decide))) (fun v h' q => ⟨q.1, ?_⟩)
                             rw [q.2, t9])
                          | (have t9 : ¬ bh = 0 := c_71
                             refine Ri.imp (ih d (i + 1) _ _ (by omega) (by omega) (fun _ => by rw [Int32.or_zero]; exact c_83)) (fun v h' q => ⟨q.1, ?_⟩)
                             rw [q.2, Int32.or_zero, ffF, if_pos c_67, if_neg c_71, if_neg c_83])
                      · refine r_iconst (v := (1 : Int32)) (by decide) dX9_fault_111 ?_
                        refine r_iload rfl dX9_fault_112 ?_
                        refine r_bipush (v := (97 : Int32)) (by decide) dX9_fault_114 ?_
                        refine r_isub dX9_fault_116 ?_
                        refine r_ishl dX9_fault_117 ?_
                        refine r_goto 122 dX9_fault_118 (by decide) ?_
                        refine r_ior dX9_fault_122 ?_
                        refine r_ist1 rfl (by decide) dX9_fault_123 ?_
                        refine r_iload rfl dX9_fault_124 ?_
                        refine r_ist2 rfl (by decide) dX9_fault_126 ?_
                        first | refine r_incN3 rfl (by decide) dX9_fault_127 ?_ | refine r_incP3 rfl (by decide) dX9_fault_127 ?_
                        refine r_goto 6 dX9_fault_130 (by decide) ?_
                        first
                          | exact absurd (let124 hn6 c_67) c_41
                          | exact absurd rfl c_95
                          | exact absurd c_95 (by decide)
                          | exact absurd rfl c_100
                          | exact absurd c_108 (by decide)
                          | exact absurd rfl c_108
                          | (have t9 := ff_new (ev := nI (2 ^ n) - 1) (d := d) (bh := bh) c_67 c_41 c_53
                             refine Ri.imp (ih d (i + 1) _ _ (by omega) (by omega) (fun q => absurd q (by decide))) (fun v h' q => ⟨q.1, ?_⟩)
                             rw [q.2, t9])
                          | (have t9 : ¬ bh = 0 := c_71
                             refine Ri.imp (ih d (i + 1) _ _ (by omega) (by omega) (fun _ => by rw [Int32.or_zero]; exact c_83)) (fun v h' q => ⟨q.1, ?_⟩)
                             rw [q.2, Int32.or_zero, ffF, if_pos c_67, if_neg c_71, if_neg c_83])
                    · refine r_iload_n rfl dX9_fault_103 ?_
                      refine ret_i dX9_fault_104 rfl ?_
                      first
                        | exact absurd c_95 (by decide)
                        | exact absurd c_100 (by decide)
                        | exact ⟨rfl, by rw [ff_bad c_67 c_41]⟩
                        | exact ⟨rfl, by rw [ff_was c_67 c_41 c_53]⟩
                        | exact ⟨rfl, by rw [ffF, if_pos c_67, if_pos c_71]⟩
                        | exact ⟨rfl, by rw [ffF, if_pos c_67, if_neg c_71, if_pos c_83]⟩
  refine r_iconst (v := (0 : Int32)) (by decide) dX9_fault_0 ?_
  refine r_ist1 rfl (by decide) dX9_fault_1 ?_
  refine r_iconst (v := (0 : Int32)) (by decide) dX9_fault_2 ?_
  refine r_ist2 rfl (by decide) dX9_fault_3 ?_
  refine r_iconst (v := nI 0) (by decide) dX9_fault_4 ?_
  refine r_ist3 rfl (by decide) dX9_fault_5 ?_
  refine Ri.imp (loop (m + 1) m 0 _ _ (by omega) (by omega) (fun _ q => hz ?_)) (fun v h' q => ⟨q.1, ?_⟩)
  · have := pow6 hn6
    have h1 : 0 < 2 ^ n := this.1
    obtain ⟨p, hp⟩ : ∃ p, 2 ^ n = p + 1 := ⟨2 ^ n - 1, by omega⟩
    rw [hp, nI_pred] at q
    have h2 : 0 = p := nI_inj (by omega) (by omega) q
    cases n with
    | zero => rfl
    | succ n => rw [Nat.pow_succ] at hp; omega
  · rw [q.2, if_neg hz]

def pcN (b : Nat) : Nat := b % 2 + b / 2 % 2 + b / 4 % 2 + b / 8 % 2 + b / 16 % 2 + b / 32 % 2
theorem pc_1 : ∀ b, b < 64 → ∀ j, j < 6 → nI b ||| (1 <<< (nI j &&& 31)) = nI (b ||| (1 <<< j)) ∧ b ||| (1 <<< j) < 64 := by decide +kernel
theorem pc_2 : ∀ b, b < 64 → ∀ j, j < 6 → ¬ bt (nI b) j → pcN (b ||| (1 <<< j)) = pcN b + 1 := by decide +kernel
theorem pc_3 : ∀ b, b < 64 → ∀ j, j < 6 → ∀ l, l < 6 → ¬ (bt (nI (b ||| (1 <<< j))) l ∧ ¬ l = j ∧ ¬ bt (nI b) l) := by decide +kernel
theorem pc_4 : ∀ n, n < 7 → ∀ l, l < n → bt (nI (2 ^ n) - 1) l := by decide +kernel
theorem pc_6 (b : Nat) : pcN b ≤ 6 := by unfold pcN; omega
/-- what two rows tell, told by the same signs -/
def tel (s : Nat → Int32) (n : Nat) (r0 r1 : Nat → Int32) (i : Nat) (been bh : Int32) : Prop := ∃ b num, been = nI b ∧ b < 64 ∧ (pR s (nI n) r0 i).2 = nI num ∧ (pR s (nI n) r1 i).2 = nI num ∧ num + (if bh = 0 then 0 else 1) ≤ pcN b ∧ ∀ l, l < n → bt (nI b) l → ∃ x, x < 8 ∧ (pR s (nI n) r0 i).1 l = nI x ∧ (pR s (nI n) r1 i).1 l = nI x
theorem tel_run {s : Nat → Int32} {n : Nat} {r0 r1 : Nat → Int32} (hn : n ≤ 6) : ∀ d i been bh, ffF s (nI n) (nI (2 ^ n) - 1) d i been bh = -6 → i + d ≤ 20 → tel s n r0 r1 i been bh → (∀ l, l < n → ∃ x, x < 8 ∧ (pR s (nI n) r0 (i + d)).1 l = nI x ∧ (pR s (nI n) r1 (i + d)).1 l = nI x) ∧ ∀ j, i ≤ j → j < i + d → s j = 124 ∨ ¬ isL n (s j - 97) = 0 := by
  intro d
  induction d with
  | zero =>
    intro i been bh hf hi H
    refine ⟨fun l hl => ?_, fun j a b => by omega⟩
    obtain ⟨b, num, e1, e2, e3, e4, e5, e6⟩ := H
    rw [ffF] at hf
    by_cases q : been = nI (2 ^ n) - 1
    · exact e6 l hl (by rw [← e1, q]; exact pc_4 n (by omega) l hl)
    · rw [if_neg q] at hf; exact absurd hf (nI_m6 (by omega))
  | succ d ih =>
    intro i been bh hf hi H
    obtain ⟨b, num, e1, e2, e3, e4, e5, e6⟩ := H
    have fin : ∀ been' bh', ffF s (nI n) (nI (2 ^ n) - 1) d (i + 1) been' bh' = -6 → tel s n r0 r1 (i + 1) been' bh' → (s i = 124 ∨ ¬ isL n (s i - 97) = 0) → (∀ l, l < n → ∃ x, x < 8 ∧ (pR s (nI n) r0 (i + (d + 1))).1 l = nI x ∧ (pR s (nI n) r1 (i + (d + 1))).1 l = nI x) ∧ ∀ j, i ≤ j → j < i + (d + 1) → s j = 124 ∨ ¬ isL n (s j - 97) = 0 := by
      intro been' bh' h1 h2 h3
      obtain ⟨k1, k2⟩ := ih (i + 1) been' bh' h1 (by omega) h2
      rw [show i + (d + 1) = i + 1 + d by omega]
      refine ⟨k1, fun j a b => ?_⟩
      by_cases q : j = i
      · subst q; exact h3
      · exact k2 j (by omega) (by omega)
    by_cases q : s i = 124
    · rw [ffF, if_pos q] at hf
      by_cases q2 : bh = 0
      · rw [if_pos q2] at hf; exact absurd hf (nI_m6 (by omega))
      · rw [if_neg q2] at hf
        by_cases q3 : been = nI (2 ^ n) - 1
        · rw [if_pos q3] at hf; exact absurd hf (nI_m6 (by omega))
        · rw [if_neg q3] at hf
          rw [if_neg q2] at e5
          refine fin _ _ hf ⟨b, num + 1, e1, e2, ?_, ?_, by rw [if_pos rfl]; omega, ?_⟩ (Or.inl q)
          · rw [pR, if_pos q, e3]; exact nI_1 _
          · rw [pR, if_pos q, e4]; exact nI_1 _
          · rw [pR, pR, if_pos q, if_pos q]; exact e6
    · by_cases q2 : isL n (s i - 97) = 0
      · rw [ff_bad q q2] at hf; exact absurd hf (nI_m6 (by omega))
      · by_cases q3 : (been >>> ((s i - 97) &&& 31)) &&& 1 = 0
        · rw [ff_new q q2 q3] at hf
          obtain ⟨j, hj, ej⟩ := isL_y (by omega) q2
          have hnb : ¬ bt (nI b) j := by
            show ¬ (nI b >>> (nI j &&& 31)) &&& 1 = 1
            rw [← e1, ← ej, q3]; decide
          have p1 := pc_1 b e2 j (by omega)
          have p2 := pc_2 b e2 j (by omega) hnb
          have hr : ∀ r, pR s (nI n) r (i + 1) = (upd (pR s (nI n) r i).1 j (pR s (nI n) r i).2, (pR s (nI n) r i).2) := fun r => by
            rw [pR, if_neg q, if_neg (isL_and q2).1, if_neg (isL_and q2).2, ej, nI_clamp (by omega)]
          have hnum : num ≤ pcN b := Nat.le_trans (Nat.le_add_right _ _) e5
          refine fin _ _ hf ⟨b ||| (1 <<< j), num, by rw [e1, ej]; exact p1.1, p1.2, by rw [hr]; exact e3, by rw [hr]; exact e4, by rw [if_neg (by decide), p2]; omega, fun l hl hb => ?_⟩ (Or.inr q2)
          rw [hr, hr]
          show ∃ x, x < 8 ∧ upd (pR s (nI n) r0 i).1 j (pR s (nI n) r0 i).2 l = nI x ∧ upd (pR s (nI n) r1 i).1 j (pR s (nI n) r1 i).2 l = nI x
          by_cases z : l = j
          · subst z
            rw [upd_eq, upd_eq]
            exact ⟨num, by have := pc_6 b; omega, e3, e4⟩
          · rw [upd_ne z, upd_ne z]
            exact e6 l hl (Classical.byContradiction fun y => pc_3 b e2 j (by omega) l (by omega) ⟨hb, z, y⟩)
        · rw [ff_was q q2 q3] at hf; exact absurd hf (nI_m6 (by omega))
theorem tel_0 {s : Nat → Int32} {n : Nat} {r0 r1 : Nat → Int32} : tel s n r0 r1 0 0 0 := ⟨0, 0, rfl, by omega, rfl, rfl, by rw [if_pos rfl]; exact Nat.le_refl _, fun l hl q => absurd q (by
  intro z
  have : ∀ l, ¬ bt (nI 0) l := fun l z => by
    have h : (nI 0 >>> (nI l &&& 31)) &&& 1 = (0 : Int32) := by rw [nI_0, Int32.zero_shiftRight, Int32.zero_and]
    rw [bt, h] at z
    exact absurd z (by decide)
  exact this l z)⟩
theorem ff_neg {s : Nat → Int32} {ln ev : Int32} : ∀ d i been bh, i + d ≤ 20 → (ffF s ln ev d i been bh < 0 ↔ ffF s ln ev d i been bh = -6) := by
  have key : ∀ i, i ≤ 20 → (nI i < 0 ↔ nI i = -6) := fun i hi => ⟨fun q => absurd q (Int32.not_lt.mpr (nI_pos' (by omega))), fun q => absurd q (nI_m6 (by omega))⟩
  intro d
  induction d with
  | zero =>
    intro i been bh hi
    rw [ffF]
    split
    · simp
    · exact key i (by omega)
  | succ d ih =>
    intro i been bh hi
    rw [ffF]
    split
    · split
      · exact key i (by omega)
      · split
        · exact key i (by omega)
        · exact ih _ _ _ (by omega)
    · split
      · exact key i (by omega)
      · split
        · exact key i (by omega)
        · split
          · exact key i (by omega)
          · exact ih _ _ _ (by omega)
theorem pick8 {n : Nat} {r : Nat → Int32} (h : ∀ l, l < n → ∃ x, x < 8 ∧ r l = nI x) : ∃ d : Nat → Nat, ∀ l, l < n → r l = nI (d l) ∧ d l < 8 :=
  ⟨fun l => if hl : l < n then (h l hl).choose else 0, fun l hl => by
    simp only [dif_pos hl]
    exact ⟨(h l hl).choose_spec.2, (h l hl).choose_spec.1⟩⟩

set_option maxRecDepth 100000 in
set_option maxHeartbeats 400000 in
theorem m_part {g : GG} {n m : Nat} {h : Hp} {c : Nat → Nat} {E : Ec} {s : Nat → Int32} (I : RF h n c m E s) : R g mX9_part 0 [some (.ref (ad g 62)), none, none] [] h (Ri fun v h' => (¬ (if n = 0 then 0 else ffF s (nI n) (nI (2 ^ n) - 1) m 0 0 0) = -6 ∧ v = -5 ∧ h' = h) ∨ ((if n = 0 then 0 else ffF s (nI n) (nI (2 ^ n) - 1) m 0 0 0) = -6 ∧ ∃ c', CanOf n (pR s (nI n) (h 64) m).1 c' ∧ v = nI (mx c' n) ∧ RP h h' n c' 0 E s)) := by
  have hn6 := I.1.1
  have hM := I.2.2.2.2.1.1
  have hm20 := I.2.2.2.2.1.2
  have eE := I.2.1.1
  subst eE
  have eS := I.2.2.2.2.2
  subst eS
  have loop : (if n = 0 then 0 else ffF (h 66) (nI n) (nI (2 ^ n) - 1) m 0 0 0) = -6 → (∀ l, l < n → ∃ x, x < 8 ∧ (pR (h 66) (nI n) (h 64) m).1 l = nI x ∧ (pR (h 66) (nI n) (h 64) m).1 l = nI x) → (∀ j, 0 ≤ j → j < m → h 66 j = 124 ∨ ¬ isL n (h 66 j - 97) = 0) → ∀ (k i : Nat) (hh : Hp) (num : Nat), i ≤ m → m < i + k → KeepA 64 h hh → hh 64 = (pR (h 66) (nI n) (h 64) i).1 → (pR (h 66) (nI n) (h 64) i).2 = nI num → R g mX9_part 14 [some (.ref (ad g 62)), some (.int (nI num)), some (.int (nI i))] [] hh (Ri fun v h' => (¬ (if n = 0 then 0 else ffF (h 66) (nI n) (nI (2 ^ n) - 1) m 0 0 0) = -6 ∧ v = -5 ∧ h' = h) ∨ ((if n = 0 then 0 else ffF (h 66) (nI n) (nI (2 ^ n) - 1) m 0 0 0) = -6 ∧ ∃ c', CanOf n (pR (h 66) (nI n) (h 64) m).1 c' ∧ v = nI (mx c' n) ∧ RP h h' n c' 0 (eM h n) (h 66))) := by
    intro hf lb sg k
    induction k with
    | zero => intro i hh num a b; omega
    | succ k ih =>
      intro i hh num a b k1 r1 e2
      refine r_iload_n rfl dX9_part_14 ?_
      refine r_aload_n rfl dX9_part_15 ?_
      refine r_getI foX9_95 rfl rfl dX9_part_16 ?_
      rw [k1 62 (by omega), hM]
      refine r_icmp_ge 60 dX9_part_19 (by decide) (fun c_19 => ?_) (fun c_19 => ?_)
      · have e : i = m := by have := ge_y (by omega) (by omega) c_19; omega
        subst e
        obtain ⟨dd, hdd⟩ := pick8 (n := n) (r := (pR (h 66) (nI n) (h 64) i).1) (fun l hl => by obtain ⟨x, a, b, _⟩ := lb l hl; exact ⟨x, a, b⟩)
        refine r_aload_n rfl dX9_part_60 ?_
        refine r_iconst (v := nI 0) (by decide) dX9_part_61 ?_
        refine r_putI fpX9_95 rfl rfl dX9_part_62 ?_
        refine r_aload_n rfl dX9_part_65 ?_
        refine r_aload_n rfl dX9_part_66 ?_
        refine r_getR foX9_13 rfl rfl dX9_part_67 ?_
        refine r_cV1v (T := TX9) (N := 21) moX9_number lkX9_104 rfl rfl (Nat.le_of_ble_eq_true rfl) ⟨by decide, by decide⟩ (Nat.le_of_ble_eq_true rfl) dX9_part_70 rfl (m_number (A := 64) (n := n) (d := dd) rfl (by omega) (by omega) hn6 (by rw [hset_same, upd_ne (by omega), k1 62 (by omega)]; exact I.1.2) (fun j hj => by rw [hset_ne (by omega), r1]; exact (hdd j hj).1) (fun j hj => (hdd j hj).2)) (fun h21 q21 => ?_)
        obtain ⟨kn, c', hc', rw'⟩ := q21
        rw [hset_ne (by omega), r1] at hc'
        have h62 : ∀ k, ¬ k = 7 → h21 62 k = h 62 k := fun k hk => by rw [kn 62 (by omega) (by omega), hset_same, upd_ne hk, k1 62 (by omega)]
        refine r_aload_n rfl dX9_part_73 ?_
        refine r_aload_n rfl dX9_part_74 ?_
        refine r_getR foX9_13 rfl rfl dX9_part_75 ?_
        refine r_cV1i (T := TX9) (N := 21) moX9_manyOf lkX9_73 rfl rfl (Nat.le_of_ble_eq_true rfl) ⟨by decide, by decide⟩ (Nat.le_of_ble_eq_true rfl) dX9_part_78 rfl (m_manyOf (A := 64) (c := c') rfl hn6 (by rw [h62 1 (by omega)]; exact I.1.2) rw' (fun l hl => by have := hc'.1.le hl; omega)) (fun v22 h22 q22 => ?_)
        obtain ⟨e22, f22⟩ := q22
        subst f22
        rw [e22]
        refine ret_i dX9_part_81 rfl ?_
        refine Or.inr ⟨hf, c', hc', rfl, fun q a => by rw [kn q (by omega) (by omega), hset_ne (by omega), k1 q (by omega)], ⟨hn6, by rw [h62 1 (by omega)]; exact I.1.2⟩, ⟨eM_same ?_ (h62 2 (by omega)) (h62 3 (by omega)), I.2.1.2⟩, hc'.1, rw', ⟨?_, by omega⟩, ?_⟩
        · rw [kn 63 (by omega) (by omega), hset_ne (by omega), k1 63 (by omega)]
        · rw [kn 62 (by omega) (by omega), hset_same, upd_eq]
        · rw [kn 66 (by omega) (by omega), hset_ne (by omega), k1 66 (by omega)]
      · have hlk : i < m := ge_n (by omega) c_19
        refine r_aload_n rfl dX9_part_22 ?_
        refine r_getR foX9_19 rfl rfl dX9_part_23 ?_
        refine r_iload_n rfl dX9_part_26 ?_
        refine r_ild rfl rfl (by omega) (by decide) dX9_part_27 ?_
        rw [k1 66 (by omega)]
        refine r_bipush (v := (124 : Int32)) (by decide) dX9_part_28 ?_
        refine r_icmp_ne 39 dX9_part_30 (by decide) (fun c_30 => ?_) (fun c_30 => ?_)
        · obtain ⟨j, hj, ej⟩ := isL_y (n := n) (by omega) ((sg i (by omega) (by omega)).resolve_left c_30)
          refine r_aload_n rfl dX9_part_39 ?_
          refine r_getR foX9_13 rfl rfl dX9_part_40 ?_
          refine r_aload_n rfl dX9_part_43 ?_
          refine r_getR foX9_19 rfl rfl dX9_part_44 ?_
          refine r_iload_n rfl dX9_part_47 ?_
          refine r_ild rfl rfl (by omega) (by decide) dX9_part_48 ?_
          rw [k1 66 (by omega)]
          refine r_bipush (v := (97 : Int32)) (by decide) dX9_part_49 ?_
          refine r_isub dX9_part_51 ?_
          refine r_iload_n rfl dX9_part_52 ?_
          refine r_ias rfl ej (by omega) (by decide) dX9_part_53 ?_
          first | refine r_incN2 rfl (by decide) dX9_part_54 ?_ | refine r_incP2 rfl (by decide) dX9_part_54 ?_
          refine r_goto 14 dX9_part_57 (by decide) ?_
          first
            | (have t9 := c_30.trans (rfl : (124 : Int32) = 124)
               exact ih (i + 1) _ (num + 1) (by omega) (by omega) k1 (by rw [pR, if_pos c_30]; exact r1) (by rw [pR, if_pos c_30, e2]; exact nI_1 _))
            | (have hne := isL_and (n := n) ((sg i (by omega) (by omega)).resolve_left c_30)
               exact ih (i + 1) _ num (by omega) (by omega) (fun q a => by rw [hset_ne a]; exact k1 q a) (by rw [hset_same, pR, if_neg c_30, if_neg hne.1, if_neg hne.2, r1, e2, ej, nI_clamp (by omega)]) (by rw [pR, if_neg c_30, if_neg hne.1, if_neg hne.2, e2]))
        · first | refine r_incN1 rfl (by decide) dX9_part_33 ?_ | refine r_incP1 rfl (by decide) dX9_part_33 ?_
          refine r_goto 54 dX9_part_36 (by decide) ?_
          first | refine r_incN2 rfl (by decide) dX9_part_54 ?_ | refine r_incP2 rfl (by decide) dX9_part_54 ?_
          refine r_goto 14 dX9_part_57 (by decide) ?_
          first
            | (have t9 := c_30.trans (rfl : (124 : Int32) = 124)
               exact ih (i + 1) _ (num + 1) (by omega) (by omega) k1 (by rw [pR, if_pos c_30]; exact r1) (by rw [pR, if_pos c_30, e2]; exact nI_1 _))
            | (have hne := isL_and (n := n) ((sg i (by omega) (by omega)).resolve_left c_30)
               exact ih (i + 1) _ num (by omega) (by omega) (fun q a => by rw [hset_ne a]; exact k1 q a) (by rw [hset_same, pR, if_neg c_30, if_neg hne.1, if_neg hne.2, r1, e2, ej, nI_clamp (by omega)]) (by rw [pR, if_neg c_30, if_neg hne.1, if_neg hne.2, e2]))
  refine r_aload_n rfl dX9_part_0 ?_
  refine r_cV0i (T := TX9) (N := 21) moX9_fault lkX9_100 rfl rfl (Nat.le_of_ble_eq_true rfl) ⟨by decide, by decide⟩ (Nat.le_of_ble_eq_true rfl) dX9_part_1 rfl (m_fault I) (fun v1 h1 q1 => ?_)
  obtain ⟨e1, f1⟩ := q1
  subst f1
  rw [e1]
  refine r_if_lt 10 dX9_part_4 (by decide) (fun c_4 => ?_) (fun c_4 => ?_)
  · refine r_iconst (v := nI 0) (by decide) dX9_part_10 ?_
    refine r_ist1 rfl (by decide) dX9_part_11 ?_
    refine r_iconst (v := nI 0) (by decide) dX9_part_12 ?_
    refine r_ist2 rfl (by decide) dX9_part_13 ?_
    have hz : ¬ n = 0 := fun q => by rw [if_pos q] at c_4; exact absurd c_4 (by decide)
    have hf : (if n = 0 then 0 else ffF (h 66) (nI n) (nI (2 ^ n) - 1) m 0 0 0) = -6 := by
      rw [if_neg hz] at c_4 ⊢
      exact (ff_neg m 0 0 0 (by omega)).mp c_4
    have hf2 := hf
    rw [if_neg hz] at hf2
    obtain ⟨lb, sg⟩ := tel_run (r0 := h 64) (r1 := h 64) hn6 m 0 0 0 hf2 (by omega) tel_0
    rw [Nat.zero_add] at lb sg
    exact loop hf lb sg (m + 1) 0 _ 0 (by omega) (by omega) (fun _ _ => rfl) rfl rfl
  · refine r_bipush (v := (-5 : Int32)) (by decide) dX9_part_7 ?_
    refine ret_i dX9_part_9 rfl ?_
    refine Or.inl ⟨fun q => c_4 ?_, rfl, rfl⟩
    rw [q]; decide

