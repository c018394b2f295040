theorem RP.trans {h h1 h2 : Hp} {n n1 m m1 : Nat} {c c1 : Nat → Nat} {E E1 : Ec} {s s1 : Nat → Int32} (a : RP h h1 n c m E s) (b : RP h1 h2 n1 c1 m1 E1 s1) : RP h h2 n1 c1 m1 E1 s1 := ⟨fun q z => (b.1 q z).trans (a.1 q z), b.2⟩
theorem RFrule {h : Hp} {n m : Nat} {c : Nat → Nat} {E : Ec} {s : Nat → Int32} {v : Int32} (I : RF h n c m E s) (hv : Bd 0 2 v) : RP h (hset h 62 3 v) n c m (ruE E 1 v) s := by
  have eE := I.2.1.1
  subst eE
  exact ⟨fun q a => hset_ne (by omega), ⟨I.1.1, by rw [hset_same, upd_ne (by omega)]; exact I.1.2⟩, ⟨eM_ru (i := 1) (by omega), EOK.rule I.2.1.2 hv⟩, I.2.2.1, by rw [hset_ne (by omega)]; exact I.2.2.2.1, ⟨by rw [hset_same, upd_ne (by omega)]; exact I.2.2.2.2.1.1, I.2.2.2.2.1.2⟩, by rw [hset_ne (by omega)]; exact I.2.2.2.2.2⟩
theorem RFset {h : Hp} {n m k i : Nat} {c : Nat → Nat} {E : Ec} {s : Nat → Int32} {v : Int32} (I : RF h n c m E s) (hk : k < n) (hi : i < 4) (hf : ¬ fitV (nI i) v = 0) : RP h (hset h 63 (4 * k + i) v) n c m (setE E i k v) s := by
  have eE := I.2.1.1
  subst eE
  exact ⟨fun q a => hset_ne (by omega), ⟨I.1.1, by rw [hset_ne (by omega)]; exact I.1.2⟩, ⟨eM_set hi, EOK.set I.2.1.2 hk hi hf⟩, I.2.2.1, by rw [hset_ne (by omega)]; exact I.2.2.2.1, by rw [hset_ne (by omega)]; exact I.2.2.2.2.1, by rw [hset_ne (by omega)]; exact I.2.2.2.2.2⟩
theorem brk_0 (E : Ec) (r : Nat → Int32) (U : Nat) : brk E r U 0 = staV E r := by rw [brk, if_neg (by decide), if_neg (fun q => absurd q.1 (by decide))]
/-- the reference asks whether nobody leaves -/
theorem m_stays {g : GG} {n m : Nat} {h : Hp} {c : Nat → Nat} {E : Ec} {s : Nat → Int32} (I : RF h n c m E s) : R g mX9_breakerOf 0 [some (.ref (ad g 62)), some (.ref (ad g 64)), some (.int (nI 0)), none] [] h (Ri fun v h' => (v < 0 ↔ staV E (lab c) = -6) ∧ RP h h' n c m E s) := by
  refine Ri.imp (m_breakerOf I.K (by omega)) (fun v h' q => ⟨?_, I.KN q.2⟩)
  rw [q.1, I.2.1.1, brk_eq (EcEq.refl _) (show EqN (eN E) (h 64) (lab c) from fun j hj => I.2.2.2.1 j (by rw [← I.2.1.1] at hj; exact hj)), ← brk_0 E (lab c) (mx c n)]
  exact brk_neg _ _ _ _ I.2.1.2.1 (by rw [← I.2.1.1]; exact mx_le I.2.2.1 n (Nat.le_refl _))
theorem Bd_nI {a lo hi : Nat} (h1 : lo ≤ a) (h2 : a ≤ hi) : Bd lo hi (nI a) := ⟨a, rfl, h1, h2⟩
theorem ruE_0 (E : Ec) : ruE E 1 (eSh E) = E := rfl
theorem ruE_2 (E : Ec) (x y : Int32) : ruE (ruE E 1 x) 1 y = ruE E 1 y := rfl

set_option maxRecDepth 100000 in
set_option maxHeartbeats 400000 in
theorem m_rules {g : GG} {n m : Nat} {h : Hp} {c : Nat → Nat} {E : Ec} {s : Nat → Int32} (I : RF h n c m E s) : R g mX9_rules 0 [some (.ref (ad g 62)), none, none, none] [] h (Ri fun v h' => v = ruF E (lab c) 3 ∧ RP h h' n c m E s) := by
  have hn6 := I.1.1
  have eE := I.2.1.1
  subst eE
  have loop : ∀ (z l : Nat) (hh : Hp) (y x2 : Int32), l ≤ 3 → 3 < l + z → x2 = ruF (eM h n) (lab c) l → RP h hh n c m (ruE (eM h n) 1 y) s → R g mX9_rules 9 [some (.ref (ad g 62)), some (.int (eSh (eM h n))), some (.int x2), some (.int (nI l))] [] hh (Ri fun v h' => v = ruF (eM h n) (lab c) 3 ∧ RP h h' n c m (eM h n) s) := by
    intro z
    induction z with
    | zero => intro l hh y x2 a b; omega
    | succ z ih =>
      intro l hh y x2 a b e2 K
      subst e2
      refine r_iload_n rfl dX9_rules_9 ?_
      refine r_iconst (v := nI 3) (by decide) dX9_rules_10 ?_
      refine r_icmp_ge 47 dX9_rules_11 (by decide) (fun c_11 => ?_) (fun c_11 => ?_)
      · have e : l = 3 := by have := ge_y (by omega) (by omega) c_11; omega
        subst e
        refine r_aload_n rfl dX9_rules_47 ?_
        refine r_iload_n rfl dX9_rules_48 ?_
        refine r_putI fpX9_88 rfl rfl dX9_rules_49 ?_
        refine r_iload_n rfl dX9_rules_52 ?_
        refine ret_i dX9_rules_53 rfl ?_
        have k9 := K.trans (RFrule K.2 (v := eSh (eM h n)) I.2.1.2.2.2.2)
        rw [ruE_2, ruE_0] at k9
        exact ⟨rfl, k9⟩
      · have hlk : l < 3 := ge_n (by omega) c_11
        refine r_aload_n rfl dX9_rules_14 ?_
        refine r_iload_n rfl dX9_rules_15 ?_
        refine r_putI fpX9_88 rfl rfl dX9_rules_16 ?_
        have I2 := RFrule K.2 (v := nI l) (Bd_nI (by omega) (by omega))
        rw [ruE_2] at I2
        refine r_iload_n rfl dX9_rules_19 ?_
        refine r_aload_n rfl dX9_rules_20 ?_
        refine r_aload_n rfl dX9_rules_21 ?_
        refine r_getR foX9_13 rfl rfl dX9_rules_22 ?_
        refine r_iconst (v := nI 0) (by decide) dX9_rules_25 ?_
        refine r_cV2i (T := TX9) (N := 21) moX9_breakerOf lkX9_155 rfl rfl (Nat.le_of_ble_eq_true rfl) ⟨by decide, by decide⟩ (Nat.le_of_ble_eq_true rfl) dX9_rules_26 rfl (m_stays I2.2) (fun v21 h21 q21 => ?_)
        obtain ⟨e21, k21⟩ := q21
        have k21 := (K.trans I2).trans k21
        refine r_if_ge 38 dX9_rules_29 (by decide) (fun c_29 => ?_) (fun c_29 => ?_)
        · refine r_iconst (v := (0 : Int32)) (by decide) dX9_rules_38 ?_
          refine r_ior dX9_rules_39 ?_
          refine r_ist2 rfl (by decide) dX9_rules_40 ?_
          first | refine r_incN3 rfl (by decide) dX9_rules_41 ?_ | refine r_incP3 rfl (by decide) dX9_rules_41 ?_
          refine r_goto 9 dX9_rules_44 (by decide) ?_
          first
            | exact ih (l + 1) _ _ _ (by omega) (by omega) (by rw [ruF, if_neg (fun q => Int32.not_lt.mpr c_29 (e21.mpr q)), Int32.or_zero]) k21
            | exact ih (l + 1) _ _ _ (by omega) (by omega) (by rw [ruF, if_pos (e21.mp (Int32.not_le.mp c_29))]) k21
        · refine r_iconst (v := (1 : Int32)) (by decide) dX9_rules_32 ?_
          refine r_iload_n rfl dX9_rules_33 ?_
          refine r_ishl dX9_rules_34 ?_
          refine r_goto 39 dX9_rules_35 (by decide) ?_
          refine r_ior dX9_rules_39 ?_
          refine r_ist2 rfl (by decide) dX9_rules_40 ?_
          first | refine r_incN3 rfl (by decide) dX9_rules_41 ?_ | refine r_incP3 rfl (by decide) dX9_rules_41 ?_
          refine r_goto 9 dX9_rules_44 (by decide) ?_
          first
            | exact ih (l + 1) _ _ _ (by omega) (by omega) (by rw [ruF, if_neg (fun q => Int32.not_lt.mpr c_29 (e21.mpr q)), Int32.or_zero]) k21
            | exact ih (l + 1) _ _ _ (by omega) (by omega) (by rw [ruF, if_pos (e21.mp (Int32.not_le.mp c_29))]) k21
  refine r_aload_n rfl dX9_rules_0 ?_
  refine r_getI foX9_88 rfl rfl dX9_rules_1 ?_
  refine r_ist1 rfl (by decide) dX9_rules_4 ?_
  refine r_iconst (v := (0 : Int32)) (by decide) dX9_rules_5 ?_
  refine r_ist2 rfl (by decide) dX9_rules_6 ?_
  refine r_iconst (v := nI 0) (by decide) dX9_rules_7 ?_
  refine r_ist3 rfl (by decide) dX9_rules_8 ?_
  exact loop 4 0 _ (eSh (eM h n)) _ (by omega) (by omega) rfl (RF.keep I (fun _ _ => rfl) rfl)

theorem tsf1 {E : Ec} {r : Nat → Int32} {k : Nat} {st x : Int32} (h : rng 1 99 x = 0) : tsB E r k st x = false := by
  rw [tsB]
  exact decide_eq_false (fun q => q.1 (by rw [fit1]; exact h))
theorem tsf2 {E : Ec} {r : Nat → Int32} {k : Nat} {st x a : Int32} (hs : stB (setE E 1 k x) r = a) (h : a = st) : tsB E r k st x = false := by
  rw [tsB]
  exact decide_eq_false (fun q => q.2 (hs.trans h))
theorem tst {E : Ec} {r : Nat → Int32} {k : Nat} {st x a : Int32} (hf : ¬ rng 1 99 x = 0) (hs : stB (setE E 1 k x) r = a) (h : ¬ a = st) : tsB E r k st x = true := by
  rw [tsB]
  exact decide_eq_true ⟨by rw [fit1]; exact hf, fun q => h (hs.symm.trans q)⟩
theorem stB_0 {E : Ec} {r : Nat → Int32} {v : Int32} (e : v < 0 ↔ staV E r = -6) (h : 0 ≤ v) : stB E r = 0 := by rw [stB, if_neg (fun q => Int32.not_lt.mpr h (e.mpr q))]
theorem stB_1 {E : Ec} {r : Nat → Int32} {v : Int32} (e : v < 0 ↔ staV E r = -6) (h : ¬ 0 ≤ v) : stB E r = 1 := by rw [stB, if_pos (e.mp (Int32.not_le.mp h))]
theorem rng_ge {x : Int32} (h : ¬ rng 1 99 x = 0) : 0 ≤ x := Int32.le_trans (by decide) (Int32.not_lt.mp (rng_1 h).1)
theorem fit_bd {x : Int32} (h : Bd 1 99 x) : ¬ fitV (nI 1) x = 0 := by
  obtain ⟨a, e, a1, a2⟩ := h
  rw [fit1, rng, e, if_neg (show ¬ nI a < 1 from nI_nlt (a := a) (b := 1) (by omega) (by omega)), if_neg (show ¬ 99 < nI a from nI_nlt (a := 99) (b := a) (by omega) (by omega))]
  decide

set_option maxRecDepth 100000 in
set_option maxHeartbeats 400000 in
theorem m_edgek {g : GG} {n m : Nat} {h : Hp} {c : Nat → Nat} {E : Ec} {s : Nat → Int32} {k : Nat} (I : RF h n c m E s) (hk : k < n) : R g mX9_edge 0 [some (.ref (ad g 62)), some (.int (nI k)), none, none, none, none, none, none] [] h (Ri fun v h' => v = egF E (lab c) k (stB E (lab c)) 98 1 ∧ RP h h' n c m E s) := by
  have hn6 := I.1.1
  have eE := I.2.1.1
  subst eE
  have fin : ∀ (st x4 : Int32) (x5 : Int32) (hh : Hp) (z6 z7 : Option Value), (∃ y, RP h hh n c m (setE (eM h n) 1 k y) s) → R g mX9_edge 157 [some (.ref (ad g 62)), some (.int (nI k)), some (.int (eC (eM h n) k)), some (.int st), some (.int x4), some (.int x5), z6, z7] [] hh (Ri fun v h' => v = x4 ∧ RP h h' n c m (eM h n) s) := by
    intro st x4 x5 hh z6 z7 ⟨y, P⟩
    refine r_aload_n rfl dX9_edge_157 ?_
    refine r_getR foX9_7 rfl rfl dX9_edge_158 ?_
    refine r_iconst (v := (4 : Int32)) (by decide) dX9_edge_161 ?_
    refine r_iload_n rfl dX9_edge_162 ?_
    refine r_imul dX9_edge_163 ?_
    refine r_iconst (v := nI 1) (by decide) dX9_edge_164 ?_
    refine r_iadd dX9_edge_165 ?_
    refine r_iload_n rfl dX9_edge_166 ?_
    refine r_ias rfl (ix4 k 1) (by omega) (by decide) dX9_edge_167 ?_
    refine r_iload rfl dX9_edge_168 ?_
    refine ret_i dX9_edge_170 rfl ?_
    have k9 := P.trans (RFset P.2 (i := 1) hk (by omega) (fit_bd (I.2.1.2.2.1 k hk).2.1))
    rw [setE_2, setE_0] at k9
    exact ⟨rfl, k9⟩
  have out46 : ∀ (st x4 : Int32) (x5 : Int32) (hh : Hp) (z6 z7 : Option Value), (∃ y, RP h hh n c m (setE (eM h n) 1 k y) s) → 0 ≤ x4 → R g mX9_edge 46 [some (.ref (ad g 62)), some (.int (nI k)), some (.int (eC (eM h n) k)), some (.int st), some (.int x4), some (.int x5), z6, z7] [] hh (Ri fun v h' => v = x4 ∧ RP h h' n c m (eM h n) s) := by
    intro st x4 x5 hh z6 z7 hv hx
    refine r_iload rfl dX9_edge_46 ?_
    refine r_bipush (v := (99 : Int32)) (by decide) dX9_edge_48 ?_
    refine r_icmp_ge 157 dX9_edge_50 (by decide) (fun c_50 => ?_) (fun c_50 => ?_)
    · exact fin _ _ _ _ _ _ hv
    · refine r_iload rfl dX9_edge_53 ?_
      refine r_if_ge 157 dX9_edge_55 (by decide) (fun c_55 => ?_) (fun c_55 => ?_)
      · exact fin _ _ _ _ _ _ hv
      · exact absurd hx c_55
  have out61 : ∀ (st x4 : Int32) (f : Nat) (x6 : Int32) (hh : Hp) (z7 : Option Value), (∃ y, RP h hh n c m (setE (eM h n) 1 k y) s) → 0 ≤ x4 → R g mX9_edge 61 [some (.ref (ad g 62)), some (.int (nI k)), some (.int (eC (eM h n) k)), some (.int st), some (.int x4), some (.int (nI f)), some (.int x6), z7] [] hh (Ri fun v h' => v = x4 ∧ RP h h' n c m (eM h n) s) := by
    intro st x4 f x6 hh z7 hv hx
    refine r_iload rfl dX9_edge_61 ?_
    refine r_iconst (v := (2 : Int32)) (by decide) dX9_edge_63 ?_
    refine r_icmp_ge 151 dX9_edge_64 (by decide) (fun c_64 => ?_) (fun c_64 => ?_)
    · first | refine r_incN5 rfl (by decide) dX9_edge_151 ?_ | refine r_incP5 rfl (by decide) dX9_edge_151 ?_
      refine r_goto 46 dX9_edge_154 (by decide) ?_
      exact out46 _ _ _ _ _ _ hv hx
    · refine r_iload rfl dX9_edge_67 ?_
      refine r_if_ge 151 dX9_edge_69 (by decide) (fun c_69 => ?_) (fun c_69 => ?_)
      · first | refine r_incN5 rfl (by decide) dX9_edge_151 ?_ | refine r_incP5 rfl (by decide) dX9_edge_151 ?_
        refine r_goto 46 dX9_edge_154 (by decide) ?_
        exact out46 _ _ _ _ _ _ hv hx
      · exact absurd hx c_69
  have turn0 : ∀ (st : Int32) (f : Nat) (X : Int32) (hh : Hp) (z : Option Value), (∃ y, RP h hh n c m (setE (eM h n) 1 k y) s) → (∀ (hh : Hp) (z : Option Value), (∃ y, RP h hh n c m (setE (eM h n) 1 k y) s) → tsB (eM h n) (lab c) k st ((eC (eM h n) k) - nI f) = false → R g mX9_edge 61 [some (.ref (ad g 62)), some (.int (nI k)), some (.int (eC (eM h n) k)), some (.int st), some (.int (-6)), some (.int (nI f)), some (.int (nI 1)), z] [] hh (Ri fun v h' => v = X ∧ RP h h' n c m (eM h n) s)) → (∀ (hh : Hp) (z : Option Value), (∃ y, RP h hh n c m (setE (eM h n) 1 k y) s) → 0 ≤ (eC (eM h n) k) - nI f → tsB (eM h n) (lab c) k st ((eC (eM h n) k) - nI f) = true → R g mX9_edge 61 [some (.ref (ad g 62)), some (.int (nI k)), some (.int (eC (eM h n) k)), some (.int st), some (.int ((eC (eM h n) k) - nI f)), some (.int (nI f)), some (.int (nI 1)), z] [] hh (Ri fun v h' => v = X ∧ RP h h' n c m (eM h n) s)) → R g mX9_edge 61 [some (.ref (ad g 62)), some (.int (nI k)), some (.int (eC (eM h n) k)), some (.int st), some (.int (-6)), some (.int (nI f)), some (.int (nI 0)), z] [] hh (Ri fun v h' => v = X ∧ RP h h' n c m (eM h n) s) := by
    intro st f X hh z ⟨y, P⟩ K F
    refine r_iload rfl dX9_edge_61 ?_
    refine r_iconst (v := nI 2) (by decide) dX9_edge_63 ?_
    refine r_icmp_ge 151 dX9_edge_64 (by decide) (fun c_64 => ?_) (fun c_64 => ?_)
    · first
        | exact absurd c_64 (by decide)
        | exact absurd c_69 (by decide)
    · refine r_iload rfl dX9_edge_67 ?_
      refine r_if_ge 151 dX9_edge_69 (by decide) (fun c_69 => ?_) (fun c_69 => ?_)
      · first
          | exact absurd c_64 (by decide)
          | exact absurd c_69 (by decide)
      · refine r_iload rfl dX9_edge_72 ?_
        refine r_if_ne 84 dX9_edge_74 (by decide) (fun c_74 => ?_) (fun c_74 => ?_)
        · exact absurd rfl c_74
        · refine r_iload_n rfl dX9_edge_77 ?_
          refine r_iload rfl dX9_edge_78 ?_
          refine r_isub dX9_edge_80 ?_
          refine r_goto 88 dX9_edge_81 (by decide) ?_
          refine r_ist7 rfl (by decide) dX9_edge_88 ?_
          refine r_iload rfl dX9_edge_90 ?_
          refine r_i2l dX9_edge_92 ?_
          refine r_lconst rfl dX9_edge_93 ?_
          refine r_ldc2 kcX9_63 dX9_edge_94 ?_
          refine r_cS3i moX9_in lkX9_59 (Nat.le_of_ble_eq_true rfl) ⟨by decide, by decide⟩ (Nat.le_of_ble_eq_true rfl) dX9_edge_97 rfl (c_in (b := 1) (c := 99) (by decide) (by decide)) (fun v21 h21 q21 => ?_)
          obtain ⟨e21, f21⟩ := q21
          subst f21
          rw [e21]
          refine r_if_eq 145 dX9_edge_100 (by decide) (fun c_100 => ?_) (fun c_100 => ?_)
          · first | refine r_incN6 rfl (by decide) dX9_edge_145 ?_ | refine r_incP6 rfl (by decide) dX9_edge_145 ?_
            refine r_goto 61 dX9_edge_148 (by decide) ?_
            first
              | (have t9 := tsf1 (E := eM h n) (r := lab c) (k := k) (st := st) c_100
                 exact K _ _ ⟨y, P⟩ t9)
              | (have t9 := tsf2 (stB_0 e21 c_124) c_133
                 exact K _ _ ⟨_, k21⟩ t9)
              | (have t9 := tsf2 (stB_1 e21 c_124) c_133
                 exact K _ _ ⟨_, k21⟩ t9)
              | (have t9 := tst c_100 (stB_0 e21 c_124) c_133
                 exact F _ _ ⟨_, k21⟩ (rng_ge c_100) t9)
              | (have t9 := tst c_100 (stB_1 e21 c_124) c_133
                 exact F _ _ ⟨_, k21⟩ (rng_ge c_100) t9)
          · refine r_aload_n rfl dX9_edge_103 ?_
            refine r_getR foX9_7 rfl rfl dX9_edge_104 ?_
            refine r_iconst (v := (4 : Int32)) (by decide) dX9_edge_107 ?_
            refine r_iload_n rfl dX9_edge_108 ?_
            refine r_imul dX9_edge_109 ?_
            refine r_iconst (v := nI 1) (by decide) dX9_edge_110 ?_
            refine r_iadd dX9_edge_111 ?_
            refine r_iload rfl dX9_edge_112 ?_
            refine r_ias rfl (ix4 k 1) (by omega) (by decide) dX9_edge_114 ?_
            have I2 := RFset P.2 (i := 1) hk (by omega) (by rw [fit1]; exact c_100)
            rw [setE_2] at I2
            refine r_aload_n rfl dX9_edge_115 ?_
            refine r_aload_n rfl dX9_edge_116 ?_
            refine r_getR foX9_13 rfl rfl dX9_edge_117 ?_
            refine r_iconst (v := nI 0) (by decide) dX9_edge_120 ?_
            refine r_cV2i (T := TX9) (N := 21) moX9_breakerOf lkX9_155 rfl rfl (Nat.le_of_ble_eq_true rfl) ⟨by decide, by decide⟩ (Nat.le_of_ble_eq_true rfl) dX9_edge_121 rfl (m_stays I2.2) (fun v22 h22 q22 => ?_)
            obtain ⟨e21, k21⟩ := q22
            have k21 := (P.trans I2).trans k21
            refine r_if_ge 131 dX9_edge_124 (by decide) (fun c_124 => ?_) (fun c_124 => ?_)
            · refine r_iconst (v := (0 : Int32)) (by decide) dX9_edge_131 ?_
              refine r_iload_n rfl dX9_edge_132 ?_
              refine r_icmp_eq 141 dX9_edge_133 (by decide) (fun c_133 => ?_) (fun c_133 => ?_)
              · refine r_bipush (v := (-6 : Int32)) (by decide) dX9_edge_141 ?_
                refine r_ist4 rfl (by decide) dX9_edge_143 ?_
                first | refine r_incN6 rfl (by decide) dX9_edge_145 ?_ | refine r_incP6 rfl (by decide) dX9_edge_145 ?_
                refine r_goto 61 dX9_edge_148 (by decide) ?_
                first
                  | (have t9 := tsf1 (E := eM h n) (r := lab c) (k := k) (st := st) c_100
                     exact K _ _ ⟨y, P⟩ t9)
                  | (have t9 := tsf2 (stB_0 e21 c_124) c_133
                     exact K _ _ ⟨_, k21⟩ t9)
                  | (have t9 := tsf2 (stB_1 e21 c_124) c_133
                     exact K _ _ ⟨_, k21⟩ t9)
                  | (have t9 := tst c_100 (stB_0 e21 c_124) c_133
                     exact F _ _ ⟨_, k21⟩ (rng_ge c_100) t9)
                  | (have t9 := tst c_100 (stB_1 e21 c_124) c_133
                     exact F _ _ ⟨_, k21⟩ (rng_ge c_100) t9)
              · refine r_iload rfl dX9_edge_136 ?_
                refine r_goto 143 dX9_edge_138 (by decide) ?_
                refine r_ist4 rfl (by decide) dX9_edge_143 ?_
                first | refine r_incN6 rfl (by decide) dX9_edge_145 ?_ | refine r_incP6 rfl (by decide) dX9_edge_145 ?_
                refine r_goto 61 dX9_edge_148 (by decide) ?_
                first
                  | (have t9 := tsf1 (E := eM h n) (r := lab c) (k := k) (st := st) c_100
                     exact K _ _ ⟨y, P⟩ t9)
                  | (have t9 := tsf2 (stB_0 e21 c_124) c_133
                     exact K _ _ ⟨_, k21⟩ t9)
                  | (have t9 := tsf2 (stB_1 e21 c_124) c_133
                     exact K _ _ ⟨_, k21⟩ t9)
                  | (have t9 := tst c_100 (stB_0 e21 c_124) c_133
                     exact F _ _ ⟨_, k21⟩ (rng_ge c_100) t9)
                  | (have t9 := tst c_100 (stB_1 e21 c_124) c_133
                     exact F _ _ ⟨_, k21⟩ (rng_ge c_100) t9)
            · refine r_iconst (v := (1 : Int32)) (by decide) dX9_edge_127 ?_
              refine r_goto 132 dX9_edge_128 (by decide) ?_
              refine r_iload_n rfl dX9_edge_132 ?_
              refine r_icmp_eq 141 dX9_edge_133 (by decide) (fun c_133 => ?_) (fun c_133 => ?_)
              · refine r_bipush (v := (-6 : Int32)) (by decide) dX9_edge_141 ?_
                refine r_ist4 rfl (by decide) dX9_edge_143 ?_
                first | refine r_incN6 rfl (by decide) dX9_edge_145 ?_ | refine r_incP6 rfl (by decide) dX9_edge_145 ?_
                refine r_goto 61 dX9_edge_148 (by decide) ?_
                first
                  | (have t9 := tsf1 (E := eM h n) (r := lab c) (k := k) (st := st) c_100
                     exact K _ _ ⟨y, P⟩ t9)
                  | (have t9 := tsf2 (stB_0 e21 c_124) c_133
                     exact K _ _ ⟨_, k21⟩ t9)
                  | (have t9 := tsf2 (stB_1 e21 c_124) c_133
                     exact K _ _ ⟨_, k21⟩ t9)
                  | (have t9 := tst c_100 (stB_0 e21 c_124) c_133
                     exact F _ _ ⟨_, k21⟩ (rng_ge c_100) t9)
                  | (have t9 := tst c_100 (stB_1 e21 c_124) c_133
                     exact F _ _ ⟨_, k21⟩ (rng_ge c_100) t9)
              · refine r_iload rfl dX9_edge_136 ?_
                refine r_goto 143 dX9_edge_138 (by decide) ?_
                refine r_ist4 rfl (by decide) dX9_edge_143 ?_
                first | refine r_incN6 rfl (by decide) dX9_edge_145 ?_ | refine r_incP6 rfl (by decide) dX9_edge_145 ?_
                refine r_goto 61 dX9_edge_148 (by decide) ?_
                first
                  | (have t9 := tsf1 (E := eM h n) (r := lab c) (k := k) (st := st) c_100
                     exact K _ _ ⟨y, P⟩ t9)
                  | (have t9 := tsf2 (stB_0 e21 c_124) c_133
                     exact K _ _ ⟨_, k21⟩ t9)
                  | (have t9 := tsf2 (stB_1 e21 c_124) c_133
                     exact K _ _ ⟨_, k21⟩ t9)
                  | (have t9 := tst c_100 (stB_0 e21 c_124) c_133
                     exact F _ _ ⟨_, k21⟩ (rng_ge c_100) t9)
                  | (have t9 := tst c_100 (stB_1 e21 c_124) c_133
                     exact F _ _ ⟨_, k21⟩ (rng_ge c_100) t9)
  have turn1 : ∀ (st : Int32) (f : Nat) (X : Int32) (hh : Hp) (z : Option Value), (∃ y, RP h hh n c m (setE (eM h n) 1 k y) s) → (∀ (hh : Hp) (z : Option Value), (∃ y, RP h hh n c m (setE (eM h n) 1 k y) s) → tsB (eM h n) (lab c) k st ((eC (eM h n) k) + nI f) = false → R g mX9_edge 61 [some (.ref (ad g 62)), some (.int (nI k)), some (.int (eC (eM h n) k)), some (.int st), some (.int (-6)), some (.int (nI f)), some (.int (nI 2)), z] [] hh (Ri fun v h' => v = X ∧ RP h h' n c m (eM h n) s)) → (∀ (hh : Hp) (z : Option Value), (∃ y, RP h hh n c m (setE (eM h n) 1 k y) s) → 0 ≤ (eC (eM h n) k) + nI f → tsB (eM h n) (lab c) k st ((eC (eM h n) k) + nI f) = true → R g mX9_edge 61 [some (.ref (ad g 62)), some (.int (nI k)), some (.int (eC (eM h n) k)), some (.int st), some (.int ((eC (eM h n) k) + nI f)), some (.int (nI f)), some (.int (nI 2)), z] [] hh (Ri fun v h' => v = X ∧ RP h h' n c m (eM h n) s)) → R g mX9_edge 61 [some (.ref (ad g 62)), some (.int (nI k)), some (.int (eC (eM h n) k)), some (.int st), some (.int (-6)), some (.int (nI f)), some (.int (nI 1)), z] [] hh (Ri fun v h' => v = X ∧ RP h h' n c m (eM h n) s) := by
    intro st f X hh z ⟨y, P⟩ K F
    refine r_iload rfl dX9_edge_61 ?_
    refine r_iconst (v := nI 2) (by decide) dX9_edge_63 ?_
    refine r_icmp_ge 151 dX9_edge_64 (by decide) (fun c_64 => ?_) (fun c_64 => ?_)
    · first
        | exact absurd c_64 (by decide)
        | exact absurd c_69 (by decide)
    · refine r_iload rfl dX9_edge_67 ?_
      refine r_if_ge 151 dX9_edge_69 (by decide) (fun c_69 => ?_) (fun c_69 => ?_)
      · first
          | exact absurd c_64 (by decide)
          | exact absurd c_69 (by decide)
      · refine r_iload rfl dX9_edge_72 ?_
        refine r_if_ne 84 dX9_edge_74 (by decide) (fun c_74 => ?_) (fun c_74 => ?_)
        · refine r_iload_n rfl dX9_edge_84 ?_
          refine r_iload rfl dX9_edge_85 ?_
          refine r_iadd dX9_edge_87 ?_
          refine r_ist7 rfl (by decide) dX9_edge_88 ?_
          refine r_iload rfl dX9_edge_90 ?_
          refine r_i2l dX9_edge_92 ?_
          refine r_lconst rfl dX9_edge_93 ?_
          refine r_ldc2 kcX9_63 dX9_edge_94 ?_
          refine r_cS3i moX9_in lkX9_59 (Nat.le_of_ble_eq_true rfl) ⟨by decide, by decide⟩ (Nat.le_of_ble_eq_true rfl) dX9_edge_97 rfl (c_in (b := 1) (c := 99) (by decide) (by decide)) (fun v21 h21 q21 => ?_)
          obtain ⟨e21, f21⟩ := q21
          subst f21
          rw [e21]
          refine r_if_eq 145 dX9_edge_100 (by decide) (fun c_100 => ?_) (fun c_100 => ?_)
          · first | refine r_incN6 rfl (by decide) dX9_edge_145 ?_ | refine r_incP6 rfl (by decide) dX9_edge_145 ?_
            refine r_goto 61 dX9_edge_148 (by decide) ?_
            first
              | (have t9 := tsf1 (E := eM h n) (r := lab c) (k := k) (st := st) c_100
                 exact K _ _ ⟨y, P⟩ t9)
              | (have t9 := tsf2 (stB_0 e21 c_124) c_133
                 exact K _ _ ⟨_, k21⟩ t9)
              | (have t9 := tsf2 (stB_1 e21 c_124) c_133
                 exact K _ _ ⟨_, k21⟩ t9)
              | (have t9 := tst c_100 (stB_0 e21 c_124) c_133
                 exact F _ _ ⟨_, k21⟩ (rng_ge c_100) t9)
              | (have t9 := tst c_100 (stB_1 e21 c_124) c_133
                 exact F _ _ ⟨_, k21⟩ (rng_ge c_100) t9)
          · refine r_aload_n rfl dX9_edge_103 ?_
            refine r_getR foX9_7 rfl rfl dX9_edge_104 ?_
            refine r_iconst (v := (4 : Int32)) (by decide) dX9_edge_107 ?_
            refine r_iload_n rfl dX9_edge_108 ?_
            refine r_imul dX9_edge_109 ?_
            refine r_iconst (v := nI 1) (by decide) dX9_edge_110 ?_
            refine r_iadd dX9_edge_111 ?_
            refine r_iload rfl dX9_edge_112 ?_
            refine r_ias rfl (ix4 k 1) (by omega) (by decide) dX9_edge_114 ?_
            have I2 := RFset P.2 (i := 1) hk (by omega) (by rw [fit1]; exact c_100)
            rw [setE_2] at I2
            refine r_aload_n rfl dX9_edge_115 ?_
            refine r_aload_n rfl dX9_edge_116 ?_
            refine r_getR foX9_13 rfl rfl dX9_edge_117 ?_
            refine r_iconst (v := nI 0) (by decide) dX9_edge_120 ?_
            refine r_cV2i (T := TX9) (N := 21) moX9_breakerOf lkX9_155 rfl rfl (Nat.le_of_ble_eq_true rfl) ⟨by decide, by decide⟩ (Nat.le_of_ble_eq_true rfl) dX9_edge_121 rfl (m_stays I2.2) (fun v22 h22 q22 => ?_)
            obtain ⟨e21, k21⟩ := q22
            have k21 := (P.trans I2).trans k21
            refine r_if_ge 131 dX9_edge_124 (by decide) (fun c_124 => ?_) (fun c_124 => ?_)
            · refine r_iconst (v := (0 : Int32)) (by decide) dX9_edge_131 ?_
              refine r_iload_n rfl dX9_edge_132 ?_
              refine r_icmp_eq 141 dX9_edge_133 (by decide) (fun c_133 => ?_) (fun c_133 => ?_)
              · refine r_bipush (v := (-6 : Int32)) (by decide) dX9_edge_141 ?_
                refine r_ist4 rfl (by decide) dX9_edge_143 ?_
                first | refine r_incN6 rfl (by decide) dX9_edge_145 ?_ | refine r_incP6 rfl (by decide) dX9_edge_145 ?_
                refine r_goto 61 dX9_edge_148 (by decide) ?_
                first
                  | (have t9 := tsf1 (E := eM h n) (r := lab c) (k := k) (st := st) c_100
                     exact K _ _ ⟨y, P⟩ t9)
                  | (have t9 := tsf2 (stB_0 e21 c_124) c_133
                     exact K _ _ ⟨_, k21⟩ t9)
                  | (have t9 := tsf2 (stB_1 e21 c_124) c_133
                     exact K _ _ ⟨_, k21⟩ t9)
                  | (have t9 := tst c_100 (stB_0 e21 c_124) c_133
                     exact F _ _ ⟨_, k21⟩ (rng_ge c_100) t9)
                  | (have t9 := tst c_100 (stB_1 e21 c_124) c_133
                     exact F _ _ ⟨_, k21⟩ (rng_ge c_100) t9)
              · refine r_iload rfl dX9_edge_136 ?_
                refine r_goto 143 dX9_edge_138 (by decide) ?_
                refine r_ist4 rfl (by decide) dX9_edge_143 ?_
                first | refine r_incN6 rfl (by decide) dX9_edge_145 ?_ | refine r_incP6 rfl (by decide) dX9_edge_145 ?_
                refine r_goto 61 dX9_edge_148 (by decide) ?_
                first
                  | (have t9 := tsf1 (E := eM h n) (r := lab c) (k := k) (st := st) c_100
                     exact K _ _ ⟨y, P⟩ t9)
                  | (have t9 := tsf2 (stB_0 e21 c_124) c_133
                     exact K _ _ ⟨_, k21⟩ t9)
                  | (have t9 := tsf2 (stB_1 e21 c_124) c_133
                     exact K _ _ ⟨_, k21⟩ t9)
                  | (have t9 := tst c_100 (stB_0 e21 c_124) c_133
                     exact F _ _ ⟨_, k21⟩ (rng_ge c_100) t9)
                  | (have t9 := tst c_100 (stB_1 e21 c_124) c_133
                     exact F _ _ ⟨_, k21⟩ (rng_ge c_100) t9)
            · refine r_iconst (v := (1 : Int32)) (by decide) dX9_edge_127 ?_
              refine r_goto 132 dX9_edge_128 (by decide) ?_
              refine r_iload_n rfl dX9_edge_132 ?_
              refine r_icmp_eq 141 dX9_edge_133 (by decide) (fun c_133 => ?_) (fun c_133 => ?_)
              · refine r_bipush (v := (-6 : Int32)) (by decide) dX9_edge_141 ?_
                refine r_ist4 rfl (by decide) dX9_edge_143 ?_
                first | refine r_incN6 rfl (by decide) dX9_edge_145 ?_ | refine r_incP6 rfl (by decide) dX9_edge_145 ?_
                refine r_goto 61 dX9_edge_148 (by decide) ?_
                first
                  | (have t9 := tsf1 (E := eM h n) (r := lab c) (k := k) (st := st) c_100
                     exact K _ _ ⟨y, P⟩ t9)
                  | (have t9 := tsf2 (stB_0 e21 c_124) c_133
                     exact K _ _ ⟨_, k21⟩ t9)
                  | (have t9 := tsf2 (stB_1 e21 c_124) c_133
                     exact K _ _ ⟨_, k21⟩ t9)
                  | (have t9 := tst c_100 (stB_0 e21 c_124) c_133
                     exact F _ _ ⟨_, k21⟩ (rng_ge c_100) t9)
                  | (have t9 := tst c_100 (stB_1 e21 c_124) c_133
                     exact F _ _ ⟨_, k21⟩ (rng_ge c_100) t9)
              · refine r_iload rfl dX9_edge_136 ?_
                refine r_goto 143 dX9_edge_138 (by decide) ?_
                refine r_ist4 rfl (by decide) dX9_edge_143 ?_
                first | refine r_incN6 rfl (by decide) dX9_edge_145 ?_ | refine r_incP6 rfl (by decide) dX9_edge_145 ?_
                refine r_goto 61 dX9_edge_148 (by decide) ?_
                first
                  | (have t9 := tsf1 (E := eM h n) (r := lab c) (k := k) (st := st) c_100
                     exact K _ _ ⟨y, P⟩ t9)
                  | (have t9 := tsf2 (stB_0 e21 c_124) c_133
                     exact K _ _ ⟨_, k21⟩ t9)
                  | (have t9 := tsf2 (stB_1 e21 c_124) c_133
                     exact K _ _ ⟨_, k21⟩ t9)
                  | (have t9 := tst c_100 (stB_0 e21 c_124) c_133
                     exact F _ _ ⟨_, k21⟩ (rng_ge c_100) t9)
                  | (have t9 := tst c_100 (stB_1 e21 c_124) c_133
                     exact F _ _ ⟨_, k21⟩ (rng_ge c_100) t9)
        · exact absurd c_74 (by decide)
  have t2 : ∀ (hh : Hp) (st : Int32) (f : Nat) (z : Option Value) (X : Int32), R g mX9_edge 46 [some (.ref (ad g 62)), some (.int (nI k)), some (.int (eC (eM h n) k)), some (.int st), some (.int (-6)), some (.int (nI (f + 1))), some (.int (nI 2)), z] [] hh (Ri fun v h' => v = X ∧ RP h h' n c m (eM h n) s) → R g mX9_edge 61 [some (.ref (ad g 62)), some (.int (nI k)), some (.int (eC (eM h n) k)), some (.int st), some (.int (-6)), some (.int (nI f)), some (.int (nI 2)), z] [] hh (Ri fun v h' => v = X ∧ RP h h' n c m (eM h n) s) := by
    intro hh st f z X K
    refine r_iload rfl dX9_edge_61 ?_
    refine r_iconst (v := nI 2) (by decide) dX9_edge_63 ?_
    refine r_icmp_ge 151 dX9_edge_64 (by decide) (fun c_64 => ?_) (fun c_64 => ?_)
    · first | refine r_incN5 rfl (by decide) dX9_edge_151 ?_ | refine r_incP5 rfl (by decide) dX9_edge_151 ?_
      refine r_goto 46 dX9_edge_154 (by decide) ?_
      first
        | exact K
        | exact absurd c_69 (by decide)
    · exact absurd (by decide : nI 2 ≤ nI 2) c_64
  have main : ∀ (st : Int32) (z : Nat) (hh : Hp) (d f : Nat) (z6 z7 : Option Value), f + d = 99 → d < z → 1 ≤ f → (∃ y, RP h hh n c m (setE (eM h n) 1 k y) s) → R g mX9_edge 46 [some (.ref (ad g 62)), some (.int (nI k)), some (.int (eC (eM h n) k)), some (.int st), some (.int (-6)), some (.int (nI f)), z6, z7] [] hh (Ri fun v h' => v = egF (eM h n) (lab c) k st d f ∧ RP h h' n c m (eM h n) s) := by
    intro st z
    induction z with
    | zero => intro hh d f z6 z7 a b; omega
    | succ z ih =>
      intro hh d f z6 z7 a b hf hv
      refine r_iload rfl dX9_edge_46 ?_
      refine r_bipush (v := nI 99) (by decide) dX9_edge_48 ?_
      refine r_icmp_ge 157 dX9_edge_50 (by decide) (fun c_50 => ?_) (fun c_50 => ?_)
      · first
          | exact absurd c_55 (by decide)
          | (have e : f = 99 := by have := ge_y (by omega) (by omega) c_50; omega
             obtain rfl : d = 0 := by omega
             exact fin _ _ _ _ _ _ hv)
      · have hlk : f < 99 := ge_n (by omega) c_50
        refine r_iload rfl dX9_edge_53 ?_
        refine r_if_ge 157 dX9_edge_55 (by decide) (fun c_55 => ?_) (fun c_55 => ?_)
        · first
            | exact absurd c_55 (by decide)
            | (have e : f = 99 := by have := ge_y (by omega) (by omega) c_50; omega
               obtain rfl : d = 0 := by omega
               exact fin _ _ _ _ _ _ hv)
        · refine r_iconst (v := nI 0) (by decide) dX9_edge_58 ?_
          refine r_ist6 rfl (by decide) dX9_edge_59 ?_
          obtain ⟨d, rfl⟩ : ∃ d', d = d' + 1 := ⟨d - 1, by omega⟩
          refine turn0 st f _ _ _ hv (fun hh z hv t0 => ?_) (fun hh z hv hx t0 => Ri.imp (out61 _ _ _ _ _ _ hv hx) (fun v h' q => ⟨by rw [q.1, egF, if_pos t0], q.2⟩))
          refine turn1 st f _ _ _ hv (fun hh z hv t1 => ?_) (fun hh z hv hx t1 => Ri.imp (out61 _ _ _ _ _ _ hv hx) (fun v h' q => ⟨by rw [q.1, egF, if_neg (by rw [t0]; decide), if_pos t1], q.2⟩))
          refine t2 _ st f _ _ (Ri.imp (ih _ d (f + 1) _ _ (by omega) (by omega) (by omega) hv) (fun v h' q => ⟨by rw [q.1, egF, if_neg (by rw [t0]; decide), if_neg (by rw [t1]; decide)], q.2⟩))
  refine r_aload_n rfl dX9_edge_0 ?_
  refine r_iload_n rfl dX9_edge_1 ?_
  refine r_cV1i (T := TX9) (N := 21) moX9_isLand lkX9_77 rfl rfl (Nat.le_of_ble_eq_true rfl) ⟨by decide, by decide⟩ (Nat.le_of_ble_eq_true rfl) dX9_edge_2 rfl (m_isLand I.1.1 I.1.2) (fun v1 h1 q1 => ?_)
  obtain ⟨e1, f1⟩ := q1
  subst f1
  rw [e1]
  refine r_if_ne 10 dX9_edge_5 (by decide) (fun c_5 => ?_) (fun c_5 => ?_)
  · refine r_aload_n rfl dX9_edge_10 ?_
    refine r_getR foX9_7 rfl rfl dX9_edge_11 ?_
    refine r_iconst (v := (4 : Int32)) (by decide) dX9_edge_14 ?_
    refine r_iload_n rfl dX9_edge_15 ?_
    refine r_imul dX9_edge_16 ?_
    refine r_iconst (v := nI 1) (by decide) dX9_edge_17 ?_
    refine r_iadd dX9_edge_18 ?_
    refine r_ild rfl (ix4 k 1) (by omega) (by decide) dX9_edge_19 ?_
    refine r_ist2 rfl (by decide) dX9_edge_20 ?_
    refine r_aload_n rfl dX9_edge_21 ?_
    refine r_aload_n rfl dX9_edge_22 ?_
    refine r_getR foX9_13 rfl rfl dX9_edge_23 ?_
    refine r_iconst (v := nI 0) (by decide) dX9_edge_26 ?_
    refine r_cV2i (T := TX9) (N := 21) moX9_breakerOf lkX9_155 rfl rfl (Nat.le_of_ble_eq_true rfl) ⟨by decide, by decide⟩ (Nat.le_of_ble_eq_true rfl) dX9_edge_27 rfl (m_stays I) (fun v2 h2 q2 => ?_)
    obtain ⟨e9, k9⟩ := q2
    have k9 : ∃ y, RP h h2 n c m (setE (eM h n) 1 k y) s := ⟨eC (eM h n) k, by rw [setE_0]; exact k9⟩
    refine r_if_ge 37 dX9_edge_30 (by decide) (fun c_30 => ?_) (fun c_30 => ?_)
    · refine r_iconst (v := (0 : Int32)) (by decide) dX9_edge_37 ?_
      refine r_ist3 rfl (by decide) dX9_edge_38 ?_
      refine r_bipush (v := (-6 : Int32)) (by decide) dX9_edge_39 ?_
      refine r_ist4 rfl (by decide) dX9_edge_41 ?_
      refine r_iconst (v := nI 1) (by decide) dX9_edge_43 ?_
      refine r_ist5 rfl (by decide) dX9_edge_44 ?_
      first
        | (rw [stB_0 e9 c_30]
           exact main _ 99 _ 98 1 _ _ (by omega) (by omega) (by omega) k9)
        | (rw [stB_1 e9 c_30]
           exact main _ 99 _ 98 1 _ _ (by omega) (by omega) (by omega) k9)
    · refine r_iconst (v := (1 : Int32)) (by decide) dX9_edge_33 ?_
      refine r_goto 38 dX9_edge_34 (by decide) ?_
      refine r_ist3 rfl (by decide) dX9_edge_38 ?_
      refine r_bipush (v := (-6 : Int32)) (by decide) dX9_edge_39 ?_
      refine r_ist4 rfl (by decide) dX9_edge_41 ?_
      refine r_iconst (v := nI 1) (by decide) dX9_edge_43 ?_
      refine r_ist5 rfl (by decide) dX9_edge_44 ?_
      first
        | (rw [stB_0 e9 c_30]
           exact main _ 99 _ 98 1 _ _ (by omega) (by omega) (by omega) k9)
        | (rw [stB_1 e9 c_30]
           exact main _ 99 _ 98 1 _ _ (by omega) (by omega) (by omega) k9)
  · refine r_iconst (v := (-1 : Int32)) (by decide) dX9_edge_8 ?_
    refine ret_i dX9_edge_9 rfl ?_
    exact absurd (c_5.symm.trans (isL_k (by omega) hk)) (by decide)

set_option maxRecDepth 100000 in
set_option maxHeartbeats 400000 in
theorem m_edge {g : GG} {n m : Nat} {h : Hp} {c : Nat → Nat} {E : Ec} {s : Nat → Int32} {x : Int32} (I : RF h n c m E s) : R g mX9_edge 0 [some (.ref (ad g 62)), some (.int x), none, none, none, none, none, none] [] h (Ri fun v h' => (isL n x = 0 ∧ v = -1 ∧ h' = h) ∨ ∃ k, k < n ∧ x = nI k ∧ v = egF E (lab c) k (stB E (lab c)) 98 1 ∧ RP h h' n c m E s) := by
  have hn6 := I.1.1
  by_cases hx : isL n x = 0
  · have hz : True := trivial
    refine r_aload_n rfl dX9_edge_0 ?_
    refine r_iload_n rfl dX9_edge_1 ?_
    refine r_cV1i (T := TX9) (N := 21) moX9_isLand lkX9_77 rfl rfl (Nat.le_of_ble_eq_true rfl) ⟨by decide, by decide⟩ (Nat.le_of_ble_eq_true rfl) dX9_edge_2 rfl (m_isLand I.1.1 I.1.2) (fun v1 h1 q1 => ?_)
    obtain ⟨e1, f1⟩ := q1
    subst f1
    rw [e1]
    refine r_if_ne 10 dX9_edge_5 (by decide) (fun c_5 => ?_) (fun c_5 => ?_)
    · exact absurd hx c_5
    · refine r_iconst (v := (-1 : Int32)) (by decide) dX9_edge_8 ?_
      refine ret_i dX9_edge_9 rfl ?_
      exact Or.inl ⟨c_5, rfl, rfl⟩
  · obtain ⟨k, hk, rfl⟩ := isL_y (by omega) hx
    exact Ri.imp (m_edgek I hk) (fun v h' q => Or.inr ⟨k, hk, rfl, q⟩)

