theorem lt64 (x y : Int32) : x.toInt64 < y.toInt64 ↔ x < y := by
  rw [Int64.lt_iff_toInt_lt, Int32.lt_iff_toInt_lt, Int32.toInt_toInt64, Int32.toInt_toInt64]
theorem cmp_lt (x y : Int32) : lg_cmp x.toInt64 y.toInt64 < 0 ↔ x < y := by
  rw [lg_cmp]
  by_cases a : x.toInt64 > y.toInt64
  · rw [if_pos a]
    exact ⟨fun q => absurd q (by decide), fun q => absurd (Int64.lt_trans ((lt64 x y).mpr q) a) Int64.lt_irrefl⟩
  · rw [if_neg a]
    by_cases e : x.toInt64 = y.toInt64
    · rw [if_pos e]
      exact ⟨fun q => absurd q (by decide), fun q => absurd ((lt64 x y).mpr q) (by rw [e]; exact Int64.lt_irrefl)⟩
    · rw [if_neg e]
      refine ⟨fun _ => ?_, fun _ => by decide⟩
      rw [← lt64]
      have h1 := Int64.lt_iff_toInt_lt (x := x.toInt64) (y := y.toInt64)
      have h2 := Int64.lt_iff_toInt_lt (x := y.toInt64) (y := x.toInt64)
      rw [h1]
      have h3 : ¬ y.toInt64.toInt < x.toInt64.toInt := fun z => a (h2.mpr z)
      have h4 : ¬ x.toInt64.toInt = y.toInt64.toInt := fun z => e (Int64.toInt_inj.mp z)
      omega
theorem cmp_gt (x y : Int32) : 0 < lg_cmp x.toInt64 y.toInt64 ↔ y < x := by
  rw [lg_cmp]
  by_cases a : x.toInt64 > y.toInt64
  · rw [if_pos a]
    exact ⟨fun _ => (lt64 y x).mp a, fun _ => by decide⟩
  · rw [if_neg a]
    refine ⟨fun q => ?_, fun q => absurd ((lt64 y x).mpr q) a⟩
    by_cases e : x.toInt64 = y.toInt64
    · rw [if_pos e] at q; exact absurd q (by decide)
    · rw [if_neg e] at q; exact absurd q (by decide)

set_option maxRecDepth 100000 in
set_option maxHeartbeats 400000 in
theorem c_in {g : GG} {a b c : Int32} {lo hi : Int64} {h : Hp} (hb : lo = b.toInt64) (hc : hi = c.toInt64) : R g mX9_in 0 [some (.long a.toInt64), none, some (.long lo), none, some (.long hi), none] [] h (Ri fun v h' => h' = h ∧ v = rng b c a) := by
  subst hb; subst hc
  refine r_lload_n rfl dX9_in_0 ?_
  refine r_lload_n rfl dX9_in_1 ?_
  refine r_lcmp dX9_in_2 ?_
  refine r_if_lt 17 dX9_in_3 (by decide) (fun c_3 => ?_) (fun c_3 => ?_)
  · refine r_iconst (v := (0 : Int32)) (by decide) dX9_in_17 ?_
    refine ret_z dX9_in_18 rfl (by decide) ?_
    first
      | exact ⟨rfl, by rw [rng, if_pos ((cmp_lt _ _).mp c_3)]⟩
      | exact ⟨rfl, by rw [rng, if_neg (fun q => c_3 ((cmp_lt _ _).mpr q)), if_pos ((cmp_gt _ _).mp c_10)]⟩
      | exact ⟨rfl, by rw [rng, if_neg (fun q => c_3 ((cmp_lt _ _).mpr q)), if_neg (fun q => c_10 ((cmp_gt _ _).mpr q))]⟩
  · refine r_lload_n rfl dX9_in_6 ?_
    refine r_lload rfl dX9_in_7 ?_
    refine r_lcmp dX9_in_9 ?_
    refine r_if_gt 17 dX9_in_10 (by decide) (fun c_10 => ?_) (fun c_10 => ?_)
    · refine r_iconst (v := (0 : Int32)) (by decide) dX9_in_17 ?_
      refine ret_z dX9_in_18 rfl (by decide) ?_
      first
        | exact ⟨rfl, by rw [rng, if_pos ((cmp_lt _ _).mp c_3)]⟩
        | exact ⟨rfl, by rw [rng, if_neg (fun q => c_3 ((cmp_lt _ _).mpr q)), if_pos ((cmp_gt _ _).mp c_10)]⟩
        | exact ⟨rfl, by rw [rng, if_neg (fun q => c_3 ((cmp_lt _ _).mpr q)), if_neg (fun q => c_10 ((cmp_gt _ _).mpr q))]⟩
    · refine r_iconst (v := (1 : Int32)) (by decide) dX9_in_13 ?_
      refine r_goto 18 dX9_in_14 (by decide) ?_
      refine ret_z dX9_in_18 rfl (by decide) ?_
      first
        | exact ⟨rfl, by rw [rng, if_pos ((cmp_lt _ _).mp c_3)]⟩
        | exact ⟨rfl, by rw [rng, if_neg (fun q => c_3 ((cmp_lt _ _).mpr q)), if_pos ((cmp_gt _ _).mp c_10)]⟩
        | exact ⟨rfl, by rw [rng, if_neg (fun q => c_3 ((cmp_lt _ _).mpr q)), if_neg (fun q => c_10 ((cmp_gt _ _).mpr q))]⟩

theorem isL_rng {n : Nat} {x : Int32} (hn : n ≤ 6) : rng 0 (nI n - 1) x = isL n x := by
  rw [rng, isL]
  by_cases q : x < 0
  · rw [if_pos q, if_pos q]
  · rw [if_neg q, if_neg q]
    obtain ⟨j, hj, e⟩ := nI_of q
    subst e
    cases n with
    | zero =>
      have h1 : nI 0 - 1 < nI j := Int32.lt_of_lt_of_le (by decide) (nI_pos' hj)
      have h2 : nI 0 ≤ nI j := nI_le (by omega) hj
      rw [if_pos h1, if_pos h2]
    | succ k =>
      rw [nI_pred]
      by_cases z : k < j
      · rw [if_pos (nI_lt z hj), if_pos (nI_le (by omega) hj)]
      · rw [if_neg (nI_nlt (by omega) (by omega)), if_neg (nI_ge (by omega) (by omega))]
/-- the reference: n lands E, the parting c, the signs s below m -/
def MS (h : Hp) (n : Nat) (c : Nat → Nat) (m : Nat) (E : Ec) (s : Nat → Int32) : Prop := (n ≤ 6 ∧ h 62 1 = nI n) ∧ (h 62 2 = eWa E ∧ h 62 3 = eSh E ∧ eN E = n) ∧ (∀ l, l < n → h 63 (4 * l) = eW E l ∧ h 63 (4 * l + 1) = eC E l ∧ h 63 (4 * l + 2) = eG E l ∧ h 63 (4 * l + 3) = eT E l) ∧ (∀ l, l < n → h 64 l = nI (c l)) ∧ h 62 7 = nI m ∧ m ≤ 20 ∧ ∀ i, i < m → h 66 i = s i

set_option maxRecDepth 100000 in
set_option maxHeartbeats 400000 in
theorem m_isLand {g : GG} {n : Nat} {x : Int32} {h : Hp} (hn : n ≤ 6) (h0 : h 62 1 = nI n) : R g mX9_isLand 0 [some (.ref (ad g 62)), some (.int x)] [] h (Ri fun v h' => h' = h ∧ v = isL n x) := by
  refine r_iload_n rfl dX9_isLand_0 ?_
  refine r_i2l dX9_isLand_1 ?_
  refine r_lconst rfl dX9_isLand_2 ?_
  refine r_aload_n rfl dX9_isLand_3 ?_
  refine r_getI foX9_55 rfl rfl dX9_isLand_4 ?_
  rw [h0]
  refine r_iconst (v := (1 : Int32)) (by decide) dX9_isLand_7 ?_
  refine r_isub dX9_isLand_8 ?_
  refine r_i2l dX9_isLand_9 ?_
  refine r_cS3i moX9_in lkX9_59 (Nat.le_of_ble_eq_true rfl) ⟨by decide, by decide⟩ (Nat.le_of_ble_eq_true rfl) dX9_isLand_10 rfl (c_in (b := 0) (c := nI n - 1) (by decide) rfl) (fun v1 h1 q1 => ?_)
  obtain ⟨e1, f1⟩ := q1
  subst f1
  rw [e1, isL_rng hn]
  exact ret_z dX9_isLand_13 rfl (isL_01 _ _) ⟨rfl, rfl⟩

theorem rng_01 (a b x : Int32) : rng a b x = 0 ∨ rng a b x = 1 := by
  rw [rng]
  split
  · exact Or.inl rfl
  · split
    · exact Or.inl rfl
    · exact Or.inr rfl
/-- what the reference takes as a number of a land -/
def numR (w v : Int32) : Int32 := if 2 ≤ w then (if w = 2 then rng 0 20 v else rng 0 60 v) else rng 1 99 v
theorem numR_01 (w v : Int32) : numR w v = 0 ∨ numR w v = 1 := by
  rw [numR]
  split
  · split
    · exact rng_01 _ _ _
    · exact rng_01 _ _ _
  · exact rng_01 _ _ _

set_option maxRecDepth 100000 in
set_option maxHeartbeats 400000 in
theorem m_isNumber {g : GG} {x v : Int32} {h : Hp} : R g mX9_isNumber 0 [some (.int x), some (.int v)] [] h (Ri fun r h' => h' = h ∧ r = numR x v) := by
  refine r_iload_n rfl dX9_isNumber_0 ?_
  refine r_i2l dX9_isNumber_1 ?_
  refine r_iload_n rfl dX9_isNumber_2 ?_
  refine r_iconst (v := (2 : Int32)) (by decide) dX9_isNumber_3 ?_
  refine r_icmp_ge 11 dX9_isNumber_4 (by decide) (fun c_4 => ?_) (fun c_4 => ?_)
  · refine r_lconst rfl dX9_isNumber_11 ?_
    refine r_iload_n rfl dX9_isNumber_12 ?_
    refine r_iconst (v := (2 : Int32)) (by decide) dX9_isNumber_13 ?_
    refine r_icmp_ge 23 dX9_isNumber_14 (by decide) (fun c_14 => ?_) (fun c_14 => ?_)
    · refine r_iload_n rfl dX9_isNumber_23 ?_
      refine r_iconst (v := (2 : Int32)) (by decide) dX9_isNumber_24 ?_
      refine r_icmp_ne 34 dX9_isNumber_25 (by decide) (fun c_25 => ?_) (fun c_25 => ?_)
      · refine r_ldc2 kcX9_67 dX9_isNumber_34 ?_
        refine r_cS3i moX9_in lkX9_59 (Nat.le_of_ble_eq_true rfl) ⟨by decide, by decide⟩ (Nat.le_of_ble_eq_true rfl) dX9_isNumber_37 rfl (c_in (b := 0) (c := 60) (by decide) (by decide)) (fun v1 h1 q1 => ?_)
        obtain ⟨e1, f1⟩ := q1
        subst f1
        rw [e1]
        first
          | exact absurd c_14 c_4
          | exact absurd c_4 c_14
          | exact ret_z dX9_isNumber_40 rfl (rng_01 _ _ _) ⟨rfl, by rw [numR, if_neg c_4]⟩
          | exact ret_z dX9_isNumber_40 rfl (rng_01 _ _ _) ⟨rfl, by rw [numR, if_pos c_4, if_pos c_25]⟩
          | exact ret_z dX9_isNumber_40 rfl (rng_01 _ _ _) ⟨rfl, by rw [numR, if_pos c_4, if_neg c_25]⟩
      · refine r_ldc2 kcX9_65 dX9_isNumber_28 ?_
        refine r_goto 37 dX9_isNumber_31 (by decide) ?_
        refine r_cS3i moX9_in lkX9_59 (Nat.le_of_ble_eq_true rfl) ⟨by decide, by decide⟩ (Nat.le_of_ble_eq_true rfl) dX9_isNumber_37 rfl (c_in (b := 0) (c := 20) (by decide) (by decide)) (fun v2 h2 q2 => ?_)
        obtain ⟨e2, f2⟩ := q2
        subst f2
        rw [e2]
        first
          | exact absurd c_14 c_4
          | exact absurd c_4 c_14
          | exact ret_z dX9_isNumber_40 rfl (rng_01 _ _ _) ⟨rfl, by rw [numR, if_neg c_4]⟩
          | exact ret_z dX9_isNumber_40 rfl (rng_01 _ _ _) ⟨rfl, by rw [numR, if_pos c_4, if_pos c_25]⟩
          | exact ret_z dX9_isNumber_40 rfl (rng_01 _ _ _) ⟨rfl, by rw [numR, if_pos c_4, if_neg c_25]⟩
    · refine r_ldc2 kcX9_63 dX9_isNumber_17 ?_
      refine r_goto 37 dX9_isNumber_20 (by decide) ?_
      refine r_cS3i moX9_in lkX9_59 (Nat.le_of_ble_eq_true rfl) ⟨by decide, by decide⟩ (Nat.le_of_ble_eq_true rfl) dX9_isNumber_37 rfl (c_in (b := 0) (c := 99) (by decide) (by decide)) (fun v3 h3 q3 => ?_)
      obtain ⟨e3, f3⟩ := q3
      subst f3
      rw [e3]
      first
        | exact absurd c_14 c_4
        | exact absurd c_4 c_14
        | exact ret_z dX9_isNumber_40 rfl (rng_01 _ _ _) ⟨rfl, by rw [numR, if_neg c_4]⟩
        | exact ret_z dX9_isNumber_40 rfl (rng_01 _ _ _) ⟨rfl, by rw [numR, if_pos c_4, if_pos c_25]⟩
        | exact ret_z dX9_isNumber_40 rfl (rng_01 _ _ _) ⟨rfl, by rw [numR, if_pos c_4, if_neg c_25]⟩
  · refine r_lconst rfl dX9_isNumber_7 ?_
    refine r_goto 12 dX9_isNumber_8 (by decide) ?_
    refine r_iload_n rfl dX9_isNumber_12 ?_
    refine r_iconst (v := (2 : Int32)) (by decide) dX9_isNumber_13 ?_
    refine r_icmp_ge 23 dX9_isNumber_14 (by decide) (fun c_14 => ?_) (fun c_14 => ?_)
    · refine r_iload_n rfl dX9_isNumber_23 ?_
      refine r_iconst (v := (2 : Int32)) (by decide) dX9_isNumber_24 ?_
      refine r_icmp_ne 34 dX9_isNumber_25 (by decide) (fun c_25 => ?_) (fun c_25 => ?_)
      · refine r_ldc2 kcX9_67 dX9_isNumber_34 ?_
        refine r_cS3i moX9_in lkX9_59 (Nat.le_of_ble_eq_true rfl) ⟨by decide, by decide⟩ (Nat.le_of_ble_eq_true rfl) dX9_isNumber_37 rfl (c_in (b := 1) (c := 60) (by decide) (by decide)) (fun v4 h4 q4 => ?_)
        obtain ⟨e4, f4⟩ := q4
        subst f4
        rw [e4]
        first
          | exact absurd c_14 c_4
          | exact absurd c_4 c_14
          | exact ret_z dX9_isNumber_40 rfl (rng_01 _ _ _) ⟨rfl, by rw [numR, if_neg c_4]⟩
          | exact ret_z dX9_isNumber_40 rfl (rng_01 _ _ _) ⟨rfl, by rw [numR, if_pos c_4, if_pos c_25]⟩
          | exact ret_z dX9_isNumber_40 rfl (rng_01 _ _ _) ⟨rfl, by rw [numR, if_pos c_4, if_neg c_25]⟩
      · refine r_ldc2 kcX9_65 dX9_isNumber_28 ?_
        refine r_goto 37 dX9_isNumber_31 (by decide) ?_
        refine r_cS3i moX9_in lkX9_59 (Nat.le_of_ble_eq_true rfl) ⟨by decide, by decide⟩ (Nat.le_of_ble_eq_true rfl) dX9_isNumber_37 rfl (c_in (b := 1) (c := 20) (by decide) (by decide)) (fun v5 h5 q5 => ?_)
        obtain ⟨e5, f5⟩ := q5
        subst f5
        rw [e5]
        first
          | exact absurd c_14 c_4
          | exact absurd c_4 c_14
          | exact ret_z dX9_isNumber_40 rfl (rng_01 _ _ _) ⟨rfl, by rw [numR, if_neg c_4]⟩
          | exact ret_z dX9_isNumber_40 rfl (rng_01 _ _ _) ⟨rfl, by rw [numR, if_pos c_4, if_pos c_25]⟩
          | exact ret_z dX9_isNumber_40 rfl (rng_01 _ _ _) ⟨rfl, by rw [numR, if_pos c_4, if_neg c_25]⟩
    · refine r_ldc2 kcX9_63 dX9_isNumber_17 ?_
      refine r_goto 37 dX9_isNumber_20 (by decide) ?_
      refine r_cS3i moX9_in lkX9_59 (Nat.le_of_ble_eq_true rfl) ⟨by decide, by decide⟩ (Nat.le_of_ble_eq_true rfl) dX9_isNumber_37 rfl (c_in (b := 1) (c := 99) (by decide) (by decide)) (fun v6 h6 q6 => ?_)
      obtain ⟨e6, f6⟩ := q6
      subst f6
      rw [e6]
      first
        | exact absurd c_14 c_4
        | exact absurd c_4 c_14
        | exact ret_z dX9_isNumber_40 rfl (rng_01 _ _ _) ⟨rfl, by rw [numR, if_neg c_4]⟩
        | exact ret_z dX9_isNumber_40 rfl (rng_01 _ _ _) ⟨rfl, by rw [numR, if_pos c_4, if_pos c_25]⟩
        | exact ret_z dX9_isNumber_40 rfl (rng_01 _ _ _) ⟨rfl, by rw [numR, if_pos c_4, if_neg c_25]⟩

set_option maxRecDepth 100000 in
set_option maxHeartbeats 400000 in
theorem m_manyOf {g : GG} {A n : Nat} {h : Hp} {c : Nat → Nat} (hA : shl[A]? = some (.inl 6)) (hn : n ≤ 6) (h0 : h 62 1 = nI n) (hc : ∀ l, l < n → h A l = nI (c l)) (hb : ∀ l, l < n → c l < 100) : R g mX9_manyOf 0 [some (.ref (ad g 62)), some (.ref (ad g A)), none, none] [] h (Ri fun v h' => h' = h ∧ v = nI (mx c n)) := by
  have hmx : ∀ l, l ≤ n → mx c l < 101 := by
    intro l
    induction l with
    | zero => intro _; simp [mx]
    | succ l ih => intro hl; have := ih (by omega); have := hb l (by omega); simp only [mx]; omega
  have loop : ∀ (z l : Nat) (x : Int32), l ≤ n → n < l + z → x = nI (mx c l) → R g mX9_manyOf 4 [some (.ref (ad g 62)), some (.ref (ad g A)), some (.int x), some (.int (nI l))] [] h (Ri fun v h' => h' = h ∧ v = nI (mx c n)) := by
    intro z
    induction z with
    | zero => intro l x a b; omega
    | succ z ih =>
      intro l x a b ex
      subst ex
      refine r_iload_n rfl dX9_manyOf_4 ?_
      refine r_aload_n rfl dX9_manyOf_5 ?_
      refine r_getI foX9_55 rfl rfl dX9_manyOf_6 ?_
      rw [h0]
      refine r_icmp_ge 35 dX9_manyOf_9 (by decide) (fun c_9 => ?_) (fun c_9 => ?_)
      · refine r_iload_n rfl dX9_manyOf_35 ?_
        refine ret_i dX9_manyOf_36 rfl ?_
        have e : l = n := by have := ge_y (by omega) (by omega) c_9; omega
        exact ⟨rfl, by rw [e]⟩
      · have hlk : l < n := ge_n (by omega) c_9
        refine r_aload_n rfl dX9_manyOf_12 ?_
        refine r_iload_n rfl dX9_manyOf_13 ?_
        refine r_ild hA rfl (by omega) (by decide) dX9_manyOf_14 ?_
        rw [hc l hlk]
        refine r_iload_n rfl dX9_manyOf_15 ?_
        refine r_icmp_lt 27 dX9_manyOf_16 (by decide) (fun c_16 => ?_) (fun c_16 => ?_)
        · refine r_iload_n rfl dX9_manyOf_27 ?_
          refine r_ist2 rfl (by decide) dX9_manyOf_28 ?_
          first | refine r_incN3 rfl (by decide) dX9_manyOf_29 ?_ | refine r_incP3 rfl (by decide) dX9_manyOf_29 ?_
          refine r_goto 4 dX9_manyOf_32 (by decide) ?_
          have hb1 := hb l hlk
          have hm := hmx l (by omega)
          first
            | (have hlt := (nI_ltI (by omega) (by omega)).mp c_16
               exact ih (l + 1) _ (by omega) (by omega) (by rw [mx, show max (mx c l) (c l + 1) = mx c l by omega]))
            | (have hge : ¬ c l < mx c l := fun q => c_16 (nI_lt q (by omega))
               exact ih (l + 1) _ (by omega) (by omega) (by rw [mx, show max (mx c l) (c l + 1) = c l + 1 by omega]))
        · refine r_aload_n rfl dX9_manyOf_19 ?_
          refine r_iload_n rfl dX9_manyOf_20 ?_
          refine r_ild hA rfl (by omega) (by decide) dX9_manyOf_21 ?_
          rw [hc l hlk]
          refine r_iconst (v := (1 : Int32)) (by decide) dX9_manyOf_22 ?_
          refine r_iadd dX9_manyOf_23 ?_
          rw [nI_1]
          refine r_goto 28 dX9_manyOf_24 (by decide) ?_
          refine r_ist2 rfl (by decide) dX9_manyOf_28 ?_
          first | refine r_incN3 rfl (by decide) dX9_manyOf_29 ?_ | refine r_incP3 rfl (by decide) dX9_manyOf_29 ?_
          refine r_goto 4 dX9_manyOf_32 (by decide) ?_
          have hb1 := hb l hlk
          have hm := hmx l (by omega)
          first
            | (have hlt := (nI_ltI (by omega) (by omega)).mp c_16
               exact ih (l + 1) _ (by omega) (by omega) (by rw [mx, show max (mx c l) (c l + 1) = mx c l by omega]))
            | (have hge : ¬ c l < mx c l := fun q => c_16 (nI_lt q (by omega))
               exact ih (l + 1) _ (by omega) (by omega) (by rw [mx, show max (mx c l) (c l + 1) = c l + 1 by omega]))
  refine r_iconst (v := nI 0) (by decide) dX9_manyOf_0 ?_
  refine r_ist2 rfl (by decide) dX9_manyOf_1 ?_
  refine r_iconst (v := nI 0) (by decide) dX9_manyOf_2 ?_
  refine r_ist3 rfl (by decide) dX9_manyOf_3 ?_
  exact loop (n + 1) 0 _ (by omega) (by omega) rfl

