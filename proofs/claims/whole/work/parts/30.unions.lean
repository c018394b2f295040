theorem jd1 : JudgeAt 1 2 := ⟨rfl, ⟨rfl, ⟨rfl, rfl, rfl, rfl, rfl⟩, ⟨rfl, rfl, rfl, rfl, rfl, rfl, rfl⟩, rfl, rfl⟩, ⟨rfl, rfl, rfl⟩⟩
theorem jd2 : JudgeAt 20 21 := ⟨rfl, ⟨rfl, ⟨rfl, rfl, rfl, rfl, rfl⟩, ⟨rfl, rfl, rfl, rfl, rfl, rfl, rfl⟩, rfl, rfl⟩, ⟨rfl, rfl, rfl⟩⟩
theorem pa56 : PartAt 56 := ⟨rfl, rfl, rfl⟩
theorem pa59 : PartAt 59 := ⟨rfl, rfl, rfl⟩
theorem la3 : LandAt 3 := ⟨rfl, rfl, rfl, rfl, rfl⟩
theorem la22 : LandAt 22 := ⟨rfl, rfl, rfl, rfl, rfl⟩
theorem ma47 : MarkAt 47 := ⟨rfl, rfl, rfl, rfl, rfl, rfl, rfl⟩
theorem ve39 : VerdAt 39 := ⟨rfl, rfl, rfl⟩
theorem jo42 : JouAt 42 := ⟨rfl, ⟨rfl, rfl, rfl⟩, rfl⟩
theorem pd54 : PadAt 54 := ⟨rfl, rfl⟩
/-- nothing was reckoned at a later version -/
def RB (h : Hp) (G : Nat) : Prop := ∃ ver, h (G + 1) 3 = nI ver ∧ 0 < ver ∧ ver < 2 ^ 30 ∧ ∀ p, p < 203 → ∃ a, h (G + 13) p = nI a ∧ a ≤ ver
theorem GC.rb {h : Hp} {G n : Nat} (H : GC h G n) : RB h G := by
  obtain ⟨ver, g1, g2, g3, g4, g5⟩ := H
  exact ⟨ver, g1, g2, g3, g4⟩
theorem RB.keep {h h' : Hp} {G : Nat} (H : RB h G) (h1 : h' (G + 1) 3 = h (G + 1) 3) (h2 : h' (G + 13) = h (G + 13)) : RB h' G := by
  obtain ⟨ver, g1, g2, g3, g4⟩ := H
  exact ⟨ver, by rw [h1]; exact g1, g2, g3, fun p hp => by rw [h2]; exact g4 p hp⟩

/-- a new version: nothing is kept -/
theorem RB.bump {h h' : Hp} {G n b : Nat} (hn : n ≤ 6) (H : RB h G) (hb : h (G + 1) 3 = nI b) (hb2 : b < 2 ^ 29) (h1 : h' (G + 1) 3 = h (G + 1) 3 + 1) (h2 : h' (G + 13) = h (G + 13)) : GC h' G n := by
  obtain ⟨ver, g1, g2, g3, g4⟩ := H
  have e : ver = b := nI_inj (by omega) (by omega) (by rw [← g1, hb])
  subst e
  refine ⟨ver + 1, by rw [h1, g1]; exact nI_1 _, by omega, by omega, fun p hp => ?_, fun c hc he => ?_⟩
  · obtain ⟨a, a1, a2⟩ := g4 p hp
    exact ⟨a, by rw [h2]; exact a1, by omega⟩
  · obtain ⟨a, a1, a2⟩ := g4 _ (plc_lt hn hc)
    rw [h2, a1] at he
    have := nI_inj (by omega) (by omega) he
    omega
theorem VC.bump {h h' : Hp} {V G n n' b : Nat} (hn : n' ≤ 6) (H : VC h V G n) (hb : h (G + 1) 3 = nI b) (hb2 : b < 2 ^ 29) (h1 : h' (G + 1) 3 = h (G + 1) 3 + 1) (h2 : h' (V + 1) = h (V + 1)) : VC h' V G n' := by
  obtain ⟨ver, g1, g2, g3, g4, g5⟩ := H
  have e : ver = b := nI_inj (by omega) (by omega) (by rw [← g1, hb])
  subst e
  refine ⟨ver + 1, by rw [h1, g1]; exact nI_1 _, by omega, by omega, fun p hp => ?_, fun c rest hr hc he => ?_⟩
  · obtain ⟨a, a1, a2⟩ := g4 p hp
    exact ⟨a, by rw [h2]; exact a1, by omega⟩
  · have := plc_lt hn hc
    obtain ⟨a, a1, a2⟩ := g4 (rest * 203 + plc n' c n') (by omega)
    rw [h2, a1] at he
    have := nI_inj (by omega) (by omega) he
    omega
/-- the class: n lands, the parting c, m signs, versions at most b -/
def CI (g : GG) (h : Hp) (n : Nat) (c : Nat → Nat) (m b : Nat) : Prop := JI g h 2 n ∧ VC h 39 2 n ∧ RB h 21 ∧ Can n c ∧ PS h 56 n c ∧ (h 54 0 = nI m ∧ m ≤ 20) ∧ (∃ v, h 3 3 = nI v ∧ v ≤ b) ∧ ∃ v, h 22 3 = nI v ∧ v ≤ b
/-- x is one of the first n -/
def isL (n : Nat) (x : Int32) : Int32 := if x < 0 then 0 else if nI n ≤ x then 0 else 1
theorem isL_01 (n : Nat) (x : Int32) : isL n x = 0 ∨ isL n x = 1 := by
  rw [isL]
  split
  · exact Or.inl rfl
  · split
    · exact Or.inl rfl
    · exact Or.inr rfl
theorem isL_y {n : Nat} {x : Int32} (hn : n < 2 ^ 31) (h : ¬ isL n x = 0) : ∃ k, k < n ∧ x = nI k := by
  rw [isL] at h
  by_cases q : x < 0
  · rw [if_pos q] at h; exact absurd rfl h
  · rw [if_neg q] at h
    obtain ⟨k, hk, e⟩ := nI_of q
    by_cases z : nI n ≤ x
    · rw [if_pos z] at h; exact absurd rfl h
    · refine ⟨k, ?_, e⟩
      rcases Nat.lt_or_ge k n with y | y
      · exact y
      · exact absurd (by rw [e]; exact nI_le y hk) z
theorem isL_k {n k : Nat} (hn : n < 2 ^ 31) (hk : k < n) : isL n (nI k) = 1 := by
  rw [isL, if_neg (nI_pos (by omega)), if_neg (nI_ge hk hn)]

set_option maxRecDepth 100000 in
set_option maxHeartbeats 400000 in
theorem c_isLand {g : GG} {n : Nat} {x : Int32} {h : Hp} (h0 : h 3 0 = nI n) : R g mX8_isLand 0 [some (.ref (ad g 0)), some (.int x)] [] h (Ri fun v h' => h' = h ∧ v = isL n x) := by
  refine r_iload_n rfl dX8_isLand_0 ?_
  refine r_if_lt 19 dX8_isLand_1 (by decide) (fun c_1 => ?_) (fun c_1 => ?_)
  · refine r_iconst (v := (0 : Int32)) (by decide) dX8_isLand_19 ?_
    refine ret_z dX8_isLand_20 rfl (by decide) ?_
    first
      | exact ⟨rfl, by rw [isL, if_pos c_1]⟩
      | exact ⟨rfl, by rw [isL, if_neg c_1, if_pos c_12]⟩
      | exact ⟨rfl, by rw [isL, if_neg c_1, if_neg c_12]⟩
  · refine r_iload_n rfl dX8_isLand_4 ?_
    refine r_aload_n rfl dX8_isLand_5 ?_
    refine r_getR foX8_23 rfl rfl dX8_isLand_6 ?_
    refine r_getI foX8_73 rfl rfl dX8_isLand_9 ?_
    rw [h0]
    refine r_icmp_ge 19 dX8_isLand_12 (by decide) (fun c_12 => ?_) (fun c_12 => ?_)
    · refine r_iconst (v := (0 : Int32)) (by decide) dX8_isLand_19 ?_
      refine ret_z dX8_isLand_20 rfl (by decide) ?_
      first
        | exact ⟨rfl, by rw [isL, if_pos c_1]⟩
        | exact ⟨rfl, by rw [isL, if_neg c_1, if_pos c_12]⟩
        | exact ⟨rfl, by rw [isL, if_neg c_1, if_neg c_12]⟩
    · refine r_iconst (v := (1 : Int32)) (by decide) dX8_isLand_15 ?_
      refine r_goto 20 dX8_isLand_16 (by decide) ?_
      refine ret_z dX8_isLand_20 rfl (by decide) ?_
      first
        | exact ⟨rfl, by rw [isL, if_pos c_1]⟩
        | exact ⟨rfl, by rw [isL, if_neg c_1, if_pos c_12]⟩
        | exact ⟨rfl, by rw [isL, if_neg c_1, if_neg c_12]⟩

set_option maxRecDepth 100000 in
set_option maxHeartbeats 400000 in
theorem c_isUnion {g : GG} {n : Nat} {x : Int32} {h : Hp} (h0 : h 56 1 = nI n) : R g mX8_isUnion 0 [some (.ref (ad g 0)), some (.int x)] [] h (Ri fun v h' => h' = h ∧ v = isL n x) := by
  refine r_iload_n rfl dX8_isUnion_0 ?_
  refine r_if_lt 19 dX8_isUnion_1 (by decide) (fun c_1 => ?_) (fun c_1 => ?_)
  · refine r_iconst (v := (0 : Int32)) (by decide) dX8_isUnion_19 ?_
    refine ret_z dX8_isUnion_20 rfl (by decide) ?_
    first
      | exact ⟨rfl, by rw [isL, if_pos c_1]⟩
      | exact ⟨rfl, by rw [isL, if_neg c_1, if_pos c_12]⟩
      | exact ⟨rfl, by rw [isL, if_neg c_1, if_neg c_12]⟩
  · refine r_iload_n rfl dX8_isUnion_4 ?_
    refine r_aload_n rfl dX8_isUnion_5 ?_
    refine r_getR foX8_60 rfl rfl dX8_isUnion_6 ?_
    refine r_getI foX8_120 rfl rfl dX8_isUnion_9 ?_
    rw [h0]
    refine r_icmp_ge 19 dX8_isUnion_12 (by decide) (fun c_12 => ?_) (fun c_12 => ?_)
    · refine r_iconst (v := (0 : Int32)) (by decide) dX8_isUnion_19 ?_
      refine ret_z dX8_isUnion_20 rfl (by decide) ?_
      first
        | exact ⟨rfl, by rw [isL, if_pos c_1]⟩
        | exact ⟨rfl, by rw [isL, if_neg c_1, if_pos c_12]⟩
        | exact ⟨rfl, by rw [isL, if_neg c_1, if_neg c_12]⟩
    · refine r_iconst (v := (1 : Int32)) (by decide) dX8_isUnion_15 ?_
      refine r_goto 20 dX8_isUnion_16 (by decide) ?_
      refine ret_z dX8_isUnion_20 rfl (by decide) ?_
      first
        | exact ⟨rfl, by rw [isL, if_pos c_1]⟩
        | exact ⟨rfl, by rw [isL, if_neg c_1, if_pos c_12]⟩
        | exact ⟨rfl, by rw [isL, if_neg c_1, if_neg c_12]⟩

set_option maxRecDepth 100000 in
set_option maxHeartbeats 400000 in
theorem c_isRest {g : GG} {n : Nat} {x : Int32} {h : Hp}  : R g mX8_isRest 0 [some (.int x)] [] h (Ri fun v h' => h' = h ∧ v = isL 3 x) := by
  refine r_iload_n rfl dX8_isRest_0 ?_
  refine r_if_lt 13 dX8_isRest_1 (by decide) (fun c_1 => ?_) (fun c_1 => ?_)
  · refine r_iconst (v := (0 : Int32)) (by decide) dX8_isRest_13 ?_
    refine ret_z dX8_isRest_14 rfl (by decide) ?_
    first
      | exact ⟨rfl, by rw [isL, if_pos c_1]⟩
      | exact ⟨rfl, by rw [isL, if_neg c_1, if_pos c_6]⟩
      | exact ⟨rfl, by rw [isL, if_neg c_1, if_neg c_6]⟩
  · refine r_iload_n rfl dX8_isRest_4 ?_
    refine r_iconst (v := nI 3) (by decide) dX8_isRest_5 ?_
    refine r_icmp_ge 13 dX8_isRest_6 (by decide) (fun c_6 => ?_) (fun c_6 => ?_)
    · refine r_iconst (v := (0 : Int32)) (by decide) dX8_isRest_13 ?_
      refine ret_z dX8_isRest_14 rfl (by decide) ?_
      first
        | exact ⟨rfl, by rw [isL, if_pos c_1]⟩
        | exact ⟨rfl, by rw [isL, if_neg c_1, if_pos c_6]⟩
        | exact ⟨rfl, by rw [isL, if_neg c_1, if_neg c_6]⟩
    · refine r_iconst (v := (1 : Int32)) (by decide) dX8_isRest_9 ?_
      refine r_goto 14 dX8_isRest_10 (by decide) ?_
      refine ret_z dX8_isRest_14 rfl (by decide) ?_
      first
        | exact ⟨rfl, by rw [isL, if_pos c_1]⟩
        | exact ⟨rfl, by rw [isL, if_neg c_1, if_pos c_6]⟩
        | exact ⟨rfl, by rw [isL, if_neg c_1, if_neg c_6]⟩

set_option maxRecDepth 100000 in
set_option maxHeartbeats 400000 in
theorem c_union {g : GG} {n m b : Nat} {x : Int32} {h : Hp} {c : Nat → Nat} (I : CI g h n c m b) : R g mX8_union 0 [some (.ref (ad g 0)), some (.int x)] [] h (Ri fun v h' => h' = h ∧ v = if isL n x = 0 then -1 else nI (c x.toNatClampNeg)) := by
  refine r_aload_n rfl dX8_union_0 ?_
  refine r_iload_n rfl dX8_union_1 ?_
  refine r_cV1i (T := TX8) (N := 10) moX8_isLand lkX8_84 rfl rfl (Nat.le_of_ble_eq_true rfl) ⟨by decide, by decide⟩ (Nat.le_of_ble_eq_true rfl) dX8_union_2 rfl (c_isLand (n := n) I.1.2.2.1) (fun v1 h1 q1 => ?_)
  obtain ⟨e1, f1⟩ := q1
  subst f1
  rw [e1]
  refine r_if_eq 20 dX8_union_5 (by decide) (fun c_5 => ?_) (fun c_5 => ?_)
  · refine r_iconst (v := (-1 : Int32)) (by decide) dX8_union_20 ?_
    refine ret_i dX8_union_21 rfl ?_
    first
      | exact ⟨rfl, by rw [if_pos c_5]⟩
      | exact ⟨rfl, by rw [if_neg c_5, ek, nI_clamp (by omega)]⟩
  · obtain ⟨k, hk, ek⟩ := isL_y (by have := I.1.2.1; omega) c_5
    have hn6 := I.1.2.1
    refine r_aload_n rfl dX8_union_8 ?_
    refine r_getR foX8_60 rfl rfl dX8_union_9 ?_
    refine r_getR foX8_123 rfl rfl dX8_union_12 ?_
    refine r_iload_n rfl dX8_union_15 ?_
    refine r_ild rfl ek (by omega) (by decide) dX8_union_16 ?_
    rw [I.2.2.2.2.1.2.2 k hk]
    refine r_goto 21 dX8_union_17 (by decide) ?_
    refine ret_i dX8_union_21 rfl ?_
    first
      | exact ⟨rfl, by rw [if_pos c_5]⟩
      | exact ⟨rfl, by rw [if_neg c_5, ek, nI_clamp (by omega)]⟩

set_option maxRecDepth 100000 in
set_option maxHeartbeats 400000 in
theorem c_fault {g : GG} {n m b : Nat} {h : Hp} {c : Nat → Nat} (I : CI g h n c m b) : R g mX8_fault 0 [some (.ref (ad g 0))] [] h (Ri fun v h' => h' = h ∧ v = (if n = 0 then 0 else ffF (h 55) (nI n) (nI (2 ^ n) - 1) m 0 0 0)) := by
  refine r_aload_n rfl dX8_fault_0 ?_
  refine r_getR foX8_53 rfl rfl dX8_fault_1 ?_
  refine r_aload_n rfl dX8_fault_4 ?_
  refine r_getR foX8_23 rfl rfl dX8_fault_5 ?_
  refine r_getI foX8_73 rfl rfl dX8_fault_8 ?_
  rw [show h 3 0 = nI n from I.1.2.2.1]
  refine r_cV1i (T := TX5) (N := 2) moX5_firstFault lkX8_112 rfl rfl (Nat.le_of_ble_eq_true rfl) ⟨by decide, by decide⟩ (Nat.le_of_ble_eq_true rfl) dX8_fault_11 rfl (c_firstFault pd54 I.1.2.1 I.2.2.2.2.2.1.1 I.2.2.2.2.2.1.2) (fun v1 h1 q1 => ?_)
  obtain ⟨e1, f1⟩ := q1
  subst f1
  rw [e1]
  refine ret_i dX8_fault_14 rfl ?_
  exact ⟨rfl, rfl⟩

theorem CI.pad {g : GG} {h h' : Hp} {n m m' b : Nat} {c : Nat → Nat} (I : CI g h n c m b) (hk : ∀ q, ¬ q = 54 → ¬ q = 55 → h' q = h q) (hm : h' 54 0 = nI m') (hm2 : m' ≤ 20) : CI g h' n c m' b := by
  obtain ⟨i1, i2, i3, i4, i5, i6, i7, i8⟩ := I
  refine ⟨i1.keep (fun q a b => hk q (by omega) (by omega)), i2.keep (hk _ (by omega) (by omega)) (hk _ (by omega) (by omega)) (by rw [hk _ (by omega) (by omega)]) (eH_keep (fun q a b => hk q (by omega) (by omega))), i3.keep (by rw [hk _ (by omega) (by omega)]) (hk _ (by omega) (by omega)), i4, i5.keep (fun q a b => hk q (by omega) (by omega)), ⟨hm, hm2⟩, by rw [hk _ (by omega) (by omega)]; exact i7, by rw [hk _ (by omega) (by omega)]; exact i8⟩

set_option maxRecDepth 100000 in
set_option maxHeartbeats 400000 in
theorem c_wipe {g : GG} {n m b : Nat} {h : Hp} {c : Nat → Nat} (I : CI g h n c m b) : R g mX8_wipe 0 [some (.ref (ad g 0)), none] [] h (Ri fun v h' => v = nI m ∧ CI g h' n c 0 b ∧ ∀ q, ¬ q = 54 → h' q = h q) := by
  refine r_aload_n rfl dX8_wipe_0 ?_
  refine r_getR foX8_53 rfl rfl dX8_wipe_1 ?_
  refine r_getI foX8_109 rfl rfl dX8_wipe_4 ?_
  rw [I.2.2.2.2.2.1.1]
  refine r_ist1 rfl (by decide) dX8_wipe_7 ?_
  refine r_aload_n rfl dX8_wipe_8 ?_
  refine r_getR foX8_53 rfl rfl dX8_wipe_9 ?_
  refine r_iconst (v := (0 : Int32)) (by decide) dX8_wipe_12 ?_
  refine r_putI fpX8_109 rfl rfl dX8_wipe_13 ?_
  refine r_iload_n rfl dX8_wipe_16 ?_
  refine ret_i dX8_wipe_17 rfl ?_
  exact ⟨rfl, I.pad (fun q a _ => hset_ne a) (by rw [hset_same, upd_eq]; rfl) (by omega), fun q a => hset_ne a⟩

set_option maxRecDepth 100000 in
set_option maxHeartbeats 400000 in
theorem c_say {g : GG} {n m b : Nat} {x : Int32} {h : Hp} {c : Nat → Nat} (I : CI g h n c m b) : R g mX8_say 0 [some (.ref (ad g 0)), some (.int x)] [] h (Ri fun v h' => ((x < 33 ∨ 126 < x) ∧ v = -2 ∧ h' = h) ∨ (¬ x < 33 ∧ x ≤ 126 ∧ m = 20 ∧ v = -4 ∧ h' = h) ∨ (¬ x < 33 ∧ x ≤ 126 ∧ m < 20 ∧ v = nI (m + 1) ∧ CI g h' n c (m + 1) b ∧ (∀ q, ¬ q = 54 → ¬ q = 55 → h' q = h q) ∧ h' 55 = upd (h 55) m x)) := by
  refine r_iload_n rfl dX8_say_0 ?_
  refine r_bipush (v := (33 : Int32)) (by decide) dX8_say_1 ?_
  refine r_icmp_lt 12 dX8_say_3 (by decide) (fun c_3 => ?_) (fun c_3 => ?_)
  · refine r_bipush (v := (-2 : Int32)) (by decide) dX8_say_12 ?_
    refine ret_i dX8_say_14 rfl ?_
    exact Or.inl ⟨by first | exact Or.inl c_3 | exact Or.inr (Int32.not_le.mp c_9), rfl, rfl⟩
  · refine r_iload_n rfl dX8_say_6 ?_
    refine r_bipush (v := (126 : Int32)) (by decide) dX8_say_7 ?_
    refine r_icmp_le 15 dX8_say_9 (by decide) (fun c_9 => ?_) (fun c_9 => ?_)
    · refine r_aload_n rfl dX8_say_15 ?_
      refine r_getR foX8_53 rfl rfl dX8_say_16 ?_
      refine r_getI foX8_109 rfl rfl dX8_say_19 ?_
      rw [I.2.2.2.2.2.1.1]
      refine r_bipush (v := nI 20) (by decide) dX8_say_22 ?_
      refine r_icmp_lt 30 dX8_say_24 (by decide) (fun c_24 => ?_) (fun c_24 => ?_)
      · have hm : m < 20 := by have := (nI_ltI (by have := I.2.2.2.2.2.1.2; omega) (by omega)).mp c_24; omega
        refine r_aload_n rfl dX8_say_30 ?_
        refine r_getR foX8_53 rfl rfl dX8_say_31 ?_
        refine r_iload_n rfl dX8_say_34 ?_
        refine r_cV1v (T := TX5) (N := 2) moX5_add lkX8_110 rfl rfl (Nat.le_of_ble_eq_true rfl) ⟨by decide, by decide⟩ (Nat.le_of_ble_eq_true rfl) dX8_say_35 rfl (c_addS pd54 I.2.2.2.2.2.1.1 hm) (fun h1 q1 => ?_)
        refine r_aload_n rfl dX8_say_38 ?_
        refine r_getR foX8_53 rfl rfl dX8_say_39 ?_
        refine r_getI foX8_109 rfl rfl dX8_say_42 ?_
        refine ret_i dX8_say_45 rfl ?_
        rw [q1]
        refine Or.inr (Or.inr ⟨c_3, c_9, hm, ?_, I.pad (fun q a b => by rw [hset_ne a, hset_ne b]) ?_ (by omega), fun q a b => by rw [hset_ne a, hset_ne b], ?_⟩)
        · rw [hset_same, upd_eq, hset_ne (by omega), I.2.2.2.2.2.1.1]; exact nI_1 m
        · rw [hset_same, upd_eq, hset_ne (by omega), I.2.2.2.2.2.1.1]; exact nI_1 m
        · rw [hset_ne (by omega), hset_same]
      · refine r_bipush (v := (-4 : Int32)) (by decide) dX8_say_27 ?_
        refine ret_i dX8_say_29 rfl ?_
        exact Or.inr (Or.inl ⟨c_3, c_9, by have := I.2.2.2.2.2.1.2; have : ¬ m < 20 := fun q => c_24 (nI_lt q (by omega)); omega, rfl, rfl⟩)
    · refine r_bipush (v := (-2 : Int32)) (by decide) dX8_say_12 ?_
      refine ret_i dX8_say_14 rfl ?_
      exact Or.inl ⟨by first | exact Or.inl c_3 | exact Or.inr (Int32.not_le.mp c_9), rfl, rfl⟩

