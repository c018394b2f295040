/-- the best set and its good, of the sets 1 to t -/
def ppF (E : Ec) (r : Nat → Int32) (k : Nat) : Nat → Int32 × Int32
  | 0 => (-6, -6)
  | t + 1 => if bt (nI (t + 1)) k then (if allG E r (nI (t + 1)) then (if goodS E (gath r (nI (t + 1))) k ≤ (ppF E r k t).2 then ppF E r k t else (nI (t + 1), goodS E (gath r (nI (t + 1))) k)) else ppF E r k t) else ppF E r k t

set_option maxRecDepth 100000 in
set_option maxHeartbeats 400000 in
theorem c_proposek {g : GG} {n m b k : Nat} {w : Int32} {h : Hp} {c : Nat → Nat} (I : CI g h n c m b) (hk : k < n) : R g mX8_propose 0 [some (.ref (ad g 0)), some (.int (nI k)), some (.int w), none, none, none, none] [] h (Ri fun v h' => ((w < 0 ∨ 1 < w) ∧ v = -2 ∧ h' = h) ∨ (¬ w < 0 ∧ w ≤ 1 ∧ v = (if w = 0 then (ppF (eH h 3 n) (lab c) k (2 ^ n - 1)).1 else (ppF (eH h 3 n) (lab c) k (2 ^ n - 1)).2) ∧ CP g h h' n c m b (eH h 3 n) (h 55))) := by
  have hn6 := I.1.2.1
  have h0 : h 3 0 = nI n := I.1.2.2.1
  have hp6 := pow6 hn6
  have loop : ¬ w < 0 → w ≤ 1 → ∀ (z t : Nat) (hh : Hp) (x3 x4 : Int32) (y : Option Value), t + 1 ≤ 2 ^ n → 2 ^ n ≤ t + z → x3 = (ppF (eH h 3 n) (lab c) k t).1 → x4 = (ppF (eH h 3 n) (lab c) k t).2 → KeepJ 2 h hh → GC hh 2 n → R g mX8_propose 32 [some (.ref (ad g 0)), some (.int (nI k)), some (.int w), some (.int x3), some (.int x4), some (.int (nI (t + 1))), y] [] hh (Ri fun v h' => ((w < 0 ∨ 1 < w) ∧ v = -2 ∧ h' = h) ∨ (¬ w < 0 ∧ w ≤ 1 ∧ v = (if w = 0 then (ppF (eH h 3 n) (lab c) k (2 ^ n - 1)).1 else (ppF (eH h 3 n) (lab c) k (2 ^ n - 1)).2) ∧ CP g h h' n c m b (eH h 3 n) (h 55))) := by
    intro hw1 hw2 z
    induction z with
    | zero => intro t hh x3 x4 y a b; omega
    | succ z ih =>
      intro t hh x3 x4 y a b e3 e4 k1 g1
      subst e3; subst e4
      refine r_iload rfl dX8_propose_32 ?_
      refine r_iconst (v := (1 : Int32)) (by decide) dX8_propose_34 ?_
      refine r_aload_n rfl dX8_propose_35 ?_
      refine r_getR foX8_23 rfl rfl dX8_propose_36 ?_
      refine r_getI foX8_73 rfl rfl dX8_propose_39 ?_
      rw [k1 3 (by omega), h0]
      refine r_ishl dX8_propose_42 ?_
      rw [shl1 hn6]
      refine r_icmp_ge 108 dX8_propose_43 (by decide) (fun c_43 => ?_) (fun c_43 => ?_)
      · have e : t = 2 ^ n - 1 := by have := ge_y (by omega) (by omega) c_43; omega
        subst e
        refine r_iload_n rfl dX8_propose_108 ?_
        refine r_if_ne 116 dX8_propose_109 (by decide) (fun c_109 => ?_) (fun c_109 => ?_)
        · refine r_iload rfl dX8_propose_116 ?_
          refine ret_i dX8_propose_118 rfl ?_
          first
            | exact Or.inr ⟨hw1, hw2, by rw [if_pos c_109], CP.judg I (fun q a _ => k1 q (by omega)) g1⟩
            | exact Or.inr ⟨hw1, hw2, by rw [if_neg c_109], CP.judg I (fun q a _ => k1 q (by omega)) g1⟩
        · refine r_iload_n rfl dX8_propose_112 ?_
          refine r_goto 118 dX8_propose_113 (by decide) ?_
          refine ret_i dX8_propose_118 rfl ?_
          first
            | exact Or.inr ⟨hw1, hw2, by rw [if_pos c_109], CP.judg I (fun q a _ => k1 q (by omega)) g1⟩
            | exact Or.inr ⟨hw1, hw2, by rw [if_neg c_109], CP.judg I (fun q a _ => k1 q (by omega)) g1⟩
      · have hlk : t + 1 < 2 ^ n := ge_n (by omega) c_43
        refine r_iload rfl dX8_propose_46 ?_
        refine r_iload_n rfl dX8_propose_48 ?_
        refine r_ishr dX8_propose_49 ?_
        refine r_iconst (v := (1 : Int32)) (by decide) dX8_propose_50 ?_
        refine r_iand dX8_propose_51 ?_
        refine r_iconst (v := (1 : Int32)) (by decide) dX8_propose_52 ?_
        refine r_icmp_ne 102 dX8_propose_53 (by decide) (fun c_53 => ?_) (fun c_53 => ?_)
        · first | refine r_incN5 rfl (by decide) dX8_propose_102 ?_ | refine r_incP5 rfl (by decide) dX8_propose_102 ?_
          refine r_goto 32 dX8_propose_105 (by decide) ?_
          first
            | exact ih (t + 1) _ _ _ _ (by omega) (by omega) (by rw [ppF, if_neg c_53]) (by rw [ppF, if_neg c_53]) k1 g1
            | (have na : ¬ allG (eH h 3 n) (lab c) (nI (t + 1)) := fun z => by rw [if_pos z] at c_69; exact absurd c_69 (by decide)
               exact ih (t + 1) _ _ _ _ (by omega) (by omega) (by rw [ppF, if_pos c_53, if_neg na]) (by rw [ppF, if_pos c_53, if_neg na]) kx gx)
            | (have na : allG (eH h 3 n) (lab c) (nI (t + 1)) := Decidable.byContradiction fun z => c_69 (if_neg z)
               first
                 | exact ih (t + 1) _ _ _ _ (by omega) (by omega) (by rw [ppF, if_pos c_53, if_pos na, if_pos c_92]) (by rw [ppF, if_pos c_53, if_pos na, if_pos c_92]) ky gy
                 | exact ih (t + 1) _ _ _ _ (by omega) (by omega) (by rw [ppF, if_pos c_53, if_pos na, if_neg c_92]) (by rw [ppF, if_pos c_53, if_pos na, if_neg c_92]) ky gy)
        · refine r_aload_n rfl dX8_propose_56 ?_
          refine r_getR foX8_10 rfl rfl dX8_propose_57 ?_
          refine r_aload_n rfl dX8_propose_60 ?_
          refine r_getR foX8_60 rfl rfl dX8_propose_61 ?_
          refine r_iload rfl dX8_propose_64 ?_
          refine r_cV2i (T := TX2) (N := 3) moX2_wouldAllGain lkX8_208 rfl rfl (Nat.le_of_ble_eq_true rfl) ⟨by decide, by decide⟩ (Nat.le_of_ble_eq_true rfl) dX8_propose_66 rfl (c_wouldAllGain jd1 pa56 (Or.inl (by omega)) (k1.JI I.1 g1) I.2.2.2.1 (k1.PS (Or.inl (by omega)) I.2.2.2.2.1)) (fun v21 h21 q21 => ?_)
          obtain ⟨ea, kx, gx⟩ := q21
          have kx := k1.trans kx
          rw [show eH hh (2 + 1) n = eH h 3 n from k1.eH] at ea
          subst ea
          refine r_if_eq 102 dX8_propose_69 (by decide) (fun c_69 => ?_) (fun c_69 => ?_)
          · first | refine r_incN5 rfl (by decide) dX8_propose_102 ?_ | refine r_incP5 rfl (by decide) dX8_propose_102 ?_
            refine r_goto 32 dX8_propose_105 (by decide) ?_
            first
              | exact ih (t + 1) _ _ _ _ (by omega) (by omega) (by rw [ppF, if_neg c_53]) (by rw [ppF, if_neg c_53]) k1 g1
              | (have na : ¬ allG (eH h 3 n) (lab c) (nI (t + 1)) := fun z => by rw [if_pos z] at c_69; exact absurd c_69 (by decide)
                 exact ih (t + 1) _ _ _ _ (by omega) (by omega) (by rw [ppF, if_pos c_53, if_neg na]) (by rw [ppF, if_pos c_53, if_neg na]) kx gx)
              | (have na : allG (eH h 3 n) (lab c) (nI (t + 1)) := Decidable.byContradiction fun z => c_69 (if_neg z)
                 first
                   | exact ih (t + 1) _ _ _ _ (by omega) (by omega) (by rw [ppF, if_pos c_53, if_pos na, if_pos c_92]) (by rw [ppF, if_pos c_53, if_pos na, if_pos c_92]) ky gy
                   | exact ih (t + 1) _ _ _ _ (by omega) (by omega) (by rw [ppF, if_pos c_53, if_pos na, if_neg c_92]) (by rw [ppF, if_pos c_53, if_pos na, if_neg c_92]) ky gy)
          · refine r_aload_n rfl dX8_propose_72 ?_
            refine r_getR foX8_10 rfl rfl dX8_propose_73 ?_
            refine r_aload_n rfl dX8_propose_76 ?_
            refine r_getR foX8_60 rfl rfl dX8_propose_77 ?_
            refine r_iload rfl dX8_propose_80 ?_
            refine r_iload_n rfl dX8_propose_82 ?_
            refine r_cV3i (T := TX2) (N := 3) moX2_goodGathered lkX8_212 rfl rfl (Nat.le_of_ble_eq_true rfl) ⟨by decide, by decide⟩ (Nat.le_of_ble_eq_true rfl) dX8_propose_83 rfl (c_goodGathered jd1 pa56 (Or.inl (by omega)) (kx.JI I.1 gx) I.2.2.2.1 (kx.PS (Or.inl (by omega)) I.2.2.2.2.1) hk) (fun v22 h22 q22 => ?_)
            obtain ⟨ea, ky, gy⟩ := q22
            have ky := kx.trans ky
            rw [kx.eH] at ea
            subst ea
            refine r_ist6 rfl (by decide) dX8_propose_86 ?_
            refine r_iload rfl dX8_propose_88 ?_
            refine r_iload rfl dX8_propose_90 ?_
            refine r_icmp_le 102 dX8_propose_92 (by decide) (fun c_92 => ?_) (fun c_92 => ?_)
            · first | refine r_incN5 rfl (by decide) dX8_propose_102 ?_ | refine r_incP5 rfl (by decide) dX8_propose_102 ?_
              refine r_goto 32 dX8_propose_105 (by decide) ?_
              first
                | exact ih (t + 1) _ _ _ _ (by omega) (by omega) (by rw [ppF, if_neg c_53]) (by rw [ppF, if_neg c_53]) k1 g1
                | (have na : ¬ allG (eH h 3 n) (lab c) (nI (t + 1)) := fun z => by rw [if_pos z] at c_69; exact absurd c_69 (by decide)
                   exact ih (t + 1) _ _ _ _ (by omega) (by omega) (by rw [ppF, if_pos c_53, if_neg na]) (by rw [ppF, if_pos c_53, if_neg na]) kx gx)
                | (have na : allG (eH h 3 n) (lab c) (nI (t + 1)) := Decidable.byContradiction fun z => c_69 (if_neg z)
                   first
                     | exact ih (t + 1) _ _ _ _ (by omega) (by omega) (by rw [ppF, if_pos c_53, if_pos na, if_pos c_92]) (by rw [ppF, if_pos c_53, if_pos na, if_pos c_92]) ky gy
                     | exact ih (t + 1) _ _ _ _ (by omega) (by omega) (by rw [ppF, if_pos c_53, if_pos na, if_neg c_92]) (by rw [ppF, if_pos c_53, if_pos na, if_neg c_92]) ky gy)
            · refine r_iload rfl dX8_propose_95 ?_
              refine r_ist3 rfl (by decide) dX8_propose_97 ?_
              refine r_iload rfl dX8_propose_98 ?_
              refine r_ist4 rfl (by decide) dX8_propose_100 ?_
              first | refine r_incN5 rfl (by decide) dX8_propose_102 ?_ | refine r_incP5 rfl (by decide) dX8_propose_102 ?_
              refine r_goto 32 dX8_propose_105 (by decide) ?_
              first
                | exact ih (t + 1) _ _ _ _ (by omega) (by omega) (by rw [ppF, if_neg c_53]) (by rw [ppF, if_neg c_53]) k1 g1
                | (have na : ¬ allG (eH h 3 n) (lab c) (nI (t + 1)) := fun z => by rw [if_pos z] at c_69; exact absurd c_69 (by decide)
                   exact ih (t + 1) _ _ _ _ (by omega) (by omega) (by rw [ppF, if_pos c_53, if_neg na]) (by rw [ppF, if_pos c_53, if_neg na]) kx gx)
                | (have na : allG (eH h 3 n) (lab c) (nI (t + 1)) := Decidable.byContradiction fun z => c_69 (if_neg z)
                   first
                     | exact ih (t + 1) _ _ _ _ (by omega) (by omega) (by rw [ppF, if_pos c_53, if_pos na, if_pos c_92]) (by rw [ppF, if_pos c_53, if_pos na, if_pos c_92]) ky gy
                     | exact ih (t + 1) _ _ _ _ (by omega) (by omega) (by rw [ppF, if_pos c_53, if_pos na, if_neg c_92]) (by rw [ppF, if_pos c_53, if_pos na, if_neg c_92]) ky gy)
  refine r_aload_n rfl dX8_propose_0 ?_
  refine r_iload_n rfl dX8_propose_1 ?_
  refine r_cV1i (T := TX8) (N := 10) moX8_isLand lkX8_84 rfl rfl (Nat.le_of_ble_eq_true rfl) ⟨by decide, by decide⟩ (Nat.le_of_ble_eq_true rfl) dX8_propose_2 rfl (c_isLand (n := n) h0) (fun v1 h1 q1 => ?_)
  obtain ⟨e1, f1⟩ := q1
  subst f1
  rw [e1]
  refine r_if_ne 10 dX8_propose_5 (by decide) (fun c_5 => ?_) (fun c_5 => ?_)
  · refine r_iload_n rfl dX8_propose_10 ?_
    refine r_if_lt 19 dX8_propose_11 (by decide) (fun c_11 => ?_) (fun c_11 => ?_)
    · refine r_bipush (v := (-2 : Int32)) (by decide) dX8_propose_19 ?_
      refine ret_i dX8_propose_21 rfl ?_
      exact Or.inl ⟨by first | exact Or.inl c_11 | exact Or.inr (Int32.not_le.mp c_16), rfl, rfl⟩
    · refine r_iload_n rfl dX8_propose_14 ?_
      refine r_iconst (v := (1 : Int32)) (by decide) dX8_propose_15 ?_
      refine r_icmp_le 22 dX8_propose_16 (by decide) (fun c_16 => ?_) (fun c_16 => ?_)
      · refine r_bipush (v := (-6 : Int32)) (by decide) dX8_propose_22 ?_
        refine r_ist3 rfl (by decide) dX8_propose_24 ?_
        refine r_bipush (v := (-6 : Int32)) (by decide) dX8_propose_25 ?_
        refine r_ist4 rfl (by decide) dX8_propose_27 ?_
        refine r_iconst (v := nI 1) (by decide) dX8_propose_29 ?_
        refine r_ist5 rfl (by decide) dX8_propose_30 ?_
        exact loop c_11 c_16 (2 ^ n) 0 _ _ _ _ (by omega) (by omega) rfl rfl KeepJ.refl I.1.2.2.2.2
      · refine r_bipush (v := (-2 : Int32)) (by decide) dX8_propose_19 ?_
        refine ret_i dX8_propose_21 rfl ?_
        exact Or.inl ⟨by first | exact Or.inl c_11 | exact Or.inr (Int32.not_le.mp c_16), rfl, rfl⟩
  · refine r_iconst (v := (-1 : Int32)) (by decide) dX8_propose_8 ?_
    refine ret_i dX8_propose_9 rfl ?_
    exact absurd (c_5.symm.trans (isL_k (by omega) hk)) (by decide)

set_option maxRecDepth 100000 in
set_option maxHeartbeats 400000 in
theorem c_propose {g : GG} {n m b : Nat} {x w : Int32} {h : Hp} {c : Nat → Nat} (I : CI g h n c m b) : R g mX8_propose 0 [some (.ref (ad g 0)), some (.int x), some (.int w), none, none, none, none] [] h (Ri fun v h' => (isL n x = 0 ∧ v = -1 ∧ h' = h) ∨ ∃ k, k < n ∧ x = nI k ∧ (((w < 0 ∨ 1 < w) ∧ v = -2 ∧ h' = h) ∨ (¬ w < 0 ∧ w ≤ 1 ∧ v = (if w = 0 then (ppF (eH h 3 n) (lab c) k (2 ^ n - 1)).1 else (ppF (eH h 3 n) (lab c) k (2 ^ n - 1)).2) ∧ CP g h h' n c m b (eH h 3 n) (h 55)))) := by
  have hn6 := I.1.2.1
  have h0 : h 3 0 = nI n := I.1.2.2.1
  by_cases hx : isL n x = 0
  · have hz : True := trivial
    refine r_aload_n rfl dX8_propose_0 ?_
    refine r_iload_n rfl dX8_propose_1 ?_
    refine r_cV1i (T := TX8) (N := 10) moX8_isLand lkX8_84 rfl rfl (Nat.le_of_ble_eq_true rfl) ⟨by decide, by decide⟩ (Nat.le_of_ble_eq_true rfl) dX8_propose_2 rfl (c_isLand (n := n) h0) (fun v1 h1 q1 => ?_)
    obtain ⟨e1, f1⟩ := q1
    subst f1
    rw [e1]
    refine r_if_ne 10 dX8_propose_5 (by decide) (fun c_5 => ?_) (fun c_5 => ?_)
    · exact absurd hx c_5
    · refine r_iconst (v := (-1 : Int32)) (by decide) dX8_propose_8 ?_
      refine ret_i dX8_propose_9 rfl ?_
      exact Or.inl ⟨c_5, rfl, rfl⟩
  · obtain ⟨k, hk, rfl⟩ := isL_y (by omega) hx
    exact Ri.imp (c_proposek I hk) (fun v h' q => Or.inr ⟨k, hk, rfl, q⟩)

