set_option maxRecDepth 100000 in
set_option maxHeartbeats 400000 in
theorem c_enterk {g : GG} {n m b k : Nat} {u w : Int32} {h : Hp} {c : Nat → Nat} (I : CI g h n c m b) (hk : k < n) : R g mX8_enter 0 [some (.ref (ad g 0)), some (.int (nI k)), some (.int u), some (.int w), none, none, none, none] [] h (Ri fun v h' => ((isL (mx c n) u = 0 ∨ lab c k = u ∨ w < 0 ∨ 1 < w) ∧ v = -1000000002 ∧ h' = h) ∨ (¬ isL (mx c n) u = 0 ∧ ¬ lab c k = u ∧ ¬ w < 0 ∧ w ≤ 1 ∧ v = (if w = 0 then goodS (eH h 3 n) (upd (lab c) k u) k - goodS (eH h 3 n) (lab c) k else enF (eH h 3 n) (lab c) k u n) ∧ CP g h h' n c m b (eH h 3 n) (h 55))) := by
  have hn6 := I.1.2.1
  have h0 : h 3 0 = nI n := I.1.2.2.1
  have loop : ¬ isL (mx c n) u = 0 → ¬ lab c k = u → ¬ w < 0 → w ≤ 1 → ¬ w = 0 → ∀ (hh : Hp) (c2 : Nat → Nat), CanOf n (upd (lab c) k u) c2 → Kp h hh → GC hh 2 n → Kn hh 2 n c → Kn hh 2 n c2 → ∀ (z l : Nat) (x6 : Int32), l ≤ n → n < l + z → x6 = enF (eH h 3 n) (lab c) k u l → R g mX8_enter 122 [some (.ref (ad g 0)), some (.int (nI k)), some (.int u), some (.int w), some (.int (nI (plc n c n * 6))), some (.int (nI (plc n c2 n * 6))), some (.int x6), some (.int (nI l))] [] hh (Ri fun v h' => ((isL (mx c n) u = 0 ∨ lab c k = u ∨ w < 0 ∨ 1 < w) ∧ v = -1000000002 ∧ h' = h) ∨ (¬ isL (mx c n) u = 0 ∧ ¬ lab c k = u ∧ ¬ w < 0 ∧ w ≤ 1 ∧ v = (if w = 0 then goodS (eH h 3 n) (upd (lab c) k u) k - goodS (eH h 3 n) (lab c) k else enF (eH h 3 n) (lab c) k u n) ∧ CP g h h' n c m b (eH h 3 n) (h 55))) := by
    intro hu hl hw1 hw2 hw0 hh c2 hc2 k1 g1 n1 m1 z
    have eE : eH hh 3 n = eH h 3 n := eH_keep (fun q a b => k1 q (by omega) (by omega))
    induction z with
    | zero => intro l x6 a b; omega
    | succ z ih =>
      intro l x6 a b e6
      subst e6
      refine r_iload rfl dX8_enter_122 ?_
      refine r_aload_n rfl dX8_enter_124 ?_
      refine r_getR foX8_23 rfl rfl dX8_enter_125 ?_
      refine r_getI foX8_73 rfl rfl dX8_enter_128 ?_
      rw [k1 3 (by omega) (by omega), h0]
      refine r_icmp_ge 182 dX8_enter_131 (by decide) (fun c_131 => ?_) (fun c_131 => ?_)
      · refine r_iload rfl dX8_enter_182 ?_
        refine ret_i dX8_enter_184 rfl ?_
        have e : l = n := by have := ge_y (by omega) (by omega) c_131; omega
        exact Or.inr ⟨hu, hl, hw1, hw2, by rw [if_neg hw0, e], CP.judg I k1 g1⟩
      · have hlk : l < n := ge_n (by omega) c_131
        refine r_aload_n rfl dX8_enter_134 ?_
        refine r_getR foX8_60 rfl rfl dX8_enter_135 ?_
        refine r_getR foX8_123 rfl rfl dX8_enter_138 ?_
        refine r_iload rfl dX8_enter_141 ?_
        refine r_ild rfl rfl (by omega) (by decide) dX8_enter_143 ?_
        rw [show hh (56 + 1) l = nI (c l) from (I.2.2.2.2.1.keep (fun q a b => k1 q (by omega) (by omega))).2.2 l hlk]
        refine r_iload_n rfl dX8_enter_144 ?_
        refine r_icmp_ne 176 dX8_enter_145 (by decide) (fun c_145 => ?_) (fun c_145 => ?_)
        · first | refine r_incN7 rfl (by decide) dX8_enter_176 ?_ | refine r_incP7 rfl (by decide) dX8_enter_176 ?_
          refine r_goto 122 dX8_enter_179 (by decide) ?_
          first
            | exact ih (l + 1) _ (by omega) (by omega) (by rw [enF, if_neg c_145])
            | exact ih (l + 1) _ (by omega) (by omega) (by rw [enF, if_pos c_145, ← good_canH hn6 hc2 hlk])
        · refine r_iload rfl dX8_enter_148 ?_
          refine r_aload_n rfl dX8_enter_150 ?_
          refine r_getR foX8_28 rfl rfl dX8_enter_151 ?_
          refine r_iload rfl dX8_enter_154 ?_
          refine r_iload rfl dX8_enter_156 ?_
          refine r_cV2i (T := TX0) (N := 4) moX0_at lkX8_164 rfl rfl (Nat.le_of_ble_eq_true rfl) ⟨by decide, by decide⟩ (Nat.le_of_ble_eq_true rfl) dX8_enter_158 rfl (c_at jd1.2.1 (plc_lt hn6 hc2.1) (by omega)) (fun v21 h21 q21 => ?_)
          obtain ⟨e21, f21⟩ := q21
          rw [e21, f21, g1.val hc2.1 m1 hlk, show eH hh (2 + 1) n = eH h 3 n from eE]
          refine r_aload_n rfl dX8_enter_161 ?_
          refine r_getR foX8_28 rfl rfl dX8_enter_162 ?_
          refine r_iload rfl dX8_enter_165 ?_
          refine r_iload rfl dX8_enter_167 ?_
          refine r_cV2i (T := TX0) (N := 4) moX0_at lkX8_164 rfl rfl (Nat.le_of_ble_eq_true rfl) ⟨by decide, by decide⟩ (Nat.le_of_ble_eq_true rfl) dX8_enter_169 rfl (c_at jd1.2.1 (plc_lt hn6 I.2.2.2.1) (by omega)) (fun v22 h22 q22 => ?_)
          obtain ⟨e22, f22⟩ := q22
          rw [e22, f22, g1.val I.2.2.2.1 n1 hlk, show eH hh (2 + 1) n = eH h 3 n from eE]
          refine r_isub dX8_enter_172 ?_
          refine r_iadd dX8_enter_173 ?_
          refine r_ist6 rfl (by decide) dX8_enter_174 ?_
          first | refine r_incN7 rfl (by decide) dX8_enter_176 ?_ | refine r_incP7 rfl (by decide) dX8_enter_176 ?_
          refine r_goto 122 dX8_enter_179 (by decide) ?_
          first
            | exact ih (l + 1) _ (by omega) (by omega) (by rw [enF, if_neg c_145])
            | exact ih (l + 1) _ (by omega) (by omega) (by rw [enF, if_pos c_145, ← good_canH hn6 hc2 hlk])
  refine r_aload_n rfl dX8_enter_0 ?_
  refine r_iload_n rfl dX8_enter_1 ?_
  refine r_cV1i (T := TX8) (N := 10) moX8_isLand lkX8_84 rfl rfl (Nat.le_of_ble_eq_true rfl) ⟨by decide, by decide⟩ (Nat.le_of_ble_eq_true rfl) dX8_enter_2 rfl (c_isLand (n := n) h0) (fun v1 h1 q1 => ?_)
  obtain ⟨e1, f1⟩ := q1
  subst f1
  rw [e1]
  refine r_if_ne 11 dX8_enter_5 (by decide) (fun c_5 => ?_) (fun c_5 => ?_)
  · refine r_aload_n rfl dX8_enter_11 ?_
    refine r_iload_n rfl dX8_enter_12 ?_
    refine r_cV1i (T := TX8) (N := 10) moX8_isUnion lkX8_217 rfl rfl (Nat.le_of_ble_eq_true rfl) ⟨by decide, by decide⟩ (Nat.le_of_ble_eq_true rfl) dX8_enter_13 rfl (c_isUnion (n := mx c n) I.2.2.2.2.1.2.1) (fun v2 h2 q2 => ?_)
    obtain ⟨e2, f2⟩ := q2
    subst f2
    rw [e2]
    refine r_if_eq 41 dX8_enter_16 (by decide) (fun c_16 => ?_) (fun c_16 => ?_)
    · refine r_ldc kcX8_220 dX8_enter_41 ?_
      refine ret_i dX8_enter_43 rfl ?_
      first
        | exact Or.inl ⟨Or.inl c_16, rfl, rfl⟩
        | exact Or.inl ⟨Or.inr (Or.inl c_29), rfl, rfl⟩
        | exact Or.inl ⟨Or.inr (Or.inr (Or.inl c_33)), rfl, rfl⟩
        | exact Or.inl ⟨Or.inr (Or.inr (Or.inr (Int32.not_le.mp c_38))), rfl, rfl⟩
    · refine r_aload_n rfl dX8_enter_19 ?_
      refine r_getR foX8_60 rfl rfl dX8_enter_20 ?_
      refine r_getR foX8_123 rfl rfl dX8_enter_23 ?_
      refine r_iload_n rfl dX8_enter_26 ?_
      refine r_ild rfl rfl (by omega) (by decide) dX8_enter_27 ?_
      rw [show h (56 + 1) k = nI (c k) from I.2.2.2.2.1.2.2 k hk]
      refine r_iload_n rfl dX8_enter_28 ?_
      refine r_icmp_eq 41 dX8_enter_29 (by decide) (fun c_29 => ?_) (fun c_29 => ?_)
      · refine r_ldc kcX8_220 dX8_enter_41 ?_
        refine ret_i dX8_enter_43 rfl ?_
        first
          | exact Or.inl ⟨Or.inl c_16, rfl, rfl⟩
          | exact Or.inl ⟨Or.inr (Or.inl c_29), rfl, rfl⟩
          | exact Or.inl ⟨Or.inr (Or.inr (Or.inl c_33)), rfl, rfl⟩
          | exact Or.inl ⟨Or.inr (Or.inr (Or.inr (Int32.not_le.mp c_38))), rfl, rfl⟩
      · refine r_iload_n rfl dX8_enter_32 ?_
        refine r_if_lt 41 dX8_enter_33 (by decide) (fun c_33 => ?_) (fun c_33 => ?_)
        · refine r_ldc kcX8_220 dX8_enter_41 ?_
          refine ret_i dX8_enter_43 rfl ?_
          first
            | exact Or.inl ⟨Or.inl c_16, rfl, rfl⟩
            | exact Or.inl ⟨Or.inr (Or.inl c_29), rfl, rfl⟩
            | exact Or.inl ⟨Or.inr (Or.inr (Or.inl c_33)), rfl, rfl⟩
            | exact Or.inl ⟨Or.inr (Or.inr (Or.inr (Int32.not_le.mp c_38))), rfl, rfl⟩
        · refine r_iload_n rfl dX8_enter_36 ?_
          refine r_iconst (v := (1 : Int32)) (by decide) dX8_enter_37 ?_
          refine r_icmp_le 44 dX8_enter_38 (by decide) (fun c_38 => ?_) (fun c_38 => ?_)
          · refine r_aload_n rfl dX8_enter_44 ?_
            refine r_getR foX8_64 rfl rfl dX8_enter_45 ?_
            refine r_aload_n rfl dX8_enter_48 ?_
            refine r_getR foX8_60 rfl rfl dX8_enter_49 ?_
            refine r_cV1v (T := TX6) (N := 4) moX6_copy lkX8_221 rfl rfl (Nat.le_of_ble_eq_true rfl) ⟨by decide, by decide⟩ (Nat.le_of_ble_eq_true rfl) dX8_enter_52 rfl (c_copyP (n := n) (c := c) pa59 pa56 (by omega) hn6 I.2.2.2.2.1) (fun h3 q3 => ?_)
            obtain ⟨ka, sa⟩ := q3
            refine r_aload_n rfl dX8_enter_55 ?_
            refine r_getR foX8_64 rfl rfl dX8_enter_56 ?_
            refine r_iload_n rfl dX8_enter_59 ?_
            refine r_iload_n rfl dX8_enter_60 ?_
            refine r_cV2v (T := TX6) (N := 4) moX6_move lkX8_223 rfl rfl (Nat.le_of_ble_eq_true rfl) ⟨by decide, by decide⟩ (Nat.le_of_ble_eq_true rfl) dX8_enter_61 rfl (c_move (n := n) (u := u) pa59 hn6 (by omega) sa.1) (fun h4 q4 => ?_)
            obtain ⟨kb, c2, hc2, sb⟩ := q4
            have hc2 : CanOf n (upd (lab c) k u) c2 := hc2.congr (fun i hi => upd_lab sa.2.2 hi)
            have kab : ∀ q, ¬ (59 ≤ q ∧ q ≤ 61) → h4 q = h q := fun q a => by rw [kb q (by omega) (by omega) (by omega), ka q (by omega) (by omega) (by omega)]
            have jb : JI g h4 2 n := I.1.keep (fun q a b => kab q (by omega))
            have sp : PS h4 56 n c := I.2.2.2.2.1.keep (fun q a b => kab q (by omega))
            refine r_aload_n rfl dX8_enter_64 ?_
            refine r_getR foX8_28 rfl rfl dX8_enter_65 ?_
            refine r_aload_n rfl dX8_enter_68 ?_
            refine r_getR foX8_60 rfl rfl dX8_enter_69 ?_
            refine r_cV1i (T := TX0) (N := 4) moX0_rowOf lkX8_160 rfl rfl (Nat.le_of_ble_eq_true rfl) ⟨by decide, by decide⟩ (Nat.le_of_ble_eq_true rfl) dX8_enter_72 rfl (c_rowOf jd1.2.1 pa56 (by omega) jb.1 jb.2.1 jb.2.2.1 jb.2.2.2.1 I.2.2.2.1 sp jb.2.2.2.2) (fun v5 h5 q5 => ?_)
            obtain ⟨e5, kc, gc, nc, mc⟩ := q5
            subst e5
            have jc := jb.row kc gc
            have sc : PS h5 59 n c2 := sb.keep (fun q a b => kc q (by omega))
            refine r_ist4 rfl (by decide) dX8_enter_75 ?_
            refine r_aload_n rfl dX8_enter_77 ?_
            refine r_getR foX8_28 rfl rfl dX8_enter_78 ?_
            refine r_aload_n rfl dX8_enter_81 ?_
            refine r_getR foX8_64 rfl rfl dX8_enter_82 ?_
            refine r_cV1i (T := TX0) (N := 4) moX0_rowOf lkX8_160 rfl rfl (Nat.le_of_ble_eq_true rfl) ⟨by decide, by decide⟩ (Nat.le_of_ble_eq_true rfl) dX8_enter_85 rfl (c_rowOf jd1.2.1 pa59 (by omega) jc.1 jc.2.1 jc.2.2.1 jc.2.2.2.1 hc2.1 sc jc.2.2.2.2) (fun v6 h6 q6 => ?_)
            obtain ⟨e6, kd, gd, nd, md⟩ := q6
            subst e6
            have kk : Kp h h6 := fun q a d => by rw [kd q (by omega), kc q (by omega)]; exact kab q d
            refine r_ist5 rfl (by decide) dX8_enter_88 ?_
            refine r_iload_n rfl dX8_enter_90 ?_
            refine r_if_ne 116 dX8_enter_91 (by decide) (fun c_91 => ?_) (fun c_91 => ?_)
            · refine r_iconst (v := (0 : Int32)) (by decide) dX8_enter_116 ?_
              refine r_ist6 rfl (by decide) dX8_enter_117 ?_
              refine r_iconst (v := nI 0) (by decide) dX8_enter_119 ?_
              refine r_ist7 rfl (by decide) dX8_enter_120 ?_
              exact loop c_16 c_29 c_33 c_38 c_91 _ c2 hc2 kk gd (md _ I.2.2.2.1 nc) nd (n + 1) 0 _ (by omega) (by omega) rfl
            · refine r_aload_n rfl dX8_enter_94 ?_
              refine r_getR foX8_28 rfl rfl dX8_enter_95 ?_
              refine r_iload rfl dX8_enter_98 ?_
              refine r_iload_n rfl dX8_enter_100 ?_
              refine r_cV2i (T := TX0) (N := 4) moX0_at lkX8_164 rfl rfl (Nat.le_of_ble_eq_true rfl) ⟨by decide, by decide⟩ (Nat.le_of_ble_eq_true rfl) dX8_enter_101 rfl (c_at jd1.2.1 (plc_lt hn6 hc2.1) (by omega)) (fun v7 h7 q7 => ?_)
              obtain ⟨e7, f7⟩ := q7
              rw [e7, f7, gd.val hc2.1 nd hk, show eH h6 (2 + 1) n = eH h 3 n from eH_keep (fun q a b => kk q (by omega) (by omega))]
              refine r_aload_n rfl dX8_enter_104 ?_
              refine r_getR foX8_28 rfl rfl dX8_enter_105 ?_
              refine r_iload rfl dX8_enter_108 ?_
              refine r_iload_n rfl dX8_enter_110 ?_
              refine r_cV2i (T := TX0) (N := 4) moX0_at lkX8_164 rfl rfl (Nat.le_of_ble_eq_true rfl) ⟨by decide, by decide⟩ (Nat.le_of_ble_eq_true rfl) dX8_enter_111 rfl (c_at jd1.2.1 (plc_lt hn6 I.2.2.2.1) (by omega)) (fun v8 h8 q8 => ?_)
              obtain ⟨e8, f8⟩ := q8
              rw [e8, f8, gd.val I.2.2.2.1 (md _ I.2.2.2.1 nc) hk, show eH h6 (2 + 1) n = eH h 3 n from eH_keep (fun q a b => kk q (by omega) (by omega))]
              refine r_isub dX8_enter_114 ?_
              refine ret_i dX8_enter_115 rfl ?_
              exact Or.inr ⟨c_16, c_29, c_33, c_38, by rw [if_pos c_91, ← good_canH hn6 hc2 hk], CP.judg I kk gd⟩
          · refine r_ldc kcX8_220 dX8_enter_41 ?_
            refine ret_i dX8_enter_43 rfl ?_
            first
              | exact Or.inl ⟨Or.inl c_16, rfl, rfl⟩
              | exact Or.inl ⟨Or.inr (Or.inl c_29), rfl, rfl⟩
              | exact Or.inl ⟨Or.inr (Or.inr (Or.inl c_33)), rfl, rfl⟩
              | exact Or.inl ⟨Or.inr (Or.inr (Or.inr (Int32.not_le.mp c_38))), rfl, rfl⟩
  · refine r_ldc kcX8_216 dX8_enter_8 ?_
    refine ret_i dX8_enter_10 rfl ?_
    exact absurd (c_5.symm.trans (isL_k (by omega) hk)) (by decide)

set_option maxRecDepth 100000 in
set_option maxHeartbeats 400000 in
theorem c_enter {g : GG} {n m b : Nat} {x u w : Int32} {h : Hp} {c : Nat → Nat} (I : CI g h n c m b) : R g mX8_enter 0 [some (.ref (ad g 0)), some (.int x), some (.int u), some (.int w), none, none, none, none] [] h (Ri fun v h' => (isL n x = 0 ∧ v = -1000000001 ∧ h' = h) ∨ ∃ k, k < n ∧ x = nI k ∧ (((isL (mx c n) u = 0 ∨ lab c k = u ∨ w < 0 ∨ 1 < w) ∧ v = -1000000002 ∧ h' = h) ∨ (¬ isL (mx c n) u = 0 ∧ ¬ lab c k = u ∧ ¬ w < 0 ∧ w ≤ 1 ∧ v = (if w = 0 then goodS (eH h 3 n) (upd (lab c) k u) k - goodS (eH h 3 n) (lab c) k else enF (eH h 3 n) (lab c) k u n) ∧ CP g h h' n c m b (eH h 3 n) (h 55)))) := by
  have hn6 := I.1.2.1
  have h0 : h 3 0 = nI n := I.1.2.2.1
  by_cases hx : isL n x = 0
  · have hz : True := trivial
    refine r_aload_n rfl dX8_enter_0 ?_
    refine r_iload_n rfl dX8_enter_1 ?_
    refine r_cV1i (T := TX8) (N := 10) moX8_isLand lkX8_84 rfl rfl (Nat.le_of_ble_eq_true rfl) ⟨by decide, by decide⟩ (Nat.le_of_ble_eq_true rfl) dX8_enter_2 rfl (c_isLand (n := n) h0) (fun v1 h1 q1 => ?_)
    obtain ⟨e1, f1⟩ := q1
    subst f1
    rw [e1]
    refine r_if_ne 11 dX8_enter_5 (by decide) (fun c_5 => ?_) (fun c_5 => ?_)
    · exact absurd hx c_5
    · refine r_ldc kcX8_216 dX8_enter_8 ?_
      refine ret_i dX8_enter_10 rfl ?_
      exact Or.inl ⟨c_5, rfl, rfl⟩
  · obtain ⟨k, hk, rfl⟩ := isL_y (by omega) hx
    exact Ri.imp (c_enterk I hk) (fun v h' q => Or.inr ⟨k, hk, rfl, q⟩)

