theorem num_fit {i : Nat} {v : Int32} (hi : i < 4) : numR (nI i) v = fitV (nI i) v := by
  rcases (show i = 0 ∨ i = 1 ∨ i = 2 ∨ i = 3 by omega) with rfl | rfl | rfl | rfl
  · rw [fit0, numR, if_neg (by decide)]
  · rw [fit1, numR, if_neg (by decide)]
  · rw [fit2, numR, if_pos (by decide), if_pos (by decide)]
  · rw [fit3, numR, if_pos (by decide), if_neg (by decide)]
theorem rng03 (x : Int32) : rng 0 3 x = isL 4 x := by
  rw [show (3 : Int32) = nI 4 - 1 by decide]
  exact isL_rng (by omega)
theorem eM_add {h h2 : Hp} {n : Nat} {a1 a2 a3 a4 : Int32} (e : h2 63 = upd (upd (upd (upd (h 63) (4 * n) a1) (4 * n + 1) a2) (4 * n + 2) a3) (4 * n + 3) a4) (e2 : h2 62 2 = h 62 2) (e3 : h2 62 3 = h 62 3) : eM h2 (n + 1) = addE (eM h n) a1 a2 a3 a4 := by
  have k : ∀ l j, j < 4 → h2 63 (4 * l + j) = if l = n then (if j = 0 then a1 else if j = 1 then a2 else if j = 2 then a3 else a4) else h 63 (4 * l + j) := by
    intro l j hj
    rw [e]
    by_cases q : l = n
    · subst q
      rw [if_pos rfl]
      rcases (show j = 0 ∨ j = 1 ∨ j = 2 ∨ j = 3 by omega) with rfl | rfl | rfl | rfl
      · rw [upd_ne (by omega), upd_ne (by omega), upd_ne (by omega)]; exact upd_eq _ _ _
      · rw [upd_ne (by omega), upd_ne (by omega), upd_eq]; rfl
      · rw [upd_ne (by omega), upd_eq]; rfl
      · rw [upd_eq]; rfl
    · rw [if_neg q, upd_ne (by omega), upd_ne (by omega), upd_ne (by omega), upd_ne (by omega)]
  have e2 : h2 62 2 = eWa (eM h n) := e2
  have e3 : h2 62 3 = eSh (eM h n) := e3
  have u : ∀ (j : Nat) (x : Int32), j < 4 → (if j = 0 then a1 else if j = 1 then a2 else if j = 2 then a3 else a4) = x → (fun l => h2 63 (4 * l + j)) = upd (fun l => h 63 (4 * l + j)) n x := by
    intro j x hj hx
    funext l
    rw [k l j hj]
    by_cases q : l = n
    · subst q; rw [if_pos rfl, upd_eq]; exact hx
    · rw [if_neg q, upd_ne q]
  have u0 := u 0 a1 (by omega) rfl
  have u1 := u 1 a2 (by omega) rfl
  have u2 := u 2 a3 (by omega) rfl
  have u3 := u 3 a4 (by omega) rfl
  show (n + 1, (fun l => h2 63 (4 * l + 0)), (fun l => h2 63 (4 * l + 1)), (fun l => h2 63 (4 * l + 2)), (fun l => h2 63 (4 * l + 3)), h2 62 2, h2 62 3) = _
  rw [u0, u1, u2, u3, e2, e3]
  rfl
theorem eM_set {h : Hp} {n k i : Nat} {v : Int32} (hi : i < 4) : eM (hset h 63 (4 * k + i) v) n = setE (eM h n) i k v := by
  have u : ∀ j, j < 4 → (fun l => hset h 63 (4 * k + i) v 63 (4 * l + j)) = if i = j then upd (fun l => h 63 (4 * l + j)) k v else (fun l => h 63 (4 * l + j)) := by
    intro j hj
    rw [hset_same]
    by_cases q : i = j
    · subst q
      rw [if_pos rfl]
      funext l
      by_cases z : l = k
      · subst z; rw [upd_eq, upd_eq]
      · rw [upd_ne (by omega), upd_ne z]
    · rw [if_neg q]
      funext l
      rw [upd_ne (by omega)]
  have u0 := u 0 (by omega)
  have u1 := u 1 (by omega)
  have u2 := u 2 (by omega)
  have u3 := u 3 (by omega)
  show (n, (fun l => hset h 63 (4 * k + i) v 63 (4 * l + 0)), (fun l => hset h 63 (4 * k + i) v 63 (4 * l + 1)), (fun l => hset h 63 (4 * k + i) v 63 (4 * l + 2)), (fun l => hset h 63 (4 * k + i) v 63 (4 * l + 3)), h 62 2, h 62 3) = _
  rw [u0, u1, u2, u3]
  rfl
theorem num_atM {h : Hp} {n k i : Nat} (hi : i < 4) : h 63 (4 * k + i) = numE (eM h n) i k := by
  rcases (show i = 0 ∨ i = 1 ∨ i = 2 ∨ i = 3 by omega) with rfl | rfl | rfl | rfl <;> rfl
theorem eM_ru {h : Hp} {n i : Nat} {v : Int32} (hi : i < 2) : eM (hset h 62 (i + 2) v) n = ruE (eM h n) i v := by
  rcases (show i = 0 ∨ i = 1 by omega) with rfl | rfl
  · show (n, _, _, _, _, hset h 62 2 v 62 2, hset h 62 2 v 62 3) = _
    rw [hset_same, upd_eq, upd_ne (by omega)]
    rfl
  · show (n, _, _, _, _, hset h 62 3 v 62 2, hset h 62 3 v 62 3) = _
    rw [hset_same, upd_eq, upd_ne (by omega)]
    rfl

set_option maxRecDepth 100000 in
set_option maxHeartbeats 400000 in
theorem m_land {g : GG} {n m : Nat} {h : Hp} {c : Nat → Nat} {E : Ec} {s : Nat → Int32} {a1 a2 a3 a4 : Int32} (I : RF h n c m E s) : R g mX9_land 0 [some (.ref (ad g 62)), some (.int a1), some (.int a2), some (.int a3), some (.int a4)] [] h (Ri fun v h' => (¬ okL a1 a2 a3 a4 ∧ v = -2 ∧ h' = h) ∨ (okL a1 a2 a3 a4 ∧ n = 6 ∧ v = -4 ∧ h' = h) ∨ (okL a1 a2 a3 a4 ∧ n < 6 ∧ v = nI n ∧ RP h h' (n + 1) (uc c n (mx c n)) m (addE E a1 a2 a3 a4) s)) := by
  have hn6 := I.1.1
  have eE := I.2.1.1
  subst eE
  refine r_iconst (v := nI 0) (by decide) dX9_land_0 ?_
  refine r_iload_n rfl dX9_land_1 ?_
  refine r_cS2i moX9_isNumber lkX9_69 (Nat.le_of_ble_eq_true rfl) ⟨by decide, by decide⟩ (Nat.le_of_ble_eq_true rfl) dX9_land_2 rfl m_isNumber (fun v1 h1 q1 => ?_)
  obtain ⟨e1, f1⟩ := q1
  subst f1
  rw [e1, num_fit (by omega)]
  refine r_if_eq 33 dX9_land_5 (by decide) (fun c_5 => ?_) (fun c_5 => ?_)
  · refine r_bipush (v := (-2 : Int32)) (by decide) dX9_land_33 ?_
    refine ret_i dX9_land_35 rfl ?_
    exact Or.inl ⟨fun q => by first | exact q.1 c_5 | exact q.2.1 c_13 | exact q.2.2.1 c_21 | exact q.2.2.2 c_30, rfl, rfl⟩
  · refine r_iconst (v := nI 1) (by decide) dX9_land_8 ?_
    refine r_iload_n rfl dX9_land_9 ?_
    refine r_cS2i moX9_isNumber lkX9_69 (Nat.le_of_ble_eq_true rfl) ⟨by decide, by decide⟩ (Nat.le_of_ble_eq_true rfl) dX9_land_10 rfl m_isNumber (fun v2 h2 q2 => ?_)
    obtain ⟨e2, f2⟩ := q2
    subst f2
    rw [e2, num_fit (by omega)]
    refine r_if_eq 33 dX9_land_13 (by decide) (fun c_13 => ?_) (fun c_13 => ?_)
    · refine r_bipush (v := (-2 : Int32)) (by decide) dX9_land_33 ?_
      refine ret_i dX9_land_35 rfl ?_
      exact Or.inl ⟨fun q => by first | exact q.1 c_5 | exact q.2.1 c_13 | exact q.2.2.1 c_21 | exact q.2.2.2 c_30, rfl, rfl⟩
    · refine r_iconst (v := nI 2) (by decide) dX9_land_16 ?_
      refine r_iload_n rfl dX9_land_17 ?_
      refine r_cS2i moX9_isNumber lkX9_69 (Nat.le_of_ble_eq_true rfl) ⟨by decide, by decide⟩ (Nat.le_of_ble_eq_true rfl) dX9_land_18 rfl m_isNumber (fun v3 h3 q3 => ?_)
      obtain ⟨e3, f3⟩ := q3
      subst f3
      rw [e3, num_fit (by omega)]
      refine r_if_eq 33 dX9_land_21 (by decide) (fun c_21 => ?_) (fun c_21 => ?_)
      · refine r_bipush (v := (-2 : Int32)) (by decide) dX9_land_33 ?_
        refine ret_i dX9_land_35 rfl ?_
        exact Or.inl ⟨fun q => by first | exact q.1 c_5 | exact q.2.1 c_13 | exact q.2.2.1 c_21 | exact q.2.2.2 c_30, rfl, rfl⟩
      · refine r_iconst (v := nI 3) (by decide) dX9_land_24 ?_
        refine r_iload rfl dX9_land_25 ?_
        refine r_cS2i moX9_isNumber lkX9_69 (Nat.le_of_ble_eq_true rfl) ⟨by decide, by decide⟩ (Nat.le_of_ble_eq_true rfl) dX9_land_27 rfl m_isNumber (fun v4 h4 q4 => ?_)
        obtain ⟨e4, f4⟩ := q4
        subst f4
        rw [e4, num_fit (by omega)]
        refine r_if_ne 36 dX9_land_30 (by decide) (fun c_30 => ?_) (fun c_30 => ?_)
        · refine r_aload_n rfl dX9_land_36 ?_
          refine r_getI foX9_55 rfl rfl dX9_land_37 ?_
          rw [I.1.2]
          refine r_bipush (v := nI 6) (by decide) dX9_land_40 ?_
          refine r_icmp_ne 48 dX9_land_42 (by decide) (fun c_42 => ?_) (fun c_42 => ?_)
          · have hn5 : n < 6 := by
              have b : ¬ n = 6 := fun q => c_42 (by rw [q])
              omega
            refine r_aload_n rfl dX9_land_48 ?_
            refine r_getR foX9_7 rfl rfl dX9_land_49 ?_
            refine r_iconst (v := (4 : Int32)) (by decide) dX9_land_52 ?_
            refine r_aload_n rfl dX9_land_53 ?_
            refine r_getI foX9_55 rfl rfl dX9_land_54 ?_
            rw [I.1.2]
            refine r_imul dX9_land_57 ?_
            refine r_iload_n rfl dX9_land_58 ?_
            refine r_ias rfl (ix40 n) (by omega) (by decide) dX9_land_59 ?_
            refine r_aload_n rfl dX9_land_60 ?_
            refine r_getR foX9_7 rfl rfl dX9_land_61 ?_
            refine r_iconst (v := (4 : Int32)) (by decide) dX9_land_64 ?_
            refine r_aload_n rfl dX9_land_65 ?_
            refine r_getI foX9_55 rfl rfl dX9_land_66 ?_
            rw [hset_ne (by omega), I.1.2]
            refine r_imul dX9_land_69 ?_
            refine r_iconst (v := nI 1) (by decide) dX9_land_70 ?_
            refine r_iadd dX9_land_71 ?_
            refine r_iload_n rfl dX9_land_72 ?_
            refine r_ias rfl (ix4 n 1) (by omega) (by decide) dX9_land_73 ?_
            refine r_aload_n rfl dX9_land_74 ?_
            refine r_getR foX9_7 rfl rfl dX9_land_75 ?_
            refine r_iconst (v := (4 : Int32)) (by decide) dX9_land_78 ?_
            refine r_aload_n rfl dX9_land_79 ?_
            refine r_getI foX9_55 rfl rfl dX9_land_80 ?_
            rw [hset_ne (by omega), hset_ne (by omega), I.1.2]
            refine r_imul dX9_land_83 ?_
            refine r_iconst (v := nI 2) (by decide) dX9_land_84 ?_
            refine r_iadd dX9_land_85 ?_
            refine r_iload_n rfl dX9_land_86 ?_
            refine r_ias rfl (ix4 n 2) (by omega) (by decide) dX9_land_87 ?_
            refine r_aload_n rfl dX9_land_88 ?_
            refine r_getR foX9_7 rfl rfl dX9_land_89 ?_
            refine r_iconst (v := (4 : Int32)) (by decide) dX9_land_92 ?_
            refine r_aload_n rfl dX9_land_93 ?_
            refine r_getI foX9_55 rfl rfl dX9_land_94 ?_
            rw [hset_ne (by omega), hset_ne (by omega), hset_ne (by omega), I.1.2]
            refine r_imul dX9_land_97 ?_
            refine r_iconst (v := nI 3) (by decide) dX9_land_98 ?_
            refine r_iadd dX9_land_99 ?_
            refine r_iload rfl dX9_land_100 ?_
            refine r_ias rfl (ix4 n 3) (by omega) (by decide) dX9_land_102 ?_
            have e62 : ∀ q, ¬ q = 63 → (hset (hset (hset (hset h 63 (4 * n) a1) 63 (4 * n + 1) a2) 63 (4 * n + 2) a3) 63 (4 * n + 3) a4) q = h q := fun q z => by rw [hset_ne z, hset_ne z, hset_ne z, hset_ne z]
            refine r_aload_n rfl dX9_land_103 ?_
            refine r_getR foX9_13 rfl rfl dX9_land_104 ?_
            refine r_aload_n rfl dX9_land_107 ?_
            refine r_getI foX9_55 rfl rfl dX9_land_108 ?_
            rw [e62 62 (by omega), I.1.2]
            refine r_aload_n rfl dX9_land_111 ?_
            refine r_aload_n rfl dX9_land_112 ?_
            refine r_getR foX9_13 rfl rfl dX9_land_113 ?_
            refine r_cV1i (T := TX9) (N := 21) moX9_manyOf lkX9_73 rfl rfl (Nat.le_of_ble_eq_true rfl) ⟨by decide, by decide⟩ (Nat.le_of_ble_eq_true rfl) dX9_land_116 rfl (m_manyOf (A := 64) (c := c) rfl hn6 (by rw [e62 62 (by omega)]; exact I.1.2) (by rw [e62 64 (by omega)]; exact I.2.2.2.1) (fun l hl => by have := I.2.2.1.le hl; omega)) (fun v5 h5 q5 => ?_)
            obtain ⟨e5, f5⟩ := q5
            subst f5
            rw [e5]
            refine r_ias rfl rfl (by omega) (by decide) dX9_land_119 ?_
            refine r_aload_n rfl dX9_land_120 ?_
            refine r_dup rfl dX9_land_121 ?_
            refine r_getI foX9_55 rfl rfl dX9_land_122 ?_
            rw [hset_ne (by omega), e62 62 (by omega), I.1.2]
            refine r_iconst (v := (1 : Int32)) (by decide) dX9_land_125 ?_
            refine r_iadd dX9_land_126 ?_
            rw [nI_1]
            refine r_putI fpX9_55 rfl rfl dX9_land_127 ?_
            refine r_aload_n rfl dX9_land_130 ?_
            refine r_getI foX9_55 rfl rfl dX9_land_131 ?_
            rw [hset_same, upd_eq]
            refine r_iconst (v := (1 : Int32)) (by decide) dX9_land_134 ?_
            refine r_isub dX9_land_135 ?_
            rw [nI_pred]
            refine ret_i dX9_land_136 rfl ?_
            refine Or.inr (Or.inr ⟨⟨c_5, c_13, c_21, c_30⟩, hn5, rfl, fun q a => by rw [hset_ne (by omega), hset_ne (by omega), e62 q (by omega)], ⟨by omega, by rw [hset_same, upd_eq]⟩, ⟨eM_add ?_ ?_ ?_, EOK.add I.2.1.2 hn5 ⟨c_5, c_13, c_21, c_30⟩⟩, Can.new I.2.2.1, fun l hl => ?_, ⟨?_, I.2.2.2.2.1.2⟩, ?_⟩)
            · rw [hset_ne (by omega), hset_ne (by omega), hset_same, hset_same, hset_same, hset_same]
            · rw [hset_same, upd_ne (by omega), hset_ne (by omega), e62 62 (by omega)]
            · rw [hset_same, upd_ne (by omega), hset_ne (by omega), e62 62 (by omega)]
            · rw [hset_ne (by omega), hset_same, e62 64 (by omega)]
              by_cases q : l = n
              · subst q; rw [upd_eq, uc_eq]
              · rw [upd_ne q, uc_ne q]; exact I.2.2.2.1 l (by omega)
            · rw [hset_same, upd_ne (by omega), hset_ne (by omega), e62 62 (by omega)]; exact I.2.2.2.2.1.1
            · rw [hset_ne (by omega), hset_ne (by omega), e62 66 (by omega)]; exact I.2.2.2.2.2
          · refine r_bipush (v := (-4 : Int32)) (by decide) dX9_land_45 ?_
            refine ret_i dX9_land_47 rfl ?_
            exact Or.inr (Or.inl ⟨⟨c_5, c_13, c_21, c_30⟩, nI_inj (by omega) (by omega) c_42, rfl, rfl⟩)
        · refine r_bipush (v := (-2 : Int32)) (by decide) dX9_land_33 ?_
          refine ret_i dX9_land_35 rfl ?_
          exact Or.inl ⟨fun q => by first | exact q.1 c_5 | exact q.2.1 c_13 | exact q.2.2.1 c_21 | exact q.2.2.2 c_30, rfl, rfl⟩

set_option maxRecDepth 100000 in
set_option maxHeartbeats 400000 in
theorem m_change {g : GG} {n m : Nat} {h : Hp} {c : Nat → Nat} {E : Ec} {s : Nat → Int32} {x y v : Int32} (I : RF h n c m E s) : R g mX9_change 0 [some (.ref (ad g 62)), some (.int x), some (.int y), some (.int v), none] [] h (Ri fun r h' => (isL n x = 0 ∧ r = -1 ∧ h' = h) ∨ (¬ isL n x = 0 ∧ fitV y v = 0 ∧ r = -2 ∧ h' = h) ∨ ∃ k i, k < n ∧ i < 4 ∧ x = nI k ∧ y = nI i ∧ ¬ fitV (nI i) v = 0 ∧ r = numE E i k ∧ RP h h' n c m (setE E i k v) s) := by
  have hn6 := I.1.1
  have eE := I.2.1.1
  subst eE
  refine r_aload_n rfl dX9_change_0 ?_
  refine r_iload_n rfl dX9_change_1 ?_
  refine r_cV1i (T := TX9) (N := 21) moX9_isLand lkX9_77 rfl rfl (Nat.le_of_ble_eq_true rfl) ⟨by decide, by decide⟩ (Nat.le_of_ble_eq_true rfl) dX9_change_2 rfl (m_isLand I.1.1 I.1.2) (fun v1 h1 q1 => ?_)
  obtain ⟨e1, f1⟩ := q1
  subst f1
  rw [e1]
  refine r_if_ne 10 dX9_change_5 (by decide) (fun c_5 => ?_) (fun c_5 => ?_)
  · refine r_iload_n rfl dX9_change_10 ?_
    refine r_i2l dX9_change_11 ?_
    refine r_lconst rfl dX9_change_12 ?_
    refine r_ldc2 kcX9_81 dX9_change_13 ?_
    refine r_cS3i moX9_in lkX9_59 (Nat.le_of_ble_eq_true rfl) ⟨by decide, by decide⟩ (Nat.le_of_ble_eq_true rfl) dX9_change_16 rfl (c_in (b := 0) (c := 3) (by decide) (by decide)) (fun v2 h2 q2 => ?_)
    obtain ⟨e2, f2⟩ := q2
    subst f2
    rw [e2]
    rw [rng03]
    refine r_if_eq 30 dX9_change_19 (by decide) (fun c_19 => ?_) (fun c_19 => ?_)
    · refine r_bipush (v := (-2 : Int32)) (by decide) dX9_change_30 ?_
      refine ret_i dX9_change_32 rfl ?_
      first
        | exact Or.inr (Or.inl ⟨c_5, Classical.byContradiction fun q => by obtain ⟨i, hi, e⟩ := fit_w q; rw [e, isL_k (by omega) hi] at c_19; exact absurd c_19 (by decide), rfl, rfl⟩)
        | exact Or.inr (Or.inl ⟨c_5, c_27, rfl, rfl⟩)
    · obtain ⟨i, hi, rfl⟩ := isL_y (by omega) c_19
      refine r_iload_n rfl dX9_change_22 ?_
      refine r_iload_n rfl dX9_change_23 ?_
      refine r_cS2i moX9_isNumber lkX9_69 (Nat.le_of_ble_eq_true rfl) ⟨by decide, by decide⟩ (Nat.le_of_ble_eq_true rfl) dX9_change_24 rfl m_isNumber (fun v3 h3 q3 => ?_)
      obtain ⟨e3, f3⟩ := q3
      subst f3
      rw [e3, num_fit (by omega)]
      refine r_if_ne 33 dX9_change_27 (by decide) (fun c_27 => ?_) (fun c_27 => ?_)
      · obtain ⟨k, hk, rfl⟩ := isL_y (by omega) c_5
        refine r_aload_n rfl dX9_change_33 ?_
        refine r_getR foX9_7 rfl rfl dX9_change_34 ?_
        refine r_iconst (v := (4 : Int32)) (by decide) dX9_change_37 ?_
        refine r_iload_n rfl dX9_change_38 ?_
        refine r_imul dX9_change_39 ?_
        refine r_iload_n rfl dX9_change_40 ?_
        refine r_iadd dX9_change_41 ?_
        refine r_ild rfl (ix4 k i) (by omega) (by decide) dX9_change_42 ?_
        rw [num_atM (h := h) (k := k) (n := n) hi]
        refine r_ist4 rfl (by decide) dX9_change_43 ?_
        refine r_aload_n rfl dX9_change_45 ?_
        refine r_getR foX9_7 rfl rfl dX9_change_46 ?_
        refine r_iconst (v := (4 : Int32)) (by decide) dX9_change_49 ?_
        refine r_iload_n rfl dX9_change_50 ?_
        refine r_imul dX9_change_51 ?_
        refine r_iload_n rfl dX9_change_52 ?_
        refine r_iadd dX9_change_53 ?_
        refine r_iload_n rfl dX9_change_54 ?_
        refine r_ias rfl (ix4 k i) (by omega) (by decide) dX9_change_55 ?_
        refine r_iload rfl dX9_change_56 ?_
        refine ret_i dX9_change_58 rfl ?_
        refine Or.inr (Or.inr ⟨k, i, hk, hi, rfl, rfl, c_27, rfl, fun q a => hset_ne (by omega), ⟨hn6, by rw [hset_ne (by omega)]; exact I.1.2⟩, ⟨eM_set hi, EOK.set I.2.1.2 hk hi c_27⟩, I.2.2.1, by rw [hset_ne (by omega)]; exact I.2.2.2.1, by rw [hset_ne (by omega)]; exact I.2.2.2.2.1, by rw [hset_ne (by omega)]; exact I.2.2.2.2.2⟩)
      · refine r_bipush (v := (-2 : Int32)) (by decide) dX9_change_30 ?_
        refine ret_i dX9_change_32 rfl ?_
        first
          | exact Or.inr (Or.inl ⟨c_5, Classical.byContradiction fun q => by obtain ⟨i, hi, e⟩ := fit_w q; rw [e, isL_k (by omega) hi] at c_19; exact absurd c_19 (by decide), rfl, rfl⟩)
          | exact Or.inr (Or.inl ⟨c_5, c_27, rfl, rfl⟩)
  · refine r_iconst (v := (-1 : Int32)) (by decide) dX9_change_8 ?_
    refine ret_i dX9_change_9 rfl ?_
    exact Or.inl ⟨c_5, rfl, rfl⟩

set_option maxRecDepth 100000 in
set_option maxHeartbeats 400000 in
theorem m_set {g : GG} {n m : Nat} {h : Hp} {c : Nat → Nat} {E : Ec} {s : Nat → Int32} {x v : Int32} (I : RF h n c m E s) : R g mX9_set 0 [some (.ref (ad g 62)), some (.int x), some (.int v), none] [] h (Ri fun r h' => ((x < 0 ∨ 1 < x ∨ v < 0 ∨ 2 < v) ∧ r = -2 ∧ h' = h) ∨ (¬ x < 0 ∧ ¬ 1 < x ∧ ¬ v < 0 ∧ v ≤ 2 ∧ ((x = 0 ∧ r = eWa E ∧ RP h h' n c m (ruE E 0 v) s) ∨ (¬ x = 0 ∧ r = eSh E ∧ RP h h' n c m (ruE E 1 v) s)))) := by
  have hn6 := I.1.1
  have eE := I.2.1.1
  subst eE
  refine r_iload_n rfl dX9_set_0 ?_
  refine r_i2l dX9_set_1 ?_
  refine r_lconst rfl dX9_set_2 ?_
  refine r_lconst rfl dX9_set_3 ?_
  refine r_cS3i moX9_in lkX9_59 (Nat.le_of_ble_eq_true rfl) ⟨by decide, by decide⟩ (Nat.le_of_ble_eq_true rfl) dX9_set_4 rfl (c_in (b := 0) (c := 1) (by decide) (by decide)) (fun v1 h1 q1 => ?_)
  obtain ⟨e1, f1⟩ := q1
  subst f1
  rw [e1]
  refine r_if_eq 22 dX9_set_7 (by decide) (fun c_7 => ?_) (fun c_7 => ?_)
  · refine r_bipush (v := (-2 : Int32)) (by decide) dX9_set_22 ?_
    refine ret_i dX9_set_24 rfl ?_
    refine Or.inl ⟨?_, rfl, rfl⟩
    first
      | (have z := rng_0 c_7
         exact Classical.byContradiction fun q => z ⟨fun a => q (Or.inl a), fun a => q (Or.inr (Or.inl a))⟩)
      | (have z := rng_0 c_19
         exact Classical.byContradiction fun q => z ⟨fun a => q (Or.inr (Or.inr (Or.inl a))), fun a => q (Or.inr (Or.inr (Or.inr a)))⟩)
  · refine r_iload_n rfl dX9_set_10 ?_
    refine r_i2l dX9_set_11 ?_
    refine r_lconst rfl dX9_set_12 ?_
    refine r_ldc2 kcX9_83 dX9_set_13 ?_
    refine r_cS3i moX9_in lkX9_59 (Nat.le_of_ble_eq_true rfl) ⟨by decide, by decide⟩ (Nat.le_of_ble_eq_true rfl) dX9_set_16 rfl (c_in (b := 0) (c := 2) (by decide) (by decide)) (fun v2 h2 q2 => ?_)
    obtain ⟨e2, f2⟩ := q2
    subst f2
    rw [e2]
    refine r_if_ne 25 dX9_set_19 (by decide) (fun c_19 => ?_) (fun c_19 => ?_)
    · refine r_iload_n rfl dX9_set_25 ?_
      refine r_if_ne 36 dX9_set_26 (by decide) (fun c_26 => ?_) (fun c_26 => ?_)
      · refine r_aload_n rfl dX9_set_36 ?_
        refine r_getI foX9_88 rfl rfl dX9_set_37 ?_
        refine r_ist3 rfl (by decide) dX9_set_40 ?_
        refine r_iload_n rfl dX9_set_41 ?_
        refine r_if_ne 53 dX9_set_42 (by decide) (fun c_42 => ?_) (fun c_42 => ?_)
        · refine r_aload_n rfl dX9_set_53 ?_
          refine r_iload_n rfl dX9_set_54 ?_
          refine r_putI fpX9_88 rfl rfl dX9_set_55 ?_
          refine r_iload_n rfl dX9_set_58 ?_
          refine ret_i dX9_set_59 rfl ?_
          first
            | exact absurd c_26 c_42
            | exact absurd c_42 c_26
            | exact Or.inr ⟨(rng_1 c_7).1, (rng_1 c_7).2, (rng_1 c_19).1, Int32.not_lt.mp (rng_1 c_19).2, Or.inl ⟨c_26, rfl, ⟨fun q a => hset_ne (by omega), ⟨hn6, by rw [hset_same, upd_ne (by omega)]; exact I.1.2⟩, ⟨eM_ru (i := 0) (by omega), EOK.rule I.2.1.2 (Bd02 (rng_1 c_19).1 (Int32.not_lt.mp (rng_1 c_19).2))⟩, I.2.2.1, by rw [hset_ne (by omega)]; exact I.2.2.2.1, ⟨by rw [hset_same, upd_ne (by omega)]; exact I.2.2.2.2.1.1, I.2.2.2.2.1.2⟩, by rw [hset_ne (by omega)]; exact I.2.2.2.2.2⟩⟩⟩
            | exact Or.inr ⟨(rng_1 c_7).1, (rng_1 c_7).2, (rng_1 c_19).1, Int32.not_lt.mp (rng_1 c_19).2, Or.inr ⟨c_26, rfl, ⟨fun q a => hset_ne (by omega), ⟨hn6, by rw [hset_same, upd_ne (by omega)]; exact I.1.2⟩, ⟨eM_ru (i := 1) (by omega), EOK.rule I.2.1.2 (Bd02 (rng_1 c_19).1 (Int32.not_lt.mp (rng_1 c_19).2))⟩, I.2.2.1, by rw [hset_ne (by omega)]; exact I.2.2.2.1, ⟨by rw [hset_same, upd_ne (by omega)]; exact I.2.2.2.2.1.1, I.2.2.2.2.1.2⟩, by rw [hset_ne (by omega)]; exact I.2.2.2.2.2⟩⟩⟩
        · refine r_aload_n rfl dX9_set_45 ?_
          refine r_iload_n rfl dX9_set_46 ?_
          refine r_putI fpX9_85 rfl rfl dX9_set_47 ?_
          refine r_goto 58 dX9_set_50 (by decide) ?_
          refine r_iload_n rfl dX9_set_58 ?_
          refine ret_i dX9_set_59 rfl ?_
          first
            | exact absurd c_26 c_42
            | exact absurd c_42 c_26
            | exact Or.inr ⟨(rng_1 c_7).1, (rng_1 c_7).2, (rng_1 c_19).1, Int32.not_lt.mp (rng_1 c_19).2, Or.inl ⟨c_26, rfl, ⟨fun q a => hset_ne (by omega), ⟨hn6, by rw [hset_same, upd_ne (by omega)]; exact I.1.2⟩, ⟨eM_ru (i := 0) (by omega), EOK.rule I.2.1.2 (Bd02 (rng_1 c_19).1 (Int32.not_lt.mp (rng_1 c_19).2))⟩, I.2.2.1, by rw [hset_ne (by omega)]; exact I.2.2.2.1, ⟨by rw [hset_same, upd_ne (by omega)]; exact I.2.2.2.2.1.1, I.2.2.2.2.1.2⟩, by rw [hset_ne (by omega)]; exact I.2.2.2.2.2⟩⟩⟩
            | exact Or.inr ⟨(rng_1 c_7).1, (rng_1 c_7).2, (rng_1 c_19).1, Int32.not_lt.mp (rng_1 c_19).2, Or.inr ⟨c_26, rfl, ⟨fun q a => hset_ne (by omega), ⟨hn6, by rw [hset_same, upd_ne (by omega)]; exact I.1.2⟩, ⟨eM_ru (i := 1) (by omega), EOK.rule I.2.1.2 (Bd02 (rng_1 c_19).1 (Int32.not_lt.mp (rng_1 c_19).2))⟩, I.2.2.1, by rw [hset_ne (by omega)]; exact I.2.2.2.1, ⟨by rw [hset_same, upd_ne (by omega)]; exact I.2.2.2.2.1.1, I.2.2.2.2.1.2⟩, by rw [hset_ne (by omega)]; exact I.2.2.2.2.2⟩⟩⟩
      · refine r_aload_n rfl dX9_set_29 ?_
        refine r_getI foX9_85 rfl rfl dX9_set_30 ?_
        refine r_goto 40 dX9_set_33 (by decide) ?_
        refine r_ist3 rfl (by decide) dX9_set_40 ?_
        refine r_iload_n rfl dX9_set_41 ?_
        refine r_if_ne 53 dX9_set_42 (by decide) (fun c_42 => ?_) (fun c_42 => ?_)
        · refine r_aload_n rfl dX9_set_53 ?_
          refine r_iload_n rfl dX9_set_54 ?_
          refine r_putI fpX9_88 rfl rfl dX9_set_55 ?_
          refine r_iload_n rfl dX9_set_58 ?_
          refine ret_i dX9_set_59 rfl ?_
          first
            | exact absurd c_26 c_42
            | exact absurd c_42 c_26
            | exact Or.inr ⟨(rng_1 c_7).1, (rng_1 c_7).2, (rng_1 c_19).1, Int32.not_lt.mp (rng_1 c_19).2, Or.inl ⟨c_26, rfl, ⟨fun q a => hset_ne (by omega), ⟨hn6, by rw [hset_same, upd_ne (by omega)]; exact I.1.2⟩, ⟨eM_ru (i := 0) (by omega), EOK.rule I.2.1.2 (Bd02 (rng_1 c_19).1 (Int32.not_lt.mp (rng_1 c_19).2))⟩, I.2.2.1, by rw [hset_ne (by omega)]; exact I.2.2.2.1, ⟨by rw [hset_same, upd_ne (by omega)]; exact I.2.2.2.2.1.1, I.2.2.2.2.1.2⟩, by rw [hset_ne (by omega)]; exact I.2.2.2.2.2⟩⟩⟩
            | exact Or.inr ⟨(rng_1 c_7).1, (rng_1 c_7).2, (rng_1 c_19).1, Int32.not_lt.mp (rng_1 c_19).2, Or.inr ⟨c_26, rfl, ⟨fun q a => hset_ne (by omega), ⟨hn6, by rw [hset_same, upd_ne (by omega)]; exact I.1.2⟩, ⟨eM_ru (i := 1) (by omega), EOK.rule I.2.1.2 (Bd02 (rng_1 c_19).1 (Int32.not_lt.mp (rng_1 c_19).2))⟩, I.2.2.1, by rw [hset_ne (by omega)]; exact I.2.2.2.1, ⟨by rw [hset_same, upd_ne (by omega)]; exact I.2.2.2.2.1.1, I.2.2.2.2.1.2⟩, by rw [hset_ne (by omega)]; exact I.2.2.2.2.2⟩⟩⟩
        · refine r_aload_n rfl dX9_set_45 ?_
          refine r_iload_n rfl dX9_set_46 ?_
          refine r_putI fpX9_85 rfl rfl dX9_set_47 ?_
          refine r_goto 58 dX9_set_50 (by decide) ?_
          refine r_iload_n rfl dX9_set_58 ?_
          refine ret_i dX9_set_59 rfl ?_
          first
            | exact absurd c_26 c_42
            | exact absurd c_42 c_26
            | exact Or.inr ⟨(rng_1 c_7).1, (rng_1 c_7).2, (rng_1 c_19).1, Int32.not_lt.mp (rng_1 c_19).2, Or.inl ⟨c_26, rfl, ⟨fun q a => hset_ne (by omega), ⟨hn6, by rw [hset_same, upd_ne (by omega)]; exact I.1.2⟩, ⟨eM_ru (i := 0) (by omega), EOK.rule I.2.1.2 (Bd02 (rng_1 c_19).1 (Int32.not_lt.mp (rng_1 c_19).2))⟩, I.2.2.1, by rw [hset_ne (by omega)]; exact I.2.2.2.1, ⟨by rw [hset_same, upd_ne (by omega)]; exact I.2.2.2.2.1.1, I.2.2.2.2.1.2⟩, by rw [hset_ne (by omega)]; exact I.2.2.2.2.2⟩⟩⟩
            | exact Or.inr ⟨(rng_1 c_7).1, (rng_1 c_7).2, (rng_1 c_19).1, Int32.not_lt.mp (rng_1 c_19).2, Or.inr ⟨c_26, rfl, ⟨fun q a => hset_ne (by omega), ⟨hn6, by rw [hset_same, upd_ne (by omega)]; exact I.1.2⟩, ⟨eM_ru (i := 1) (by omega), EOK.rule I.2.1.2 (Bd02 (rng_1 c_19).1 (Int32.not_lt.mp (rng_1 c_19).2))⟩, I.2.2.1, by rw [hset_ne (by omega)]; exact I.2.2.2.1, ⟨by rw [hset_same, upd_ne (by omega)]; exact I.2.2.2.2.1.1, I.2.2.2.2.1.2⟩, by rw [hset_ne (by omega)]; exact I.2.2.2.2.2⟩⟩⟩
    · refine r_bipush (v := (-2 : Int32)) (by decide) dX9_set_22 ?_
      refine ret_i dX9_set_24 rfl ?_
      refine Or.inl ⟨?_, rfl, rfl⟩
      first
        | (have z := rng_0 c_7
           exact Classical.byContradiction fun q => z ⟨fun a => q (Or.inl a), fun a => q (Or.inr (Or.inl a))⟩)
        | (have z := rng_0 c_19
           exact Classical.byContradiction fun q => z ⟨fun a => q (Or.inr (Or.inr (Or.inl a))), fun a => q (Or.inr (Or.inr (Or.inr a)))⟩)

