/-- one number of a land -/
def numE (E : Ec) (w k : Nat) : Int32 := if w = 0 then eW E k else if w = 1 then eC E k else if w = 2 then eG E k else eT E k
theorem CP_set {g : GG} {h h1 : Hp} {n m b i k : Nat} {c : Nat → Nat} {v : Int32} (I : CI g h n c m b) (hb : b < 2 ^ 29) (hk : k < n) (hi : i < 4) (hf : ¬ fitV (nI i) v = 0) (eh : h1 = hset (hset h (3 + (i + 1)) k v) 3 3 (hset h (3 + (i + 1)) k v 3 3 + 1)) : CP g h h1 n c m (b + 1) (setE (eH h 3 n) i k v) (h 55) := by
  have hn6 := I.1.2.1
  have hkq : ∀ q, ¬ (3 ≤ q ∧ q ≤ 7) → h1 q = h q := fun q a => by rw [eh, hset_ne (by omega), hset_ne (by omega)]
  have ea : ∀ w, w < 4 → h1 (3 + (w + 1)) = if i = w then upd (h (3 + (w + 1))) k v else h (3 + (w + 1)) := fun w hw => by
    rw [eh, hset_ne (by omega)]
    by_cases e : i = w
    · subst e; rw [if_pos rfl, hset_same]
    · rw [if_neg e, hset_ne (by omega)]
  have eo : ∀ j, ¬ j = 3 → h1 3 j = h 3 j := fun j hj => by rw [eh, hset_same, upd_ne hj, hset_ne (by omega)]
  have eE : eH h1 3 n = setE (eH h 3 n) i k v := by
    show (n, h1 4, h1 5, h1 6, h1 7, h1 3 1, h1 3 2) = (n, if i = 0 then upd (h 4) k v else h 4, if i = 1 then upd (h 5) k v else h 5, if i = 2 then upd (h 6) k v else h 6, if i = 3 then upd (h 7) k v else h 7, h 3 1, h 3 2)
    rw [show h1 4 = _ from ea 0 (by omega), show h1 5 = _ from ea 1 (by omega), show h1 6 = _ from ea 2 (by omega), show h1 7 = _ from ea 3 (by omega), eo 1 (by omega), eo 2 (by omega)]
  refine ⟨fun q a => hkq q (by omega), CI.lands I hb (fun q a _ => hkq q a) ?_ (by rw [eo 0 (by omega)]; exact I.1.2.2.1) hn6 ?_ I.2.2.2.1 (I.2.2.2.2.1.keep (fun q a b => hkq q (by omega))), eE, hkq 55 (by omega)⟩
  · rw [eh, hset_same, upd_eq, hset_ne (by omega)]
  · rw [eE]; exact EOK.set I.1.2.2.2.1 hk hi hf
theorem num_at (h : Hp) (n : Nat) {i : Nat} (k : Nat) (hi : i < 4) : h (3 + (i + 1)) k = numE (eH h 3 n) i k := by
  rcases (show i = 0 ∨ i = 1 ∨ i = 2 ∨ i = 3 by omega) with rfl | rfl | rfl | rfl <;> rfl

set_option maxRecDepth 100000 in
set_option maxHeartbeats 400000 in
theorem c_change {g : GG} {n m b : Nat} {x y v : Int32} {h : Hp} {c : Nat → Nat} (I : CI g h n c m b) (hb : b < 2 ^ 29) : R g mX8_change 0 [some (.ref (ad g 0)), some (.int x), some (.int y), some (.int v), none] [] h (Ri fun r h' => (isL n x = 0 ∧ r = -1 ∧ h' = h) ∨ (¬ isL n x = 0 ∧ fitV y v = 0 ∧ r = -2 ∧ h' = h) ∨ ∃ k i, k < n ∧ i < 4 ∧ x = nI k ∧ y = nI i ∧ ¬ fitV (nI i) v = 0 ∧ r = numE (eH h 3 n) i k ∧ CP g h h' n c m (b + 1) (setE (eH h 3 n) i k v) (h 55)) := by
  have hn6 := I.1.2.1
  refine r_aload_n rfl dX8_change_0 ?_
  refine r_iload_n rfl dX8_change_1 ?_
  refine r_cV1i (T := TX8) (N := 10) moX8_isLand lkX8_84 rfl rfl (Nat.le_of_ble_eq_true rfl) ⟨by decide, by decide⟩ (Nat.le_of_ble_eq_true rfl) dX8_change_2 rfl (c_isLand (n := n) I.1.2.2.1) (fun v1 h1 q1 => ?_)
  obtain ⟨e1, f1⟩ := q1
  subst f1
  rw [e1]
  refine r_if_ne 10 dX8_change_5 (by decide) (fun c_5 => ?_) (fun c_5 => ?_)
  · refine r_iload_n rfl dX8_change_10 ?_
    refine r_iload_n rfl dX8_change_11 ?_
    refine r_cS2i moX3_fits lkX8_67 (Nat.le_of_ble_eq_true rfl) ⟨by decide, by decide⟩ (Nat.le_of_ble_eq_true rfl) dX8_change_12 rfl c_fits (fun v2 h2 q2 => ?_)
    obtain ⟨e2, f2⟩ := q2
    subst f2
    rw [e2]
    refine r_if_ne 21 dX8_change_15 (by decide) (fun c_15 => ?_) (fun c_15 => ?_)
    · obtain ⟨k, hk, rfl⟩ := isL_y (by omega) c_5
      obtain ⟨i, hi, rfl⟩ := fit_w c_15
      refine r_aload_n rfl dX8_change_21 ?_
      refine r_getR foX8_23 rfl rfl dX8_change_22 ?_
      refine r_iload_n rfl dX8_change_25 ?_
      refine r_cV1a (T := TX3) (N := 8) moX3_rowOf lkX8_88 rfl rfl (Nat.le_of_ble_eq_true rfl) ⟨by decide, by decide⟩ (Nat.le_of_ble_eq_true rfl) dX8_change_26 rfl (c_rowOfL la3 hi) (fun a3 h3 q3 => ?_)
      obtain ⟨e3, f3⟩ := q3
      subst f3
      rw [e3]
      refine r_iload_n rfl dX8_change_29 ?_
      refine r_ild (la3.arr hi) rfl (by omega) (by decide) dX8_change_30 ?_
      refine r_ist4 rfl (by decide) dX8_change_31 ?_
      refine r_aload_n rfl dX8_change_33 ?_
      refine r_getR foX8_23 rfl rfl dX8_change_34 ?_
      refine r_iload_n rfl dX8_change_37 ?_
      refine r_iload_n rfl dX8_change_38 ?_
      refine r_iload_n rfl dX8_change_39 ?_
      refine r_cV3v (T := TX3) (N := 8) moX3_put lkX8_92 rfl rfl (Nat.le_of_ble_eq_true rfl) ⟨by decide, by decide⟩ (Nat.le_of_ble_eq_true rfl) dX8_change_40 rfl (c_put la3 hi (by omega)) (fun h4 q4 => ?_)
      refine r_iload rfl dX8_change_43 ?_
      refine ret_i dX8_change_45 rfl ?_
      exact Or.inr (Or.inr ⟨k, i, hk, hi, rfl, rfl, c_15, num_at h n k hi, CP_set I hb hk hi c_15 q4⟩)
    · refine r_bipush (v := (-2 : Int32)) (by decide) dX8_change_18 ?_
      refine ret_i dX8_change_20 rfl ?_
      exact Or.inr (Or.inl ⟨c_5, c_15, rfl, rfl⟩)
  · refine r_iconst (v := (-1 : Int32)) (by decide) dX8_change_8 ?_
    refine ret_i dX8_change_9 rfl ?_
    exact Or.inl ⟨c_5, rfl, rfl⟩

theorem Bd02 {v : Int32} (h1 : ¬ v < 0) (h2 : v ≤ 2) : Bd 0 2 v := Bd_of (by decide) (by decide) (by rw [nI_0]; exact h1) (by rw [show nI 2 = 2 by decide]; exact fun q => Int32.not_le.mpr q h2)
theorem CP_rule {g : GG} {h h1 : Hp} {n m b i : Nat} {c : Nat → Nat} {v : Int32} (I : CI g h n c m b) (hb : b < 2 ^ 29) (hv : Bd 0 2 v) (hi : i < 2) (eh : h1 = hset (hset h 3 (i + 1) v) 3 3 (hset h 3 (i + 1) v 3 3 + 1)) : CP g h h1 n c m (b + 1) (ruE (eH h 3 n) i v) (h 55) := by
  have hkq : ∀ q, ¬ q = 3 → h1 q = h q := fun q a => by rw [eh, hset_ne a, hset_ne a]
  have eo : ∀ j, ¬ j = 3 → h1 3 j = if j = i + 1 then v else h 3 j := fun j hj => by rw [eh, hset_same, upd_ne hj, hset_same, upd]
  have eE : eH h1 3 n = ruE (eH h 3 n) i v := by
    show (n, h1 4, h1 5, h1 6, h1 7, h1 3 1, h1 3 2) = (n, h 4, h 5, h 6, h 7, if i = 0 then v else h 3 1, if i = 0 then h 3 2 else v)
    rw [hkq 4 (by omega), hkq 5 (by omega), hkq 6 (by omega), hkq 7 (by omega), eo 1 (by omega), eo 2 (by omega)]
    rcases (show i = 0 ∨ i = 1 by omega) with rfl | rfl <;> rfl
  refine ⟨fun q a => hkq q (by omega), CI.lands I hb (fun q a _ => hkq q (by omega)) ?_ (by rw [eo 0 (by omega), if_neg (by omega)]; exact I.1.2.2.1) I.1.2.1 ?_ I.2.2.2.1 (I.2.2.2.2.1.keep (fun q a b => hkq q (by omega))), eE, hkq 55 (by omega)⟩
  · rw [eh, hset_same, upd_eq, hset_same, upd_ne (by omega)]
  · rw [eE]; exact EOK.rule I.1.2.2.2.1 hv

set_option maxRecDepth 100000 in
set_option maxHeartbeats 400000 in
theorem c_set {g : GG} {n m b : Nat} {x v : Int32} {h : Hp} {c : Nat → Nat} (I : CI g h n c m b) (hb : b < 2 ^ 29) : R g mX8_set 0 [some (.ref (ad g 0)), some (.int x), some (.int v), none] [] h (Ri fun r h' => ((x < 0 ∨ 1 < x ∨ v < 0 ∨ 2 < v) ∧ r = -2 ∧ h' = h) ∨ (¬ x < 0 ∧ ¬ 1 < x ∧ ¬ v < 0 ∧ v ≤ 2 ∧ ((x = 0 ∧ r = eWa (eH h 3 n) ∧ CP g h h' n c m (b + 1) (ruE (eH h 3 n) 0 v) (h 55)) ∨ (¬ x = 0 ∧ r = eSh (eH h 3 n) ∧ CP g h h' n c m (b + 1) (ruE (eH h 3 n) 1 v) (h 55))))) := by
  refine r_iload_n rfl dX8_set_0 ?_
  refine r_if_lt 18 dX8_set_1 (by decide) (fun c_1 => ?_) (fun c_1 => ?_)
  · refine r_bipush (v := (-2 : Int32)) (by decide) dX8_set_18 ?_
    refine ret_i dX8_set_20 rfl ?_
    exact Or.inl ⟨by first | exact Or.inl c_1 | exact Or.inr (Or.inl c_6) | exact Or.inr (Or.inr (Or.inl c_10)) | exact Or.inr (Or.inr (Or.inr (Int32.not_le.mp c_15))), rfl, rfl⟩
  · refine r_iload_n rfl dX8_set_4 ?_
    refine r_iconst (v := (1 : Int32)) (by decide) dX8_set_5 ?_
    refine r_icmp_gt 18 dX8_set_6 (by decide) (fun c_6 => ?_) (fun c_6 => ?_)
    · refine r_bipush (v := (-2 : Int32)) (by decide) dX8_set_18 ?_
      refine ret_i dX8_set_20 rfl ?_
      exact Or.inl ⟨by first | exact Or.inl c_1 | exact Or.inr (Or.inl c_6) | exact Or.inr (Or.inr (Or.inl c_10)) | exact Or.inr (Or.inr (Or.inr (Int32.not_le.mp c_15))), rfl, rfl⟩
    · refine r_iload_n rfl dX8_set_9 ?_
      refine r_if_lt 18 dX8_set_10 (by decide) (fun c_10 => ?_) (fun c_10 => ?_)
      · refine r_bipush (v := (-2 : Int32)) (by decide) dX8_set_18 ?_
        refine ret_i dX8_set_20 rfl ?_
        exact Or.inl ⟨by first | exact Or.inl c_1 | exact Or.inr (Or.inl c_6) | exact Or.inr (Or.inr (Or.inl c_10)) | exact Or.inr (Or.inr (Or.inr (Int32.not_le.mp c_15))), rfl, rfl⟩
      · refine r_iload_n rfl dX8_set_13 ?_
        refine r_iconst (v := (2 : Int32)) (by decide) dX8_set_14 ?_
        refine r_icmp_le 21 dX8_set_15 (by decide) (fun c_15 => ?_) (fun c_15 => ?_)
        · refine r_iload_n rfl dX8_set_21 ?_
          refine r_if_ne 35 dX8_set_22 (by decide) (fun c_22 => ?_) (fun c_22 => ?_)
          · refine r_aload_n rfl dX8_set_35 ?_
            refine r_getR foX8_23 rfl rfl dX8_set_36 ?_
            refine r_getI foX8_99 rfl rfl dX8_set_39 ?_
            refine r_ist3 rfl (by decide) dX8_set_42 ?_
            refine r_iload_n rfl dX8_set_43 ?_
            refine r_if_ne 58 dX8_set_44 (by decide) (fun c_44 => ?_) (fun c_44 => ?_)
            · refine r_aload_n rfl dX8_set_58 ?_
              refine r_getR foX8_23 rfl rfl dX8_set_59 ?_
              refine r_iload_n rfl dX8_set_62 ?_
              refine r_cV1v (T := TX3) (N := 8) moX3_putShares lkX8_106 rfl rfl (Nat.le_of_ble_eq_true rfl) ⟨by decide, by decide⟩ (Nat.le_of_ble_eq_true rfl) dX8_set_63 rfl (c_putShares la3) (fun h1 q1 => ?_)
              have qq := q1
              refine r_iload_n rfl dX8_set_66 ?_
              refine ret_i dX8_set_67 rfl ?_
              first
                | exact Or.inr ⟨c_1, c_6, c_10, c_15, Or.inl ⟨c_22, rfl, CP_rule (i := 0) I hb (Bd02 c_10 c_15) (by omega) qq⟩⟩
                | exact Or.inr ⟨c_1, c_6, c_10, c_15, Or.inr ⟨c_22, rfl, CP_rule (i := 1) I hb (Bd02 c_10 c_15) (by omega) qq⟩⟩
                | exact absurd c_22 c_44
                | exact absurd c_44 c_22
            · refine r_aload_n rfl dX8_set_47 ?_
              refine r_getR foX8_23 rfl rfl dX8_set_48 ?_
              refine r_iload_n rfl dX8_set_51 ?_
              refine r_cV1v (T := TX3) (N := 8) moX3_putWalls lkX8_102 rfl rfl (Nat.le_of_ble_eq_true rfl) ⟨by decide, by decide⟩ (Nat.le_of_ble_eq_true rfl) dX8_set_52 rfl (c_putWalls la3) (fun h2 q2 => ?_)
              have qq := q2
              refine r_goto 66 dX8_set_55 (by decide) ?_
              refine r_iload_n rfl dX8_set_66 ?_
              refine ret_i dX8_set_67 rfl ?_
              first
                | exact Or.inr ⟨c_1, c_6, c_10, c_15, Or.inl ⟨c_22, rfl, CP_rule (i := 0) I hb (Bd02 c_10 c_15) (by omega) qq⟩⟩
                | exact Or.inr ⟨c_1, c_6, c_10, c_15, Or.inr ⟨c_22, rfl, CP_rule (i := 1) I hb (Bd02 c_10 c_15) (by omega) qq⟩⟩
                | exact absurd c_22 c_44
                | exact absurd c_44 c_22
          · refine r_aload_n rfl dX8_set_25 ?_
            refine r_getR foX8_23 rfl rfl dX8_set_26 ?_
            refine r_getI foX8_96 rfl rfl dX8_set_29 ?_
            refine r_goto 42 dX8_set_32 (by decide) ?_
            refine r_ist3 rfl (by decide) dX8_set_42 ?_
            refine r_iload_n rfl dX8_set_43 ?_
            refine r_if_ne 58 dX8_set_44 (by decide) (fun c_44 => ?_) (fun c_44 => ?_)
            · refine r_aload_n rfl dX8_set_58 ?_
              refine r_getR foX8_23 rfl rfl dX8_set_59 ?_
              refine r_iload_n rfl dX8_set_62 ?_
              refine r_cV1v (T := TX3) (N := 8) moX3_putShares lkX8_106 rfl rfl (Nat.le_of_ble_eq_true rfl) ⟨by decide, by decide⟩ (Nat.le_of_ble_eq_true rfl) dX8_set_63 rfl (c_putShares la3) (fun h3 q3 => ?_)
              have qq := q3
              refine r_iload_n rfl dX8_set_66 ?_
              refine ret_i dX8_set_67 rfl ?_
              first
                | exact Or.inr ⟨c_1, c_6, c_10, c_15, Or.inl ⟨c_22, rfl, CP_rule (i := 0) I hb (Bd02 c_10 c_15) (by omega) qq⟩⟩
                | exact Or.inr ⟨c_1, c_6, c_10, c_15, Or.inr ⟨c_22, rfl, CP_rule (i := 1) I hb (Bd02 c_10 c_15) (by omega) qq⟩⟩
                | exact absurd c_22 c_44
                | exact absurd c_44 c_22
            · refine r_aload_n rfl dX8_set_47 ?_
              refine r_getR foX8_23 rfl rfl dX8_set_48 ?_
              refine r_iload_n rfl dX8_set_51 ?_
              refine r_cV1v (T := TX3) (N := 8) moX3_putWalls lkX8_102 rfl rfl (Nat.le_of_ble_eq_true rfl) ⟨by decide, by decide⟩ (Nat.le_of_ble_eq_true rfl) dX8_set_52 rfl (c_putWalls la3) (fun h4 q4 => ?_)
              have qq := q4
              refine r_goto 66 dX8_set_55 (by decide) ?_
              refine r_iload_n rfl dX8_set_66 ?_
              refine ret_i dX8_set_67 rfl ?_
              first
                | exact Or.inr ⟨c_1, c_6, c_10, c_15, Or.inl ⟨c_22, rfl, CP_rule (i := 0) I hb (Bd02 c_10 c_15) (by omega) qq⟩⟩
                | exact Or.inr ⟨c_1, c_6, c_10, c_15, Or.inr ⟨c_22, rfl, CP_rule (i := 1) I hb (Bd02 c_10 c_15) (by omega) qq⟩⟩
                | exact absurd c_22 c_44
                | exact absurd c_44 c_22
        · refine r_bipush (v := (-2 : Int32)) (by decide) dX8_set_18 ?_
          refine ret_i dX8_set_20 rfl ?_
          exact Or.inl ⟨by first | exact Or.inl c_1 | exact Or.inr (Or.inl c_6) | exact Or.inr (Or.inr (Or.inl c_10)) | exact Or.inr (Or.inr (Or.inr (Int32.not_le.mp c_15))), rfl, rfl⟩

