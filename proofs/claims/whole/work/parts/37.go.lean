theorem no0 {o : Int32} {p : Prop} (h : (o = 1 ∧ p) ∨ (o = 0 ∧ ¬ p)) (c : ¬ o = 0) : p := by
  rcases h with h | h
  · exact h.2
  · exact absurd h.1 c
theorem yes0 {o : Int32} {p : Prop} (h : (o = 1 ∧ p) ∨ (o = 0 ∧ ¬ p)) (c : o = 0) : ¬ p := by
  rcases h with h | h
  · rw [h.1] at c; exact absurd c (by decide)
  · exact h.2

set_option maxRecDepth 100000 in
set_option maxHeartbeats 400000 in
theorem c_go {g : GG} {n m b : Nat} {x w : Int32} {h : Hp} {c : Nat → Nat} (I : CI g h n c m b) : R g mX8_go 0 [some (.ref (ad g 0)), some (.int x), some (.int w), none] [] h (Ri fun v h' => (isL n x = 0 ∧ v = -1 ∧ h' = h) ∨ (¬ isL n x = 0 ∧ ¬ w = 0 ∧ ¬ w = 1 ∧ ¬ (¬ w < 10 ∧ ¬ 15 < w) ∧ v = -2 ∧ h' = h) ∨ (¬ isL n x = 0 ∧ (¬ w < 10 ∧ ¬ 15 < w) ∧ isL n (w - 10) = 0 ∧ v = -6 ∧ h' = h) ∨ ∃ k, k < n ∧ x = nI k ∧ CP g h h' n c m b (eH h 3 n) (h 55) ∧ TP (eH h 3 n) n 42 c k h' ∧ (((¬ w < 10 ∧ ¬ 15 < w) ∧ ∃ l, l < n ∧ w - 10 = nI l ∧ v = h' 44 l) ∨ (w = 0 ∧ v = h' 42 1) ∨ (w = 1 ∧ v = h' 42 2))) := by
  have hn6 := I.1.2.1
  have h0 : h 3 0 = nI n := I.1.2.2.1
  have m62 : ∀ o, ((o = 1 ∧ (¬ w < 10 ∧ ¬ 15 < w)) ∨ (o = 0 ∧ ¬ (¬ w < 10 ∧ ¬ 15 < w))) → ¬ isL n x = 0 → (¬ (¬ w < 10 ∧ ¬ 15 < w) → w = 0 ∨ w = 1) → ((¬ w < 10 ∧ ¬ 15 < w) → ¬ isL n (w - 10) = 0) → R g mX8_go 62 [some (.ref (ad g 0)), some (.int x), some (.int w), some (.int o)] [] h (Ri fun v h' => (isL n x = 0 ∧ v = -1 ∧ h' = h) ∨ (¬ isL n x = 0 ∧ ¬ w = 0 ∧ ¬ w = 1 ∧ ¬ (¬ w < 10 ∧ ¬ 15 < w) ∧ v = -2 ∧ h' = h) ∨ (¬ isL n x = 0 ∧ (¬ w < 10 ∧ ¬ 15 < w) ∧ isL n (w - 10) = 0 ∧ v = -6 ∧ h' = h) ∨ ∃ k, k < n ∧ x = nI k ∧ CP g h h' n c m b (eH h 3 n) (h 55) ∧ TP (eH h 3 n) n 42 c k h' ∧ (((¬ w < 10 ∧ ¬ 15 < w) ∧ ∃ l, l < n ∧ w - 10 = nI l ∧ v = h' 44 l) ∨ (w = 0 ∧ v = h' 42 1) ∨ (w = 1 ∧ v = h' 42 2))) := by
    intro o ho hx hz hi
    obtain ⟨k, hk, rfl⟩ := isL_y (by omega) hx
    refine r_aload_n rfl dX8_go_62 ?_
    refine r_getR foX8_39 rfl rfl dX8_go_63 ?_
    refine r_aload_n rfl dX8_go_66 ?_
    refine r_getR foX8_10 rfl rfl dX8_go_67 ?_
    refine r_aload_n rfl dX8_go_70 ?_
    refine r_getR foX8_60 rfl rfl dX8_go_71 ?_
    refine r_iload_n rfl dX8_go_74 ?_
    refine r_cV3v (T := TX1) (N := 7) moX1_travel lkX8_186 rfl rfl (Nat.le_of_ble_eq_true rfl) ⟨by decide, by decide⟩ (Nat.le_of_ble_eq_true rfl) dX8_go_75 rfl (c_travel jo42 jd1 pa56 (Or.inl (by omega)) (Or.inl (by omega)) (Or.inl (by omega)) I.1 I.2.2.2.1 I.2.2.2.2.1 hk) (fun h1 q1 => ?_)
    obtain ⟨kx, gx, tp⟩ := q1
    have cp := CP.trav I kx gx
    refine r_iload_n rfl dX8_go_78 ?_
    refine r_if_eq 98 dX8_go_79 (by decide) (fun c_79 => ?_) (fun c_79 => ?_)
    · refine r_iload_n rfl dX8_go_98 ?_
      refine r_if_ne 112 dX8_go_99 (by decide) (fun c_99 => ?_) (fun c_99 => ?_)
      · refine r_aload_n rfl dX8_go_112 ?_
        refine r_getR foX8_39 rfl rfl dX8_go_113 ?_
        refine r_getI foX8_195 rfl rfl dX8_go_116 ?_
        refine ret_i dX8_go_119 rfl ?_
        first
          | exact Or.inr (Or.inr (Or.inr ⟨k, hk, rfl, cp, tp, Or.inr (Or.inl ⟨c_99, rfl⟩)⟩))
          | exact Or.inr (Or.inr (Or.inr ⟨k, hk, rfl, cp, tp, Or.inr (Or.inr ⟨(hz (yes0 ho c_79)).resolve_left c_99, rfl⟩)⟩))
      · refine r_aload_n rfl dX8_go_102 ?_
        refine r_getR foX8_39 rfl rfl dX8_go_103 ?_
        refine r_getI foX8_192 rfl rfl dX8_go_106 ?_
        refine r_goto 119 dX8_go_109 (by decide) ?_
        refine ret_i dX8_go_119 rfl ?_
        first
          | exact Or.inr (Or.inr (Or.inr ⟨k, hk, rfl, cp, tp, Or.inr (Or.inl ⟨c_99, rfl⟩)⟩))
          | exact Or.inr (Or.inr (Or.inr ⟨k, hk, rfl, cp, tp, Or.inr (Or.inr ⟨(hz (yes0 ho c_79)).resolve_left c_99, rfl⟩)⟩))
    · have hof := no0 ho c_79
      obtain ⟨l, hl, el⟩ := isL_y (by omega) (hi hof)
      refine r_aload_n rfl dX8_go_82 ?_
      refine r_getR foX8_39 rfl rfl dX8_go_83 ?_
      refine r_getR foX8_190 rfl rfl dX8_go_86 ?_
      refine r_getR foX8_123 rfl rfl dX8_go_89 ?_
      refine r_iload_n rfl dX8_go_92 ?_
      refine r_bipush (v := (10 : Int32)) (by decide) dX8_go_93 ?_
      refine r_isub dX8_go_95 ?_
      refine r_ild rfl el (by omega) (by decide) dX8_go_96 ?_
      refine ret_i dX8_go_97 rfl ?_
      exact Or.inr (Or.inr (Or.inr ⟨k, hk, rfl, cp, tp, Or.inl ⟨hof, l, hl, el, rfl⟩⟩))
  have m44 : ∀ o, ((o = 1 ∧ (¬ w < 10 ∧ ¬ 15 < w)) ∨ (o = 0 ∧ ¬ (¬ w < 10 ∧ ¬ 15 < w))) → ¬ isL n x = 0 → (¬ (¬ w < 10 ∧ ¬ 15 < w) → w = 0 ∨ w = 1) → R g mX8_go 44 [some (.ref (ad g 0)), some (.int x), some (.int w), some (.int o)] [] h (Ri fun v h' => (isL n x = 0 ∧ v = -1 ∧ h' = h) ∨ (¬ isL n x = 0 ∧ ¬ w = 0 ∧ ¬ w = 1 ∧ ¬ (¬ w < 10 ∧ ¬ 15 < w) ∧ v = -2 ∧ h' = h) ∨ (¬ isL n x = 0 ∧ (¬ w < 10 ∧ ¬ 15 < w) ∧ isL n (w - 10) = 0 ∧ v = -6 ∧ h' = h) ∨ ∃ k, k < n ∧ x = nI k ∧ CP g h h' n c m b (eH h 3 n) (h 55) ∧ TP (eH h 3 n) n 42 c k h' ∧ (((¬ w < 10 ∧ ¬ 15 < w) ∧ ∃ l, l < n ∧ w - 10 = nI l ∧ v = h' 44 l) ∨ (w = 0 ∧ v = h' 42 1) ∨ (w = 1 ∧ v = h' 42 2))) := by
    intro o ho hx hz
    refine r_iload_n rfl dX8_go_44 ?_
    refine r_if_eq 62 dX8_go_45 (by decide) (fun c_45 => ?_) (fun c_45 => ?_)
    · first
        | exact m62 _ ho hx hz (fun q => absurd q (yes0 ho c_45))
        | exact m62 _ ho hx hz (fun _ => c_56)
    · refine r_aload_n rfl dX8_go_48 ?_
      refine r_iload_n rfl dX8_go_49 ?_
      refine r_bipush (v := (10 : Int32)) (by decide) dX8_go_50 ?_
      refine r_isub dX8_go_52 ?_
      refine r_cV1i (T := TX8) (N := 10) moX8_isLand lkX8_84 rfl rfl (Nat.le_of_ble_eq_true rfl) ⟨by decide, by decide⟩ (Nat.le_of_ble_eq_true rfl) dX8_go_53 rfl (c_isLand (n := n) h0) (fun v1 h1 q1 => ?_)
      obtain ⟨e1, f1⟩ := q1
      subst f1
      rw [e1]
      refine r_if_ne 62 dX8_go_56 (by decide) (fun c_56 => ?_) (fun c_56 => ?_)
      · first
          | exact m62 _ ho hx hz (fun q => absurd q (yes0 ho c_45))
          | exact m62 _ ho hx hz (fun _ => c_56)
      · refine r_bipush (v := (-6 : Int32)) (by decide) dX8_go_59 ?_
        refine ret_i dX8_go_61 rfl ?_
        exact Or.inr (Or.inr (Or.inl ⟨hx, no0 ho c_45, c_56, rfl, rfl⟩))
  have m28 : ∀ o, ((o = 1 ∧ (¬ w < 10 ∧ ¬ 15 < w)) ∨ (o = 0 ∧ ¬ (¬ w < 10 ∧ ¬ 15 < w))) → ¬ isL n x = 0 → R g mX8_go 28 [some (.ref (ad g 0)), some (.int x), some (.int w), some (.int o)] [] h (Ri fun v h' => (isL n x = 0 ∧ v = -1 ∧ h' = h) ∨ (¬ isL n x = 0 ∧ ¬ w = 0 ∧ ¬ w = 1 ∧ ¬ (¬ w < 10 ∧ ¬ 15 < w) ∧ v = -2 ∧ h' = h) ∨ (¬ isL n x = 0 ∧ (¬ w < 10 ∧ ¬ 15 < w) ∧ isL n (w - 10) = 0 ∧ v = -6 ∧ h' = h) ∨ ∃ k, k < n ∧ x = nI k ∧ CP g h h' n c m b (eH h 3 n) (h 55) ∧ TP (eH h 3 n) n 42 c k h' ∧ (((¬ w < 10 ∧ ¬ 15 < w) ∧ ∃ l, l < n ∧ w - 10 = nI l ∧ v = h' 44 l) ∨ (w = 0 ∧ v = h' 42 1) ∨ (w = 1 ∧ v = h' 42 2))) := by
    intro o ho hx
    refine r_iload_n rfl dX8_go_28 ?_
    refine r_if_eq 44 dX8_go_29 (by decide) (fun c_29 => ?_) (fun c_29 => ?_)
    · first
        | exact m44 _ ho hx (fun _ => Or.inl c_29)
        | exact m44 _ ho hx (fun _ => Or.inr c_34)
        | exact m44 _ ho hx (fun q => absurd (no0 ho c_38) q)
    · refine r_iload_n rfl dX8_go_32 ?_
      refine r_iconst (v := (1 : Int32)) (by decide) dX8_go_33 ?_
      refine r_icmp_eq 44 dX8_go_34 (by decide) (fun c_34 => ?_) (fun c_34 => ?_)
      · first
          | exact m44 _ ho hx (fun _ => Or.inl c_29)
          | exact m44 _ ho hx (fun _ => Or.inr c_34)
          | exact m44 _ ho hx (fun q => absurd (no0 ho c_38) q)
      · refine r_iload_n rfl dX8_go_37 ?_
        refine r_if_ne 44 dX8_go_38 (by decide) (fun c_38 => ?_) (fun c_38 => ?_)
        · first
            | exact m44 _ ho hx (fun _ => Or.inl c_29)
            | exact m44 _ ho hx (fun _ => Or.inr c_34)
            | exact m44 _ ho hx (fun q => absurd (no0 ho c_38) q)
        · refine r_bipush (v := (-2 : Int32)) (by decide) dX8_go_41 ?_
          refine ret_i dX8_go_43 rfl ?_
          exact Or.inr (Or.inl ⟨hx, c_29, c_34, yes0 ho c_38, rfl, rfl⟩)
  refine r_aload_n rfl dX8_go_0 ?_
  refine r_iload_n rfl dX8_go_1 ?_
  refine r_cV1i (T := TX8) (N := 10) moX8_isLand lkX8_84 rfl rfl (Nat.le_of_ble_eq_true rfl) ⟨by decide, by decide⟩ (Nat.le_of_ble_eq_true rfl) dX8_go_2 rfl (c_isLand (n := n) h0) (fun v1 h1 q1 => ?_)
  obtain ⟨e1, f1⟩ := q1
  subst f1
  rw [e1]
  refine r_if_ne 10 dX8_go_5 (by decide) (fun c_5 => ?_) (fun c_5 => ?_)
  · refine r_iload_n rfl dX8_go_10 ?_
    refine r_bipush (v := (10 : Int32)) (by decide) dX8_go_11 ?_
    refine r_icmp_lt 26 dX8_go_13 (by decide) (fun c_13 => ?_) (fun c_13 => ?_)
    · refine r_iconst (v := (0 : Int32)) (by decide) dX8_go_26 ?_
      refine r_ist3 rfl (by decide) dX8_go_27 ?_
      first
        | exact m28 _ (Or.inr ⟨rfl, fun q => q.1 c_13⟩) c_5
        | exact m28 _ (Or.inr ⟨rfl, fun q => q.2 c_19⟩) c_5
        | exact m28 _ (Or.inl ⟨rfl, c_13, c_19⟩) c_5
    · refine r_iload_n rfl dX8_go_16 ?_
      refine r_bipush (v := (15 : Int32)) (by decide) dX8_go_17 ?_
      refine r_icmp_gt 26 dX8_go_19 (by decide) (fun c_19 => ?_) (fun c_19 => ?_)
      · refine r_iconst (v := (0 : Int32)) (by decide) dX8_go_26 ?_
        refine r_ist3 rfl (by decide) dX8_go_27 ?_
        first
          | exact m28 _ (Or.inr ⟨rfl, fun q => q.1 c_13⟩) c_5
          | exact m28 _ (Or.inr ⟨rfl, fun q => q.2 c_19⟩) c_5
          | exact m28 _ (Or.inl ⟨rfl, c_13, c_19⟩) c_5
      · refine r_iconst (v := (1 : Int32)) (by decide) dX8_go_22 ?_
        refine r_goto 27 dX8_go_23 (by decide) ?_
        refine r_ist3 rfl (by decide) dX8_go_27 ?_
        first
          | exact m28 _ (Or.inr ⟨rfl, fun q => q.1 c_13⟩) c_5
          | exact m28 _ (Or.inr ⟨rfl, fun q => q.2 c_19⟩) c_5
          | exact m28 _ (Or.inl ⟨rfl, c_13, c_19⟩) c_5
  · refine r_iconst (v := (-1 : Int32)) (by decide) dX8_go_8 ?_
    refine ret_i dX8_go_9 rfl ?_
    exact Or.inl ⟨c_5, rfl, rfl⟩

