theorem CI.obs {g : GG} {h h' : Hp} {n m b b' : Nat} {c : Nat → Nat} (I : CI g h n c m b) (hL : ∀ q, 3 ≤ q → q ≤ 7 → h' q = h q) (hP : ∀ q, 54 ≤ q → q ≤ 58 → h' q = h q) (hG : GC h' 2 n) (hV : VC h' 39 2 n) (hT : RB h' 21) (hb : b ≤ b') (h22 : ∃ v, h' 22 3 = nI v ∧ v ≤ b') : CI g h' n c m b' := by
  obtain ⟨i1, i2, i3, i4, i5, i6, ⟨v, e1, e2⟩, i8⟩ := I
  exact ⟨⟨i1.1, i1.2.1, by rw [hL _ (by omega) (by omega)]; exact i1.2.2.1, by rw [eH_keep (h := h) (fun q a b => hL q (by omega) (by omega))]; exact i1.2.2.2.1, hG⟩, hV, hT, i4, i5.keep (fun q a b => hP q (by omega) (by omega)), by rw [hP _ (by omega) (by omega)]; exact i6, ⟨v, by rw [hL _ (by omega) (by omega)]; exact e1, by omega⟩, h22⟩
/-- only scratch of the class outside the two judges was written -/
theorem CP.scr {g : GG} {h h' : Hp} {n m b : Nat} {c : Nat → Nat} (I : CI g h n c m b) (hk : ∀ q, ¬ (42 ≤ q ∧ q ≤ 53) → ¬ (59 ≤ q ∧ q ≤ 61) → h' q = h q) : CP g h h' n c m b (eH h 3 n) (h 55) := by
  have I2 := I
  obtain ⟨i1, i2, i3, i4, i5, i6, i7, i8⟩ := I
  refine ⟨fun q a => hk q (by omega) (by omega), CI.obs I2 (fun q a b => hk q (by omega) (by omega)) (fun q a b => hk q (by omega) (by omega)) (i1.2.2.2.2.keep (fun q a b => hk q (by omega) (by omega))) (i2.keep (hk _ (by omega) (by omega)) (hk _ (by omega) (by omega)) (by rw [hk _ (by omega) (by omega)]) (eH_keep (fun q a b => hk q (by omega) (by omega)))) (i3.keep (by rw [hk _ (by omega) (by omega)]) (hk _ (by omega) (by omega))) (Nat.le_refl _) (by rw [hk _ (by omega) (by omega)]; exact i8), eH_keep (fun q a b => hk q (by omega) (by omega)), hk 55 (by omega) (by omega)⟩
theorem CP.jud {g : GG} {h h' : Hp} {n m b : Nat} {c : Nat → Nat} (I : CI g h n c m b) (hk : ∀ q, ¬ (8 < q ∧ q ≤ 19) → ¬ (40 ≤ q ∧ q ≤ 53) → ¬ (59 ≤ q ∧ q ≤ 61) → h' q = h q) (hG : GC h' 2 n) (hV : VC h' 39 2 n) : CP g h h' n c m b (eH h 3 n) (h 55) := by
  have I2 := I
  obtain ⟨i1, i2, i3, i4, i5, i6, i7, i8⟩ := I
  refine ⟨fun q a => hk q (by omega) (by omega) (by omega), CI.obs I2 (fun q a b => hk q (by omega) (by omega) (by omega)) (fun q a b => hk q (by omega) (by omega) (by omega)) hG hV (i3.keep (by rw [hk _ (by omega) (by omega) (by omega)]) (hk _ (by omega) (by omega) (by omega))) (Nat.le_refl _) (by rw [hk _ (by omega) (by omega) (by omega)]; exact i8), eH_keep (fun q a b => hk q (by omega) (by omega) (by omega)), hk 55 (by omega) (by omega) (by omega)⟩

set_option maxRecDepth 100000 in
set_option maxHeartbeats 400000 in
theorem c_told {g : GG} {n m b : Nat} {x : Int32} {h : Hp} {c : Nat → Nat} (I : CI g h n c m b) : R g mX8_told 0 [some (.ref (ad g 0)), some (.int x)] [] h (Ri fun v h' => h' = h ∧ v = (if ¬ x < 10 ∧ ¬ 15 < x then (if isL n (x - 10) = 0 then -6 else eC (eH h 3 n) (x - 10).toNatClampNeg) else if x = nI 0 then nI n else if x = nI 1 then nI m else if x = nI 2 then eWa (eH h 3 n) else if x = nI 3 then eSh (eH h 3 n) else if x = nI 4 then nI (mx c n) else -2)) := by
  have hn6 := I.1.2.1
  refine r_iload_n rfl dX8_told_0 ?_
  refine r_bipush (v := (10 : Int32)) (by decide) dX8_told_1 ?_
  refine r_icmp_lt 41 dX8_told_3 (by decide) (fun c_3 => ?_) (fun c_3 => ?_)
  · have hne : ¬ (¬ x < 10 ∧ ¬ 15 < x) := fun q => by first | exact q.1 c_3 | exact q.2 c_9
    refine r_iload_n rfl dX8_told_41 ?_
    by_cases t_0 : x = nI 0
    · refine r_tsIn 76 dX8_told_42 (by rw [t_0]; decide) (by rw [t_0]; decide) (by rw [t_0]; rfl) (by decide) ?_
      refine r_aload_n rfl dX8_told_76 ?_
      refine r_getR foX8_23 rfl rfl dX8_told_77 ?_
      refine r_getI foX8_73 rfl rfl dX8_told_80 ?_
      rw [show h 3 0 = nI n from I.1.2.2.1]
      refine ret_i dX8_told_83 rfl ?_
      exact ⟨rfl, by rw [if_neg hne, if_pos t_0]⟩
    ·
      by_cases t_1 : x = nI 1
      · refine r_tsIn 84 dX8_told_42 (by rw [t_1]; decide) (by rw [t_1]; decide) (by rw [t_1]; rfl) (by decide) ?_
        refine r_aload_n rfl dX8_told_84 ?_
        refine r_getR foX8_53 rfl rfl dX8_told_85 ?_
        refine r_getI foX8_109 rfl rfl dX8_told_88 ?_
        rw [I.2.2.2.2.2.1.1]
        refine ret_i dX8_told_91 rfl ?_
        exact ⟨rfl, by rw [if_neg hne, if_neg t_0, if_pos t_1]⟩
      ·
        by_cases t_2 : x = nI 2
        · refine r_tsIn 92 dX8_told_42 (by rw [t_2]; decide) (by rw [t_2]; decide) (by rw [t_2]; rfl) (by decide) ?_
          refine r_aload_n rfl dX8_told_92 ?_
          refine r_getR foX8_23 rfl rfl dX8_told_93 ?_
          refine r_getI foX8_96 rfl rfl dX8_told_96 ?_
          refine ret_i dX8_told_99 rfl ?_
          exact ⟨rfl, by rw [if_neg hne, if_neg t_0, if_neg t_1, if_pos t_2]; rfl⟩
        ·
          by_cases t_3 : x = nI 3
          · refine r_tsIn 100 dX8_told_42 (by rw [t_3]; decide) (by rw [t_3]; decide) (by rw [t_3]; rfl) (by decide) ?_
            refine r_aload_n rfl dX8_told_100 ?_
            refine r_getR foX8_23 rfl rfl dX8_told_101 ?_
            refine r_getI foX8_99 rfl rfl dX8_told_104 ?_
            refine ret_i dX8_told_107 rfl ?_
            exact ⟨rfl, by rw [if_neg hne, if_neg t_0, if_neg t_1, if_neg t_2, if_pos t_3]; rfl⟩
          ·
            by_cases t_4 : x = nI 4
            · refine r_tsIn 108 dX8_told_42 (by rw [t_4]; decide) (by rw [t_4]; decide) (by rw [t_4]; rfl) (by decide) ?_
              refine r_aload_n rfl dX8_told_108 ?_
              refine r_getR foX8_60 rfl rfl dX8_told_109 ?_
              refine r_getI foX8_120 rfl rfl dX8_told_112 ?_
              rw [I.2.2.2.2.1.2.1]
              refine ret_i dX8_told_115 rfl ?_
              exact ⟨rfl, by rw [if_neg hne, if_neg t_0, if_neg t_1, if_neg t_2, if_neg t_3, if_pos t_4]⟩
            · refine r_tsOut 116 dX8_told_42 (by have := tsOut (x := x) 4 (by decide) (fun i hi => by rcases (show i = 0 ∨ i = 1 ∨ i = 2 ∨ i = 3 ∨ i = 4 by omega) with rfl | rfl | rfl | rfl | rfl <;> assumption); omega) (by decide) ?_
              refine r_bipush (v := (-2 : Int32)) (by decide) dX8_told_116 ?_
              refine ret_i dX8_told_118 rfl ?_
              exact ⟨rfl, by rw [if_neg hne, if_neg t_0, if_neg t_1, if_neg t_2, if_neg t_3, if_neg t_4]⟩
  · refine r_iload_n rfl dX8_told_6 ?_
    refine r_bipush (v := (15 : Int32)) (by decide) dX8_told_7 ?_
    refine r_icmp_gt 41 dX8_told_9 (by decide) (fun c_9 => ?_) (fun c_9 => ?_)
    · have hne : ¬ (¬ x < 10 ∧ ¬ 15 < x) := fun q => by first | exact q.1 c_3 | exact q.2 c_9
      refine r_iload_n rfl dX8_told_41 ?_
      by_cases t_0 : x = nI 0
      · refine r_tsIn 76 dX8_told_42 (by rw [t_0]; decide) (by rw [t_0]; decide) (by rw [t_0]; rfl) (by decide) ?_
        refine r_aload_n rfl dX8_told_76 ?_
        refine r_getR foX8_23 rfl rfl dX8_told_77 ?_
        refine r_getI foX8_73 rfl rfl dX8_told_80 ?_
        rw [show h 3 0 = nI n from I.1.2.2.1]
        refine ret_i dX8_told_83 rfl ?_
        exact ⟨rfl, by rw [if_neg hne, if_pos t_0]⟩
      ·
        by_cases t_1 : x = nI 1
        · refine r_tsIn 84 dX8_told_42 (by rw [t_1]; decide) (by rw [t_1]; decide) (by rw [t_1]; rfl) (by decide) ?_
          refine r_aload_n rfl dX8_told_84 ?_
          refine r_getR foX8_53 rfl rfl dX8_told_85 ?_
          refine r_getI foX8_109 rfl rfl dX8_told_88 ?_
          rw [I.2.2.2.2.2.1.1]
          refine ret_i dX8_told_91 rfl ?_
          exact ⟨rfl, by rw [if_neg hne, if_neg t_0, if_pos t_1]⟩
        ·
          by_cases t_2 : x = nI 2
          · refine r_tsIn 92 dX8_told_42 (by rw [t_2]; decide) (by rw [t_2]; decide) (by rw [t_2]; rfl) (by decide) ?_
            refine r_aload_n rfl dX8_told_92 ?_
            refine r_getR foX8_23 rfl rfl dX8_told_93 ?_
            refine r_getI foX8_96 rfl rfl dX8_told_96 ?_
            refine ret_i dX8_told_99 rfl ?_
            exact ⟨rfl, by rw [if_neg hne, if_neg t_0, if_neg t_1, if_pos t_2]; rfl⟩
          ·
            by_cases t_3 : x = nI 3
            · refine r_tsIn 100 dX8_told_42 (by rw [t_3]; decide) (by rw [t_3]; decide) (by rw [t_3]; rfl) (by decide) ?_
              refine r_aload_n rfl dX8_told_100 ?_
              refine r_getR foX8_23 rfl rfl dX8_told_101 ?_
              refine r_getI foX8_99 rfl rfl dX8_told_104 ?_
              refine ret_i dX8_told_107 rfl ?_
              exact ⟨rfl, by rw [if_neg hne, if_neg t_0, if_neg t_1, if_neg t_2, if_pos t_3]; rfl⟩
            ·
              by_cases t_4 : x = nI 4
              · refine r_tsIn 108 dX8_told_42 (by rw [t_4]; decide) (by rw [t_4]; decide) (by rw [t_4]; rfl) (by decide) ?_
                refine r_aload_n rfl dX8_told_108 ?_
                refine r_getR foX8_60 rfl rfl dX8_told_109 ?_
                refine r_getI foX8_120 rfl rfl dX8_told_112 ?_
                rw [I.2.2.2.2.1.2.1]
                refine ret_i dX8_told_115 rfl ?_
                exact ⟨rfl, by rw [if_neg hne, if_neg t_0, if_neg t_1, if_neg t_2, if_neg t_3, if_pos t_4]⟩
              · refine r_tsOut 116 dX8_told_42 (by have := tsOut (x := x) 4 (by decide) (fun i hi => by rcases (show i = 0 ∨ i = 1 ∨ i = 2 ∨ i = 3 ∨ i = 4 by omega) with rfl | rfl | rfl | rfl | rfl <;> assumption); omega) (by decide) ?_
                refine r_bipush (v := (-2 : Int32)) (by decide) dX8_told_116 ?_
                refine ret_i dX8_told_118 rfl ?_
                exact ⟨rfl, by rw [if_neg hne, if_neg t_0, if_neg t_1, if_neg t_2, if_neg t_3, if_neg t_4]⟩
    · refine r_aload_n rfl dX8_told_12 ?_
      refine r_iload_n rfl dX8_told_13 ?_
      refine r_bipush (v := (10 : Int32)) (by decide) dX8_told_14 ?_
      refine r_isub dX8_told_16 ?_
      refine r_cV1i (T := TX8) (N := 10) moX8_isLand lkX8_84 rfl rfl (Nat.le_of_ble_eq_true rfl) ⟨by decide, by decide⟩ (Nat.le_of_ble_eq_true rfl) dX8_told_17 rfl (c_isLand (n := n) I.1.2.2.1) (fun v1 h1 q1 => ?_)
      obtain ⟨e1, f1⟩ := q1
      subst f1
      rw [e1]
      refine r_if_eq 38 dX8_told_20 (by decide) (fun c_20 => ?_) (fun c_20 => ?_)
      · refine r_bipush (v := (-6 : Int32)) (by decide) dX8_told_38 ?_
        refine ret_i dX8_told_40 rfl ?_
        first
          | exact ⟨rfl, by rw [if_pos ⟨c_3, c_9⟩, if_pos c_20]⟩
          | exact ⟨rfl, by rw [if_pos ⟨c_3, c_9⟩, if_neg c_20, ek, nI_clamp (by omega)]; rfl⟩
      · obtain ⟨k, hk, ek⟩ := isL_y (by omega) c_20
        refine r_aload_n rfl dX8_told_23 ?_
        refine r_getR foX8_23 rfl rfl dX8_told_24 ?_
        refine r_getR foX8_234 rfl rfl dX8_told_27 ?_
        refine r_iload_n rfl dX8_told_30 ?_
        refine r_bipush (v := (10 : Int32)) (by decide) dX8_told_31 ?_
        refine r_isub dX8_told_33 ?_
        refine r_ild rfl ek (by omega) (by decide) dX8_told_34 ?_
        refine r_goto 40 dX8_told_35 (by decide) ?_
        refine ret_i dX8_told_40 rfl ?_
        first
          | exact ⟨rfl, by rw [if_pos ⟨c_3, c_9⟩, if_pos c_20]⟩
          | exact ⟨rfl, by rw [if_pos ⟨c_3, c_9⟩, if_neg c_20, ek, nI_clamp (by omega)]; rfl⟩

set_option maxRecDepth 100000 in
set_option maxHeartbeats 400000 in
theorem c_part {g : GG} {n m b : Nat} {h : Hp} {c : Nat → Nat} (I : CI g h n c m b) : R g mX8_part 0 [some (.ref (ad g 0))] [] h (Ri fun v h' => (¬ (if n = 0 then 0 else ffF (h 55) (nI n) (nI (2 ^ n) - 1) m 0 0 0) = -6 ∧ v = -5 ∧ h' = h) ∨ ((if n = 0 then 0 else ffF (h 55) (nI n) (nI (2 ^ n) - 1) m 0 0 0) = -6 ∧ ∃ c', CanOf n (pR (h 55) (nI n) (h 57) m).1 c' ∧ v = nI (mx c' n) ∧ CP g h h' n c' 0 b (eH h 3 n) (h 55))) := by
  refine r_aload_n rfl dX8_part_0 ?_
  refine r_getR foX8_53 rfl rfl dX8_part_1 ?_
  refine r_aload_n rfl dX8_part_4 ?_
  refine r_getR foX8_23 rfl rfl dX8_part_5 ?_
  refine r_getI foX8_73 rfl rfl dX8_part_8 ?_
  rw [show h 3 0 = nI n from I.1.2.2.1]
  refine r_cV1i (T := TX5) (N := 2) moX5_firstFault lkX8_112 rfl rfl (Nat.le_of_ble_eq_true rfl) ⟨by decide, by decide⟩ (Nat.le_of_ble_eq_true rfl) dX8_part_11 rfl (c_firstFault pd54 I.1.2.1 I.2.2.2.2.2.1.1 I.2.2.2.2.2.1.2) (fun v1 h1 q1 => ?_)
  obtain ⟨e1, f1⟩ := q1
  subst f1
  rw [e1]
  refine r_bipush (v := (-6 : Int32)) (by decide) dX8_part_14 ?_
  refine r_icmp_eq 22 dX8_part_16 (by decide) (fun c_16 => ?_) (fun c_16 => ?_)
  · refine r_aload_n rfl dX8_part_22 ?_
    refine r_getR foX8_53 rfl rfl dX8_part_23 ?_
    refine r_aload_n rfl dX8_part_26 ?_
    refine r_getR foX8_60 rfl rfl dX8_part_27 ?_
    refine r_cV1v (T := TX5) (N := 2) moX5_putInto lkX8_116 rfl rfl (Nat.le_of_ble_eq_true rfl) ⟨by decide, by decide⟩ (Nat.le_of_ble_eq_true rfl) dX8_part_30 rfl (c_putInto pd54 pa56 (Or.inl (by omega)) I.1.2.1 I.2.2.2.2.2.1.1 I.2.2.2.2.2.1.2 I.2.2.2.2.1.1) (fun h2 q2 => ?_)
    obtain ⟨kp, c', hc', sp⟩ := q2
    refine r_aload_n rfl dX8_part_33 ?_
    refine r_getR foX8_53 rfl rfl dX8_part_34 ?_
    refine r_iconst (v := (0 : Int32)) (by decide) dX8_part_37 ?_
    refine r_putI fpX8_109 rfl rfl dX8_part_38 ?_
    refine r_aload_n rfl dX8_part_41 ?_
    refine r_getR foX8_60 rfl rfl dX8_part_42 ?_
    refine r_getI foX8_120 rfl rfl dX8_part_45 ?_
    rw [hset_ne (by omega), sp.2.1]
    refine ret_i dX8_part_48 rfl ?_
    refine Or.inr ⟨c_16, c', hc', rfl, fun q a => by rw [hset_ne (by omega)]; exact kp q (by omega) (by omega) (by omega), ?_, ?_, ?_⟩
    · refine CI.pad (h := h2) ?_ (fun q a _ => hset_ne a) (by rw [hset_same, upd_eq]; rfl) (by omega) (m := m)
      obtain ⟨i1, i2, i3, i4, i5, i6, i7, i8⟩ := I
      refine ⟨i1.keep (fun q a b => kp q (by omega) (by omega) (by omega)), i2.keep (kp _ (by omega) (by omega) (by omega)) (kp _ (by omega) (by omega) (by omega)) (by rw [kp _ (by omega) (by omega) (by omega)]) (eH_keep (fun q a b => kp q (by omega) (by omega) (by omega))), i3.keep (by rw [kp _ (by omega) (by omega) (by omega)]) (kp _ (by omega) (by omega) (by omega)), hc'.1, sp, by rw [kp _ (by omega) (by omega) (by omega)]; exact i6, by rw [kp _ (by omega) (by omega) (by omega)]; exact i7, by rw [kp _ (by omega) (by omega) (by omega)]; exact i8⟩
    · exact eH_keep (fun q a b => by rw [hset_ne (by omega)]; exact kp q (by omega) (by omega) (by omega))
    · rw [hset_ne (by omega)]; exact kp 55 (by omega) (by omega) (by omega)
  · refine r_bipush (v := (-5 : Int32)) (by decide) dX8_part_19 ?_
    refine ret_i dX8_part_21 rfl ?_
    exact Or.inl ⟨c_16, rfl, rfl⟩

def ofW (E : Ec) (r : Nat → Int32) (k : Nat) (w : Int32) : Int32 := if w = nI 0 then goodS E r k else if w = nI 1 then pS E r k else if w = nI 2 then bS E r k else if w = nI 3 then (if bS E r k ≤ 0 then -6 else nI (sS E r k)) else if w = nI 4 then wallS E r k else takS E r k
theorem ofW_eq {E : Ec} {r r' : Nat → Int32} {k : Nat} {w : Int32} (h : EqN (eN E) r r') (hk : k < eN E) : ofW E r k w = ofW E r' k w := by
  rw [ofW, ofW, good_eq (EcEq.refl E) h hk, pS_pat (EcEq.refl E) (Pat.of_eq h) hk, bS_pat (EcEq.refl E) (Pat.of_eq h) hk, sS_pat (EcEq.refl E) (Pat.of_eq h) hk, wallS_pat (EcEq.refl E) (Pat.of_eq h) hk, takS_pat (EcEq.refl E) (Pat.of_eq h) hk]

set_option maxRecDepth 100000 in
set_option maxHeartbeats 400000 in
theorem c_of {g : GG} {n m b : Nat} {x w : Int32} {h : Hp} {c : Nat → Nat} (I : CI g h n c m b) : R g mX8_of 0 [some (.ref (ad g 0)), some (.int x), some (.int w)] [] h (Ri fun v h' => (isL n x = 0 ∧ v = -1 ∧ h' = h) ∨ (¬ isL n x = 0 ∧ (w < 0 ∨ 5 < w) ∧ v = -2 ∧ h' = h) ∨ ∃ k, k < n ∧ x = nI k ∧ ¬ w < 0 ∧ w ≤ 5 ∧ v = ofW (eH h 3 n) (lab c) k w ∧ CP g h h' n c m b (eH h 3 n) (h 55)) := by
  have hn6 := I.1.2.1
  refine r_aload_n rfl dX8_of_0 ?_
  refine r_iload_n rfl dX8_of_1 ?_
  refine r_cV1i (T := TX8) (N := 10) moX8_isLand lkX8_84 rfl rfl (Nat.le_of_ble_eq_true rfl) ⟨by decide, by decide⟩ (Nat.le_of_ble_eq_true rfl) dX8_of_2 rfl (c_isLand (n := n) I.1.2.2.1) (fun v1 h1 q1 => ?_)
  obtain ⟨e1, f1⟩ := q1
  subst f1
  rw [e1]
  refine r_if_ne 10 dX8_of_5 (by decide) (fun c_5 => ?_) (fun c_5 => ?_)
  · refine r_iload_n rfl dX8_of_10 ?_
    refine r_if_lt 19 dX8_of_11 (by decide) (fun c_11 => ?_) (fun c_11 => ?_)
    · refine r_bipush (v := (-2 : Int32)) (by decide) dX8_of_19 ?_
      refine ret_i dX8_of_21 rfl ?_
      exact Or.inr (Or.inl ⟨c_5, by first | exact Or.inl c_11 | exact Or.inr (Int32.not_le.mp c_16), rfl, rfl⟩)
    · refine r_iload_n rfl dX8_of_14 ?_
      refine r_iconst (v := (5 : Int32)) (by decide) dX8_of_15 ?_
      refine r_icmp_le 22 dX8_of_16 (by decide) (fun c_16 => ?_) (fun c_16 => ?_)
      · refine r_aload_n rfl dX8_of_22 ?_
        refine r_getR foX8_46 rfl rfl dX8_of_23 ?_
        refine r_aload_n rfl dX8_of_26 ?_
        refine r_getR foX8_23 rfl rfl dX8_of_27 ?_
        refine r_aload_n rfl dX8_of_30 ?_
        refine r_getR foX8_60 rfl rfl dX8_of_31 ?_
        refine r_cV2v (T := TX4) (N := 6) moX4_reckon lkX8_127 rfl rfl (Nat.le_of_ble_eq_true rfl) ⟨by decide, by decide⟩ (Nat.le_of_ble_eq_true rfl) dX8_of_34 rfl (c_reckon (n := n) (c := c) ma47 la3 pa56 (Or.inr (by omega)) (Or.inl (by omega)) I.1.2.1 I.1.2.2.1 I.2.2.2.1 I.2.2.2.2.1 (I.1.2.2.2.1.pos I.2.2.2.1 I.2.2.2.2.1.2.2)) (fun h2 q2 => ?_)
        have q3 := q2
        obtain ⟨k, hk, rfl⟩ := isL_y (by omega) c_5
        have he : EqN (eN (eH h 3 n)) (h (56 + 1)) (lab c) := I.2.2.2.2.1.2.2
        obtain ⟨⟨r1, r2, r3, r4⟩, r5, r6⟩ := q3.2 k hk
        rw [good_eq (EcEq.refl _) he hk] at r6
        rw [takS_pat (EcEq.refl _) (Pat.of_eq he) hk] at r5
        rw [bS_pat (EcEq.refl _) (Pat.of_eq he) hk] at r4
        rw [sS_pat (EcEq.refl _) (Pat.of_eq he) hk] at r3
        rw [pS_pat (EcEq.refl _) (Pat.of_eq he) hk] at r2
        rw [wallS_pat (EcEq.refl _) (Pat.of_eq he) hk] at r1
        refine r_iload_n rfl dX8_of_37 ?_
        by_cases t_0 : w = nI 0
        · refine r_tsIn 72 dX8_of_38 (by rw [t_0]; decide) (by rw [t_0]; decide) (by rw [t_0]; rfl) (by decide) ?_
          refine r_aload_n rfl dX8_of_72 ?_
          refine r_getR foX8_46 rfl rfl dX8_of_73 ?_
          refine r_getR foX8_131 rfl rfl dX8_of_76 ?_
          refine r_iload_n rfl dX8_of_79 ?_
          refine r_ild rfl rfl (by omega) (by decide) dX8_of_80 ?_
          rw [r6]
          refine ret_i dX8_of_81 rfl ?_
          refine Or.inr (Or.inr ⟨k, hk, rfl, c_11, c_16, ?_, CP.scr I (fun q a _ => q3.1 q (by omega))⟩)
          rw [ofW, if_pos t_0]
        ·
          by_cases t_1 : w = nI 1
          · refine r_tsIn 82 dX8_of_38 (by rw [t_1]; decide) (by rw [t_1]; decide) (by rw [t_1]; rfl) (by decide) ?_
            refine r_aload_n rfl dX8_of_82 ?_
            refine r_getR foX8_46 rfl rfl dX8_of_83 ?_
            refine r_getR foX8_134 rfl rfl dX8_of_86 ?_
            refine r_iload_n rfl dX8_of_89 ?_
            refine r_ild rfl rfl (by omega) (by decide) dX8_of_90 ?_
            rw [r2]
            refine ret_i dX8_of_91 rfl ?_
            refine Or.inr (Or.inr ⟨k, hk, rfl, c_11, c_16, ?_, CP.scr I (fun q a _ => q3.1 q (by omega))⟩)
            rw [ofW, if_neg t_0, if_pos t_1]
          ·
            by_cases t_2 : w = nI 2
            · refine r_tsIn 92 dX8_of_38 (by rw [t_2]; decide) (by rw [t_2]; decide) (by rw [t_2]; rfl) (by decide) ?_
              refine r_aload_n rfl dX8_of_92 ?_
              refine r_getR foX8_46 rfl rfl dX8_of_93 ?_
              refine r_getR foX8_137 rfl rfl dX8_of_96 ?_
              refine r_iload_n rfl dX8_of_99 ?_
              refine r_ild rfl rfl (by omega) (by decide) dX8_of_100 ?_
              rw [r4]
              refine ret_i dX8_of_101 rfl ?_
              refine Or.inr (Or.inr ⟨k, hk, rfl, c_11, c_16, ?_, CP.scr I (fun q a _ => q3.1 q (by omega))⟩)
              rw [ofW, if_neg t_0, if_neg t_1, if_pos t_2]
            ·
              by_cases t_3 : w = nI 3
              · refine r_tsIn 102 dX8_of_38 (by rw [t_3]; decide) (by rw [t_3]; decide) (by rw [t_3]; rfl) (by decide) ?_
                refine r_aload_n rfl dX8_of_102 ?_
                refine r_getR foX8_46 rfl rfl dX8_of_103 ?_
                refine r_getR foX8_137 rfl rfl dX8_of_106 ?_
                refine r_iload_n rfl dX8_of_109 ?_
                refine r_ild rfl rfl (by omega) (by decide) dX8_of_110 ?_
                rw [r4]
                refine r_if_le 126 dX8_of_111 (by decide) (fun c_111 => ?_) (fun c_111 => ?_)
                · refine r_bipush (v := (-6 : Int32)) (by decide) dX8_of_126 ?_
                  refine ret_i dX8_of_128 rfl ?_
                  refine Or.inr (Or.inr ⟨k, hk, rfl, c_11, c_16, ?_, CP.scr I (fun q a _ => q3.1 q (by omega))⟩)
                  rw [ofW, if_neg t_0, if_neg t_1, if_neg t_2, if_pos t_3]
                  first
                    | rw [if_pos c_111]
                    | rw [if_neg c_111]
                · refine r_aload_n rfl dX8_of_114 ?_
                  refine r_getR foX8_46 rfl rfl dX8_of_115 ?_
                  refine r_getR foX8_140 rfl rfl dX8_of_118 ?_
                  refine r_iload_n rfl dX8_of_121 ?_
                  refine r_ild rfl rfl (by omega) (by decide) dX8_of_122 ?_
                  rw [r3]
                  refine r_goto 128 dX8_of_123 (by decide) ?_
                  refine ret_i dX8_of_128 rfl ?_
                  refine Or.inr (Or.inr ⟨k, hk, rfl, c_11, c_16, ?_, CP.scr I (fun q a _ => q3.1 q (by omega))⟩)
                  rw [ofW, if_neg t_0, if_neg t_1, if_neg t_2, if_pos t_3]
                  first
                    | rw [if_pos c_111]
                    | rw [if_neg c_111]
              ·
                by_cases t_4 : w = nI 4
                · refine r_tsIn 129 dX8_of_38 (by rw [t_4]; decide) (by rw [t_4]; decide) (by rw [t_4]; rfl) (by decide) ?_
                  refine r_aload_n rfl dX8_of_129 ?_
                  refine r_getR foX8_46 rfl rfl dX8_of_130 ?_
                  refine r_getR foX8_143 rfl rfl dX8_of_133 ?_
                  refine r_iload_n rfl dX8_of_136 ?_
                  refine r_ild rfl rfl (by omega) (by decide) dX8_of_137 ?_
                  rw [r1]
                  refine ret_i dX8_of_138 rfl ?_
                  refine Or.inr (Or.inr ⟨k, hk, rfl, c_11, c_16, ?_, CP.scr I (fun q a _ => q3.1 q (by omega))⟩)
                  rw [ofW, if_neg t_0, if_neg t_1, if_neg t_2, if_neg t_3, if_pos t_4]
                · refine r_tsOut 139 dX8_of_38 (by have := tsOut (x := w) 4 (by decide) (fun i hi => by rcases (show i = 0 ∨ i = 1 ∨ i = 2 ∨ i = 3 ∨ i = 4 by omega) with rfl | rfl | rfl | rfl | rfl <;> assumption); omega) (by decide) ?_
                  refine r_aload_n rfl dX8_of_139 ?_
                  refine r_getR foX8_46 rfl rfl dX8_of_140 ?_
                  refine r_getR foX8_146 rfl rfl dX8_of_143 ?_
                  refine r_iload_n rfl dX8_of_146 ?_
                  refine r_ild rfl rfl (by omega) (by decide) dX8_of_147 ?_
                  rw [r5]
                  refine ret_i dX8_of_148 rfl ?_
                  refine Or.inr (Or.inr ⟨k, hk, rfl, c_11, c_16, ?_, CP.scr I (fun q a _ => q3.1 q (by omega))⟩)
                  rw [ofW, if_neg t_0, if_neg t_1, if_neg t_2, if_neg t_3, if_neg t_4]
      · refine r_bipush (v := (-2 : Int32)) (by decide) dX8_of_19 ?_
        refine ret_i dX8_of_21 rfl ?_
        exact Or.inr (Or.inl ⟨c_5, by first | exact Or.inl c_11 | exact Or.inr (Int32.not_le.mp c_16), rfl, rfl⟩)
  · refine r_iconst (v := (-1 : Int32)) (by decide) dX8_of_8 ?_
    refine ret_i dX8_of_9 rfl ?_
    exact Or.inl ⟨c_5, rfl, rfl⟩

