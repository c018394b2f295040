def moS (E : Ec) (l : Nat) : Int32 := goodS E (lab fun _ => 0) l - goodS E (lab fun l => l) l
def wnF (E : Ec) : Nat → Int32
  | 0 => 0
  | l + 1 => wnF E l + (if 0 < -(moS E l) then -(moS E l) else 0)
def wsF (E : Ec) : Nat → Int32
  | 0 => 0
  | l + 1 => wsF E l + (if 0 < moS E l then moS E l else 0)
theorem Can_id (n : Nat) : Can n (fun l => l) := fun l _ => by rw [mx_id]; exact Nat.le_refl _
/-- the lands of union u each alone -/
abbrev scat (r : Nat → Int32) (u : Int32) : Nat → Int32 := fun j => if r j = u then -1 - nI j else r j
def huF (E : Ec) (r : Nat → Int32) (u : Int32) : Nat → Int32
  | 0 => 0
  | l + 1 => if r l = u then huF E r u l else if goodS E (scat r u) l ≤ goodS E r l then huF E r u l else huF E r u l ||| (1 <<< (nI l &&& 31))
def enF (E : Ec) (r : Nat → Int32) (k : Nat) (u : Int32) : Nat → Int32
  | 0 => 0
  | l + 1 => if r l = u then enF E r k u l + (goodS E (upd r k u) l - goodS E r l) else enF E r k u l
theorem scat_lab {f : Nat → Int32} {c : Nat → Nat} {n i : Nat} {u : Int32} (h : ∀ l, l < n → f l = nI (c l)) (hi : i < n) : (if f i = u then -1 - nI i else f i) = scat (lab c) u i := by
  show _ = if nI (c i) = u then -1 - nI i else nI (c i)
  rw [h i hi]
def Kp (h h' : Hp) : Prop := ∀ q, ¬ (8 < q ∧ q ≤ 19) → ¬ (59 ≤ q ∧ q ≤ 61) → h' q = h q

set_option maxRecDepth 100000 in
set_option maxHeartbeats 400000 in
theorem c_whole {g : GG} {n m b : Nat} {x : Int32} {h : Hp} {c : Nat → Nat} (I : CI g h n c m b) : R g mX8_whole 0 [some (.ref (ad g 0)), some (.int x), none, none, none, none, none, none] [] h (Ri fun v h' => ((x < 0 ∨ 2 < x) ∧ v = -2 ∧ h' = h) ∨ (¬ x < 0 ∧ x ≤ 2 ∧ v = (if x = 2 then (if wsF (eH h 3 n) n < wnF (eH h 3 n) n then 0 else 1) else if x = 0 then wnF (eH h 3 n) n else wsF (eH h 3 n) n) ∧ CP g h h' n c m b (eH h 3 n) (h 55))) := by
  have hn6 := I.1.2.1
  have h0 : h 3 0 = nI n := I.1.2.2.1
  have loop : ¬ x < 0 → x ≤ 2 → ∀ (hh : Hp), Kp h hh → GC hh 2 n → Kn hh 2 n (fun _ => 0) → Kn hh 2 n (fun l => l) → ∀ (z l : Nat) (x4 x5 : Int32) (y : Option Value), l ≤ n → n < l + z → x4 = wnF (eH h 3 n) l → x5 = wsF (eH h 3 n) l → R g mX8_whole 73 [some (.ref (ad g 0)), some (.int x), some (.int (nI (plc n (fun l => l) n * 6))), some (.int (nI (plc n (fun _ => 0) n * 6))), some (.int x4), some (.int x5), some (.int (nI l)), y] [] hh (Ri fun v h' => ((x < 0 ∨ 2 < x) ∧ v = -2 ∧ h' = h) ∨ (¬ x < 0 ∧ x ≤ 2 ∧ v = (if x = 2 then (if wsF (eH h 3 n) n < wnF (eH h 3 n) n then 0 else 1) else if x = 0 then wnF (eH h 3 n) n else wsF (eH h 3 n) n) ∧ CP g h h' n c m b (eH h 3 n) (h 55))) := by
    intro hx1 hx2 hh k1 g1 m1 n1 z
    have eE : eH hh 3 n = eH h 3 n := eH_keep (fun q a b => k1 q (by omega) (by omega))
    induction z with
    | zero => intro l x4 x5 y a b; omega
    | succ z ih =>
      intro l x4 x5 y a b e4 e5
      subst e4; subst e5
      refine r_iload rfl dX8_whole_73 ?_
      refine r_aload_n rfl dX8_whole_75 ?_
      refine r_getR foX8_23 rfl rfl dX8_whole_76 ?_
      refine r_getI foX8_73 rfl rfl dX8_whole_79 ?_
      rw [k1 3 (by omega) (by omega), h0]
      refine r_icmp_ge 137 dX8_whole_82 (by decide) (fun c_82 => ?_) (fun c_82 => ?_)
      · refine r_iload_n rfl dX8_whole_137 ?_
        refine r_iconst (v := (2 : Int32)) (by decide) dX8_whole_138 ?_
        refine r_icmp_ne 155 dX8_whole_139 (by decide) (fun c_139 => ?_) (fun c_139 => ?_)
        · refine r_iload_n rfl dX8_whole_155 ?_
          refine r_if_ne 164 dX8_whole_156 (by decide) (fun c_156 => ?_) (fun c_156 => ?_)
          · refine r_iload rfl dX8_whole_164 ?_
            refine ret_i dX8_whole_166 rfl ?_
            have e : l = n := by have := ge_y (by omega) (by omega) c_82; omega
            subst e
            refine Or.inr ⟨hx1, hx2, ?_, CP.judg I k1 g1⟩
            first
              | rw [if_neg c_139, if_pos c_156]
              | rw [if_neg c_139, if_neg c_156]
          · refine r_iload rfl dX8_whole_159 ?_
            refine r_goto 166 dX8_whole_161 (by decide) ?_
            refine ret_i dX8_whole_166 rfl ?_
            have e : l = n := by have := ge_y (by omega) (by omega) c_82; omega
            subst e
            refine Or.inr ⟨hx1, hx2, ?_, CP.judg I k1 g1⟩
            first
              | rw [if_neg c_139, if_pos c_156]
              | rw [if_neg c_139, if_neg c_156]
        · refine r_iload rfl dX8_whole_142 ?_
          refine r_iload rfl dX8_whole_144 ?_
          refine r_icmp_gt 153 dX8_whole_146 (by decide) (fun c_146 => ?_) (fun c_146 => ?_)
          · refine r_iconst (v := (0 : Int32)) (by decide) dX8_whole_153 ?_
            refine ret_i dX8_whole_154 rfl ?_
            have e : l = n := by have := ge_y (by omega) (by omega) c_82; omega
            subst e
            refine Or.inr ⟨hx1, hx2, ?_, CP.judg I k1 g1⟩
            first
              | rw [if_pos c_139, if_pos c_146]
              | rw [if_pos c_139, if_neg c_146]
          · refine r_iconst (v := (1 : Int32)) (by decide) dX8_whole_149 ?_
            refine r_goto 154 dX8_whole_150 (by decide) ?_
            refine ret_i dX8_whole_154 rfl ?_
            have e : l = n := by have := ge_y (by omega) (by omega) c_82; omega
            subst e
            refine Or.inr ⟨hx1, hx2, ?_, CP.judg I k1 g1⟩
            first
              | rw [if_pos c_139, if_pos c_146]
              | rw [if_pos c_139, if_neg c_146]
      · have hlk : l < n := ge_n (by omega) c_82
        refine r_aload_n rfl dX8_whole_85 ?_
        refine r_getR foX8_28 rfl rfl dX8_whole_86 ?_
        refine r_iload_n rfl dX8_whole_89 ?_
        refine r_iload rfl dX8_whole_90 ?_
        refine r_cV2i (T := TX0) (N := 4) moX0_at lkX8_164 rfl rfl (Nat.le_of_ble_eq_true rfl) ⟨by decide, by decide⟩ (Nat.le_of_ble_eq_true rfl) dX8_whole_92 rfl (c_at jd1.2.1 (plc_lt hn6 (Can_0 n)) (by omega)) (fun v21 h21 q21 => ?_)
        obtain ⟨e21, f21⟩ := q21
        rw [e21, f21, g1.val (Can_0 n) m1 hlk, show eH hh (2 + 1) n = eH h 3 n from eE]
        refine r_aload_n rfl dX8_whole_95 ?_
        refine r_getR foX8_28 rfl rfl dX8_whole_96 ?_
        refine r_iload_n rfl dX8_whole_99 ?_
        refine r_iload rfl dX8_whole_100 ?_
        refine r_cV2i (T := TX0) (N := 4) moX0_at lkX8_164 rfl rfl (Nat.le_of_ble_eq_true rfl) ⟨by decide, by decide⟩ (Nat.le_of_ble_eq_true rfl) dX8_whole_102 rfl (c_at jd1.2.1 (plc_lt hn6 (Can_id n)) (by omega)) (fun v22 h22 q22 => ?_)
        obtain ⟨e22, f22⟩ := q22
        rw [e22, f22, g1.val (Can_id n) n1 hlk, show eH hh (2 + 1) n = eH h 3 n from eE]
        refine r_isub dX8_whole_105 ?_
        refine r_ist7 rfl (by decide) dX8_whole_106 ?_
        refine r_iload rfl dX8_whole_108 ?_
        refine r_iconst (v := (0 : Int32)) (by decide) dX8_whole_110 ?_
        refine r_iload rfl dX8_whole_111 ?_
        refine r_ineg dX8_whole_113 ?_
        refine r_max lkX8_171 ⟨by decide, Nat.le_of_ble_eq_true rfl⟩ dX8_whole_114 ?_
        refine r_iadd dX8_whole_117 ?_
        refine r_ist4 rfl (by decide) dX8_whole_118 ?_
        refine r_iload rfl dX8_whole_120 ?_
        refine r_iconst (v := (0 : Int32)) (by decide) dX8_whole_122 ?_
        refine r_iload rfl dX8_whole_123 ?_
        refine r_max lkX8_171 ⟨by decide, Nat.le_of_ble_eq_true rfl⟩ dX8_whole_125 ?_
        refine r_iadd dX8_whole_128 ?_
        refine r_ist5 rfl (by decide) dX8_whole_129 ?_
        first | refine r_incN6 rfl (by decide) dX8_whole_131 ?_ | refine r_incP6 rfl (by decide) dX8_whole_131 ?_
        refine r_goto 73 dX8_whole_134 (by decide) ?_
        exact ih (l + 1) _ _ _ (by omega) (by omega) rfl rfl
  refine r_iload_n rfl dX8_whole_0 ?_
  refine r_if_lt 9 dX8_whole_1 (by decide) (fun c_1 => ?_) (fun c_1 => ?_)
  · refine r_bipush (v := (-2 : Int32)) (by decide) dX8_whole_9 ?_
    refine ret_i dX8_whole_11 rfl ?_
    exact Or.inl ⟨by first | exact Or.inl c_1 | exact Or.inr (Int32.not_le.mp c_6), rfl, rfl⟩
  · refine r_iload_n rfl dX8_whole_4 ?_
    refine r_iconst (v := (2 : Int32)) (by decide) dX8_whole_5 ?_
    refine r_icmp_le 12 dX8_whole_6 (by decide) (fun c_6 => ?_) (fun c_6 => ?_)
    · refine r_aload_n rfl dX8_whole_12 ?_
      refine r_getR foX8_64 rfl rfl dX8_whole_13 ?_
      refine r_aload_n rfl dX8_whole_16 ?_
      refine r_getR foX8_23 rfl rfl dX8_whole_17 ?_
      refine r_getI foX8_73 rfl rfl dX8_whole_20 ?_
      rw [h0]
      refine r_cV1v (T := TX6) (N := 4) moX6_putAllApart lkX8_198 rfl rfl (Nat.le_of_ble_eq_true rfl) ⟨by decide, by decide⟩ (Nat.le_of_ble_eq_true rfl) dX8_whole_23 rfl (c_putAllApart pa59 hn6) (fun h1 q1 => ?_)
      obtain ⟨ka, sa⟩ := q1
      have ja : JI g h1 2 n := I.1.keep (fun q a b => ka q (by omega) (by omega) (by omega))
      refine r_aload_n rfl dX8_whole_26 ?_
      refine r_getR foX8_28 rfl rfl dX8_whole_27 ?_
      refine r_aload_n rfl dX8_whole_30 ?_
      refine r_getR foX8_64 rfl rfl dX8_whole_31 ?_
      refine r_cV1i (T := TX0) (N := 4) moX0_rowOf lkX8_160 rfl rfl (Nat.le_of_ble_eq_true rfl) ⟨by decide, by decide⟩ (Nat.le_of_ble_eq_true rfl) dX8_whole_34 rfl (c_rowOf jd1.2.1 pa59 (by omega) ja.1 ja.2.1 ja.2.2.1 ja.2.2.2.1 (Can_id n) sa ja.2.2.2.2) (fun v2 h2 q2 => ?_)
      obtain ⟨e2, kb, gb, nb, mb⟩ := q2
      subst e2
      have jb := ja.row kb gb
      refine r_ist2 rfl (by decide) dX8_whole_37 ?_
      refine r_aload_n rfl dX8_whole_38 ?_
      refine r_getR foX8_64 rfl rfl dX8_whole_39 ?_
      refine r_aload_n rfl dX8_whole_42 ?_
      refine r_getR foX8_23 rfl rfl dX8_whole_43 ?_
      refine r_getI foX8_73 rfl rfl dX8_whole_46 ?_
      rw [kb 3 (by omega), ka 3 (by omega) (by omega) (by omega), h0]
      refine r_cV1v (T := TX6) (N := 4) moX6_putAllTogether lkX8_168 rfl rfl (Nat.le_of_ble_eq_true rfl) ⟨by decide, by decide⟩ (Nat.le_of_ble_eq_true rfl) dX8_whole_49 rfl (c_putAllTogether pa59 hn6) (fun h3 q3 => ?_)
      obtain ⟨kc, sc⟩ := q3
      have jc : JI g h3 2 n := jb.keep (fun q a b => kc q (by omega) (by omega) (by omega))
      have nc : Kn h3 2 n (fun l => l) := by rw [Kn, kc _ (by omega) (by omega) (by omega), kc _ (by omega) (by omega) (by omega)]; exact nb
      refine r_aload_n rfl dX8_whole_52 ?_
      refine r_getR foX8_28 rfl rfl dX8_whole_53 ?_
      refine r_aload_n rfl dX8_whole_56 ?_
      refine r_getR foX8_64 rfl rfl dX8_whole_57 ?_
      refine r_cV1i (T := TX0) (N := 4) moX0_rowOf lkX8_160 rfl rfl (Nat.le_of_ble_eq_true rfl) ⟨by decide, by decide⟩ (Nat.le_of_ble_eq_true rfl) dX8_whole_60 rfl (c_rowOf jd1.2.1 pa59 (by omega) jc.1 jc.2.1 jc.2.2.1 jc.2.2.2.1 (Can_0 n) sc jc.2.2.2.2) (fun v4 h4 q4 => ?_)
      obtain ⟨e4, kd, gd, nd, md⟩ := q4
      subst e4
      refine r_ist3 rfl (by decide) dX8_whole_63 ?_
      refine r_iconst (v := (0 : Int32)) (by decide) dX8_whole_64 ?_
      refine r_ist4 rfl (by decide) dX8_whole_65 ?_
      refine r_iconst (v := (0 : Int32)) (by decide) dX8_whole_67 ?_
      refine r_ist5 rfl (by decide) dX8_whole_68 ?_
      refine r_iconst (v := nI 0) (by decide) dX8_whole_70 ?_
      refine r_ist6 rfl (by decide) dX8_whole_71 ?_
      exact loop c_1 c_6 _ (fun q a d => by rw [kd q (by omega), kc q (by omega) (by omega) (by omega), kb q (by omega), ka q (by omega) (by omega) (by omega)]) gd nd (md _ (Can_id n) nc) (n + 1) 0 _ _ _ (by omega) (by omega) rfl rfl
    · refine r_bipush (v := (-2 : Int32)) (by decide) dX8_whole_9 ?_
      refine ret_i dX8_whole_11 rfl ?_
      exact Or.inl ⟨by first | exact Or.inl c_1 | exact Or.inr (Int32.not_le.mp c_6), rfl, rfl⟩

set_option maxRecDepth 100000 in
set_option maxHeartbeats 400000 in
theorem c_hurt {g : GG} {n m b : Nat} {x : Int32} {h : Hp} {c : Nat → Nat} (I : CI g h n c m b) : R g mX8_hurt 0 [some (.ref (ad g 0)), some (.int x), none, none, none, none] [] h (Ri fun v h' => (isL (mx c n) x = 0 ∧ v = -2 ∧ h' = h) ∨ (¬ isL (mx c n) x = 0 ∧ v = huF (eH h 3 n) (lab c) x n ∧ CP g h h' n c m b (eH h 3 n) (h 55))) := by
  have hn6 := I.1.2.1
  have h0 : h 3 0 = nI n := I.1.2.2.1
  have loop : ¬ isL (mx c n) x = 0 → ∀ (hh : Hp) (c2 : Nat → Nat), CanOf n (scat (lab c) x) c2 → Kp h hh → GC hh 2 n → Kn hh 2 n c → Kn hh 2 n c2 → ∀ (z l : Nat) (x4 : Int32), l ≤ n → n < l + z → x4 = huF (eH h 3 n) (lab c) x l → R g mX8_hurt 60 [some (.ref (ad g 0)), some (.int x), some (.int (nI (plc n c n * 6))), some (.int (nI (plc n c2 n * 6))), some (.int x4), some (.int (nI l))] [] hh (Ri fun v h' => (isL (mx c n) x = 0 ∧ v = -2 ∧ h' = h) ∨ (¬ isL (mx c n) x = 0 ∧ v = huF (eH h 3 n) (lab c) x n ∧ CP g h h' n c m b (eH h 3 n) (h 55))) := by
    intro hx hh c2 hc2 k1 g1 n1 m1 z
    have eE : eH hh 3 n = eH h 3 n := eH_keep (fun q a b => k1 q (by omega) (by omega))
    induction z with
    | zero => intro l x4 a b; omega
    | succ z ih =>
      intro l x4 a b e4
      subst e4
      refine r_iload rfl dX8_hurt_60 ?_
      refine r_aload_n rfl dX8_hurt_62 ?_
      refine r_getR foX8_23 rfl rfl dX8_hurt_63 ?_
      refine r_getI foX8_73 rfl rfl dX8_hurt_66 ?_
      rw [k1 3 (by omega) (by omega), h0]
      refine r_icmp_ge 124 dX8_hurt_69 (by decide) (fun c_69 => ?_) (fun c_69 => ?_)
      · refine r_iload rfl dX8_hurt_124 ?_
        refine ret_i dX8_hurt_126 rfl ?_
        have e : l = n := by have := ge_y (by omega) (by omega) c_69; omega
        exact Or.inr ⟨hx, by rw [e], CP.judg I k1 g1⟩
      · have hlk : l < n := ge_n (by omega) c_69
        refine r_aload_n rfl dX8_hurt_72 ?_
        refine r_getR foX8_60 rfl rfl dX8_hurt_73 ?_
        refine r_getR foX8_123 rfl rfl dX8_hurt_76 ?_
        refine r_iload rfl dX8_hurt_79 ?_
        refine r_ild rfl rfl (by omega) (by decide) dX8_hurt_81 ?_
        rw [show hh (56 + 1) l = nI (c l) from (I.2.2.2.2.1.keep (fun q a b => k1 q (by omega) (by omega))).2.2 l hlk]
        refine r_iload_n rfl dX8_hurt_82 ?_
        refine r_icmp_eq 118 dX8_hurt_83 (by decide) (fun c_83 => ?_) (fun c_83 => ?_)
        · first | refine r_incN5 rfl (by decide) dX8_hurt_118 ?_ | refine r_incP5 rfl (by decide) dX8_hurt_118 ?_
          refine r_goto 60 dX8_hurt_121 (by decide) ?_
          first
            | exact ih (l + 1) _ (by omega) (by omega) (by rw [huF, if_pos c_83])
            | exact ih (l + 1) _ (by omega) (by omega) (by rw [huF, if_neg c_83, if_pos (by rw [← good_canH hn6 hc2 hlk]; exact c_106)])
            | exact ih (l + 1) _ (by omega) (by omega) (by rw [huF, if_neg c_83, if_neg (by rw [← good_canH hn6 hc2 hlk]; exact c_106)])
        · refine r_aload_n rfl dX8_hurt_86 ?_
          refine r_getR foX8_28 rfl rfl dX8_hurt_87 ?_
          refine r_iload_n rfl dX8_hurt_90 ?_
          refine r_iload rfl dX8_hurt_91 ?_
          refine r_cV2i (T := TX0) (N := 4) moX0_at lkX8_164 rfl rfl (Nat.le_of_ble_eq_true rfl) ⟨by decide, by decide⟩ (Nat.le_of_ble_eq_true rfl) dX8_hurt_93 rfl (c_at jd1.2.1 (plc_lt hn6 I.2.2.2.1) (by omega)) (fun v21 h21 q21 => ?_)
          obtain ⟨e21, f21⟩ := q21
          rw [e21, f21, g1.val I.2.2.2.1 n1 hlk, show eH hh (2 + 1) n = eH h 3 n from eE]
          refine r_aload_n rfl dX8_hurt_96 ?_
          refine r_getR foX8_28 rfl rfl dX8_hurt_97 ?_
          refine r_iload_n rfl dX8_hurt_100 ?_
          refine r_iload rfl dX8_hurt_101 ?_
          refine r_cV2i (T := TX0) (N := 4) moX0_at lkX8_164 rfl rfl (Nat.le_of_ble_eq_true rfl) ⟨by decide, by decide⟩ (Nat.le_of_ble_eq_true rfl) dX8_hurt_103 rfl (c_at jd1.2.1 (plc_lt hn6 hc2.1) (by omega)) (fun v22 h22 q22 => ?_)
          obtain ⟨e22, f22⟩ := q22
          rw [e22, f22, g1.val hc2.1 m1 hlk, show eH hh (2 + 1) n = eH h 3 n from eE]
          refine r_icmp_ge 118 dX8_hurt_106 (by decide) (fun c_106 => ?_) (fun c_106 => ?_)
          · first | refine r_incN5 rfl (by decide) dX8_hurt_118 ?_ | refine r_incP5 rfl (by decide) dX8_hurt_118 ?_
            refine r_goto 60 dX8_hurt_121 (by decide) ?_
            first
              | exact ih (l + 1) _ (by omega) (by omega) (by rw [huF, if_pos c_83])
              | exact ih (l + 1) _ (by omega) (by omega) (by rw [huF, if_neg c_83, if_pos (by rw [← good_canH hn6 hc2 hlk]; exact c_106)])
              | exact ih (l + 1) _ (by omega) (by omega) (by rw [huF, if_neg c_83, if_neg (by rw [← good_canH hn6 hc2 hlk]; exact c_106)])
          · refine r_iload rfl dX8_hurt_109 ?_
            refine r_iconst (v := (1 : Int32)) (by decide) dX8_hurt_111 ?_
            refine r_iload rfl dX8_hurt_112 ?_
            refine r_ishl dX8_hurt_114 ?_
            refine r_ior dX8_hurt_115 ?_
            refine r_ist4 rfl (by decide) dX8_hurt_116 ?_
            first | refine r_incN5 rfl (by decide) dX8_hurt_118 ?_ | refine r_incP5 rfl (by decide) dX8_hurt_118 ?_
            refine r_goto 60 dX8_hurt_121 (by decide) ?_
            first
              | exact ih (l + 1) _ (by omega) (by omega) (by rw [huF, if_pos c_83])
              | exact ih (l + 1) _ (by omega) (by omega) (by rw [huF, if_neg c_83, if_pos (by rw [← good_canH hn6 hc2 hlk]; exact c_106)])
              | exact ih (l + 1) _ (by omega) (by omega) (by rw [huF, if_neg c_83, if_neg (by rw [← good_canH hn6 hc2 hlk]; exact c_106)])
  refine r_aload_n rfl dX8_hurt_0 ?_
  refine r_iload_n rfl dX8_hurt_1 ?_
  refine r_cV1i (T := TX8) (N := 10) moX8_isUnion lkX8_217 rfl rfl (Nat.le_of_ble_eq_true rfl) ⟨by decide, by decide⟩ (Nat.le_of_ble_eq_true rfl) dX8_hurt_2 rfl (c_isUnion (n := mx c n) I.2.2.2.2.1.2.1) (fun v1 h1 q1 => ?_)
  obtain ⟨e1, f1⟩ := q1
  subst f1
  rw [e1]
  refine r_if_ne 11 dX8_hurt_5 (by decide) (fun c_5 => ?_) (fun c_5 => ?_)
  · refine r_aload_n rfl dX8_hurt_11 ?_
    refine r_getR foX8_64 rfl rfl dX8_hurt_12 ?_
    refine r_aload_n rfl dX8_hurt_15 ?_
    refine r_getR foX8_60 rfl rfl dX8_hurt_16 ?_
    refine r_cV1v (T := TX6) (N := 4) moX6_copy lkX8_221 rfl rfl (Nat.le_of_ble_eq_true rfl) ⟨by decide, by decide⟩ (Nat.le_of_ble_eq_true rfl) dX8_hurt_19 rfl (c_copyP (n := n) (c := c) pa59 pa56 (by omega) hn6 I.2.2.2.2.1) (fun h2 q2 => ?_)
    obtain ⟨ka, sa⟩ := q2
    refine r_aload_n rfl dX8_hurt_22 ?_
    refine r_getR foX8_64 rfl rfl dX8_hurt_23 ?_
    refine r_iload_n rfl dX8_hurt_26 ?_
    refine r_cV1v (T := TX6) (N := 4) moX6_scatter lkX8_231 rfl rfl (Nat.le_of_ble_eq_true rfl) ⟨by decide, by decide⟩ (Nat.le_of_ble_eq_true rfl) dX8_hurt_27 rfl (c_scatter (n := n) (u := x) pa59 hn6 sa.1) (fun h3 q3 => ?_)
    obtain ⟨kb, c2, hc2, sb⟩ := q3
    have hc2 : CanOf n (scat (lab c) x) c2 := hc2.congr (fun i hi => scat_lab sa.2.2 hi)
    have kab : ∀ q, ¬ (59 ≤ q ∧ q ≤ 61) → h3 q = h q := fun q a => by rw [kb q (by omega) (by omega) (by omega), ka q (by omega) (by omega) (by omega)]
    have jb : JI g h3 2 n := I.1.keep (fun q a b => kab q (by omega))
    have sp : PS h3 56 n c := I.2.2.2.2.1.keep (fun q a b => kab q (by omega))
    refine r_aload_n rfl dX8_hurt_30 ?_
    refine r_getR foX8_28 rfl rfl dX8_hurt_31 ?_
    refine r_aload_n rfl dX8_hurt_34 ?_
    refine r_getR foX8_60 rfl rfl dX8_hurt_35 ?_
    refine r_cV1i (T := TX0) (N := 4) moX0_rowOf lkX8_160 rfl rfl (Nat.le_of_ble_eq_true rfl) ⟨by decide, by decide⟩ (Nat.le_of_ble_eq_true rfl) dX8_hurt_38 rfl (c_rowOf jd1.2.1 pa56 (by omega) jb.1 jb.2.1 jb.2.2.1 jb.2.2.2.1 I.2.2.2.1 sp jb.2.2.2.2) (fun v4 h4 q4 => ?_)
    obtain ⟨e4, kc, gc, nc, mc⟩ := q4
    subst e4
    have jc := jb.row kc gc
    have sc : PS h4 59 n c2 := sb.keep (fun q a b => kc q (by omega))
    refine r_ist2 rfl (by decide) dX8_hurt_41 ?_
    refine r_aload_n rfl dX8_hurt_42 ?_
    refine r_getR foX8_28 rfl rfl dX8_hurt_43 ?_
    refine r_aload_n rfl dX8_hurt_46 ?_
    refine r_getR foX8_64 rfl rfl dX8_hurt_47 ?_
    refine r_cV1i (T := TX0) (N := 4) moX0_rowOf lkX8_160 rfl rfl (Nat.le_of_ble_eq_true rfl) ⟨by decide, by decide⟩ (Nat.le_of_ble_eq_true rfl) dX8_hurt_50 rfl (c_rowOf jd1.2.1 pa59 (by omega) jc.1 jc.2.1 jc.2.2.1 jc.2.2.2.1 hc2.1 sc jc.2.2.2.2) (fun v5 h5 q5 => ?_)
    obtain ⟨e5, kd, gd, nd, md⟩ := q5
    subst e5
    have kk : Kp h h5 := fun q a d => by rw [kd q (by omega), kc q (by omega)]; exact kab q d
    refine r_ist3 rfl (by decide) dX8_hurt_53 ?_
    refine r_iconst (v := (0 : Int32)) (by decide) dX8_hurt_54 ?_
    refine r_ist4 rfl (by decide) dX8_hurt_55 ?_
    refine r_iconst (v := nI 0) (by decide) dX8_hurt_57 ?_
    refine r_ist5 rfl (by decide) dX8_hurt_58 ?_
    exact loop c_5 _ c2 hc2 kk gd (md _ I.2.2.2.1 nc) nd (n + 1) 0 _ (by omega) (by omega) rfl
  · refine r_bipush (v := (-2 : Int32)) (by decide) dX8_hurt_8 ?_
    refine ret_i dX8_hurt_10 rfl ?_
    exact Or.inl ⟨c_5, rfl, rfl⟩


