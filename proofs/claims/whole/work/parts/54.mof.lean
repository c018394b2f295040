/-- the reference: n lands E, the parting c, the signs s below m -/
def RF (h : Hp) (n : Nat) (c : Nat → Nat) (m : Nat) (E : Ec) (s : Nat → Int32) : Prop := (n ≤ 6 ∧ h 62 1 = nI n) ∧ (eM h n = E ∧ EOK E) ∧ Can n c ∧ (∀ l, l < n → h 64 l = nI (c l)) ∧ (h 62 7 = nI m ∧ m ≤ 20) ∧ h 66 = s
def RP (h h' : Hp) (n : Nat) (c : Nat → Nat) (m : Nat) (E : Ec) (s : Nat → Int32) : Prop := (∀ q, q < 62 → h' q = h q) ∧ RF h' n c m E s
theorem eM_same {h h' : Hp} {n : Nat} (a : h' 63 = h 63) (b : h' 62 2 = h 62 2) (d : h' 62 3 = h 62 3) : eM h' n = eM h n := by simp only [eM, a, b, d]
theorem RF.obs {h h' : Hp} {n m m' : Nat} {c : Nat → Nat} {E : Ec} {s s' : Nat → Int32} (I : RF h n c m E s) (k1 : h' 62 1 = h 62 1) (k2 : h' 62 2 = h 62 2) (k3 : h' 62 3 = h 62 3) (k63 : h' 63 = h 63) (k64 : h' 64 = h 64) (km : h' 62 7 = nI m') (hm : m' ≤ 20) (ks : h' 66 = s') : RF h' n c m' E s' := by
  obtain ⟨⟨a1, a2⟩, ⟨a3, a4⟩, a5, a6, _, _⟩ := I
  exact ⟨⟨a1, by rw [k1]; exact a2⟩, ⟨by rw [eM_same k63 k2 k3]; exact a3, a4⟩, a5, by rw [k64]; exact a6, ⟨km, hm⟩, ks⟩
theorem RF.keep {h h' : Hp} {n m : Nat} {c : Nat → Nat} {E : Ec} {s : Nat → Int32} (I : RF h n c m E s) (k : ∀ q, q < 65 → h' q = h q) (k2 : h' 66 = h 66) : RP h h' n c m E s :=
  ⟨fun q a => k q (by omega), I.obs (by rw [k 62 (by omega)]) (by rw [k 62 (by omega)]) (by rw [k 62 (by omega)]) (k 63 (by omega)) (k 64 (by omega)) (by rw [k 62 (by omega)]; exact I.2.2.2.2.1.1) I.2.2.2.2.1.2 (by rw [k2]; exact I.2.2.2.2.2)⟩
theorem RF.KN {h h' : Hp} {n m : Nat} {c : Nat → Nat} {E : Ec} {s : Nat → Int32} (I : RF h n c m E s) (k : KN h h') : RP h h' n c m E s := RF.keep I (fun q a => k q (by omega) (by omega) (by omega)) (k 66 (by omega) (by omega) (by omega))
theorem RF.K {h : Hp} {n m : Nat} {c : Nat → Nat} {E : Ec} {s : Nat → Int32} (I : RF h n c m E s) : MK h 64 n c :=
  ⟨⟨rfl, by omega, by omega, by omega, by omega⟩, I.1.1, I.1.2, by rw [I.2.1.1]; exact I.2.1.2, I.2.2.2.1, fun l hl => by have := I.2.2.1.le hl; have := I.1.1; omega, by have := mx_le I.2.2.1 n (Nat.le_refl _); have := I.1.1; omega⟩
theorem rng_0 {a b x : Int32} (h : rng a b x = 0) : ¬ (¬ x < a ∧ ¬ b < x) := fun q => by
  rw [rng, if_neg q.1, if_neg q.2] at h
  exact absurd h (by decide)
theorem rng_1 {a b x : Int32} (h : ¬ rng a b x = 0) : ¬ x < a ∧ ¬ b < x := by
  refine ⟨fun q => h (by rw [rng, if_pos q]), fun q => h ?_⟩
  by_cases z : x < a
  · rw [rng, if_pos z]
  · rw [rng, if_neg z, if_pos q]
theorem rng02 (x : Int32) : rng 0 2 x = isL 3 x := by
  rw [show (2 : Int32) = nI 3 - 1 by decide]
  exact isL_rng (by omega)
theorem bS_0 {E : Ec} {r : Nat → Int32} {k : Nat} (hE : EOK E) (hk : k < eN E) : bS E r k ≤ 0 ↔ bS E r k = 0 := by
  refine ⟨fun q => ?_, fun q => by rw [q]; decide⟩
  have hi := off_iff (A := 99) (B := 179) (a := eW E k) (b := pS E r k) (by obtain ⟨a, b, _, d⟩ := (hE.2.1 k hk).1; exact ⟨a, b, by omega, d⟩) (by_bd (fun q hq => ask_bd hE (wall_bd hE hk) hq) _ (by omega) (Nat.le_refl _)) (by omega) (by omega)
  rw [bS, bouS] at q ⊢
  split at q
  · rename_i z; rw [if_pos z]
  · rename_i z; exact absurd (hi.mp q) z
theorem not5 {w : Int32} (t0 : ¬ w = nI 0) (t1 : ¬ w = nI 1) (t2 : ¬ w = nI 2) (t3 : ¬ w = nI 3) (t4 : ¬ w = nI 4) (t5 : ¬ w = nI 5) : w < 0 ∨ 5 < w := by
  have := tsOut (x := w) 5 (by decide) (fun i hi => by rcases (show i = 0 ∨ i = 1 ∨ i = 2 ∨ i = 3 ∨ i = 4 ∨ i = 5 by omega) with rfl | rfl | rfl | rfl | rfl | rfl <;> assumption)
  rcases this with q | q
  · exact Or.inl (Int32.lt_iff_toInt_lt.mpr q)
  · exact Or.inr (Int32.lt_iff_toInt_lt.mpr q)

set_option maxRecDepth 100000 in
set_option maxHeartbeats 400000 in
theorem m_union {g : GG} {n m : Nat} {h : Hp} {c : Nat → Nat} {E : Ec} {s : Nat → Int32} {x : Int32} (I : RF h n c m E s) : R g mX9_union 0 [some (.ref (ad g 62)), some (.int x)] [] h (Ri fun v h' => h' = h ∧ v = if isL n x = 0 then -1 else nI (c x.toNatClampNeg)) := by
  have hn6 := I.1.1
  have hM := I.2.2.2.2.1.1
  have eE := I.2.1.1
  subst eE
  refine r_aload_n rfl dX9_union_0 ?_
  refine r_iload_n rfl dX9_union_1 ?_
  refine r_cV1i (T := TX9) (N := 21) moX9_isLand lkX9_77 rfl rfl (Nat.le_of_ble_eq_true rfl) ⟨by decide, by decide⟩ (Nat.le_of_ble_eq_true rfl) dX9_union_2 rfl (m_isLand I.1.1 I.1.2) (fun v1 h1 q1 => ?_)
  obtain ⟨e1, f1⟩ := q1
  subst f1
  rw [e1]
  refine r_if_eq 17 dX9_union_5 (by decide) (fun c_5 => ?_) (fun c_5 => ?_)
  · refine r_iconst (v := (-1 : Int32)) (by decide) dX9_union_17 ?_
    refine ret_i dX9_union_18 rfl ?_
    first
      | exact ⟨rfl, by rw [if_pos c_5]⟩
      | exact ⟨rfl, by rw [if_neg c_5, nI_clamp (by omega)]⟩
  · obtain ⟨k, hk, rfl⟩ := isL_y (by omega) c_5
    refine r_aload_n rfl dX9_union_8 ?_
    refine r_getR foX9_13 rfl rfl dX9_union_9 ?_
    refine r_iload_n rfl dX9_union_12 ?_
    refine r_ild rfl rfl (by omega) (by decide) dX9_union_13 ?_
    rw [I.2.2.2.1 k hk]
    refine r_goto 18 dX9_union_14 (by decide) ?_
    refine ret_i dX9_union_18 rfl ?_
    first
      | exact ⟨rfl, by rw [if_pos c_5]⟩
      | exact ⟨rfl, by rw [if_neg c_5, nI_clamp (by omega)]⟩

set_option maxRecDepth 100000 in
set_option maxHeartbeats 400000 in
theorem m_told {g : GG} {n m : Nat} {h : Hp} {c : Nat → Nat} {E : Ec} {s : Nat → Int32} {x : Int32} (I : RF h n c m E s) : R g mX9_told 0 [some (.ref (ad g 62)), some (.int x)] [] h (Ri fun v h' => h' = h ∧ v = (if ¬ x < 10 ∧ ¬ 15 < x then (if isL n (x - 10) = 0 then -6 else eC E (x - 10).toNatClampNeg) else if x = nI 0 then nI n else if x = nI 1 then nI m else if x = nI 2 then eWa E else if x = nI 3 then eSh E else if x = nI 4 then nI (mx c n) else -2)) := by
  have hn6 := I.1.1
  have hM := I.2.2.2.2.1.1
  have eE := I.2.1.1
  subst eE
  refine r_iload_n rfl dX9_told_0 ?_
  refine r_i2l dX9_told_1 ?_
  refine r_ldc2 kcX9_171 dX9_told_2 ?_
  refine r_ldc2 kcX9_173 dX9_told_5 ?_
  refine r_cS3i moX9_in lkX9_59 (Nat.le_of_ble_eq_true rfl) ⟨by decide, by decide⟩ (Nat.le_of_ble_eq_true rfl) dX9_told_8 rfl (c_in (b := 10) (c := 15) (by decide) (by decide)) (fun v1 h1 q1 => ?_)
  obtain ⟨e1, f1⟩ := q1
  subst f1
  rw [e1]
  refine r_if_eq 44 dX9_told_11 (by decide) (fun c_11 => ?_) (fun c_11 => ?_)
  · have hne := rng_0 c_11
    refine r_iload_n rfl dX9_told_44 ?_
    by_cases t_0 : x = nI 0
    · refine r_tsIn 80 dX9_told_45 (by rw [t_0]; decide) (by rw [t_0]; decide) (by rw [t_0]; rfl) (by decide) ?_
      refine r_aload_n rfl dX9_told_80 ?_
      refine r_getI foX9_55 rfl rfl dX9_told_81 ?_
      rw [I.1.2]
      refine ret_i dX9_told_84 rfl ?_
      exact ⟨rfl, by rw [if_neg hne, if_pos t_0]⟩
    ·
      by_cases t_1 : x = nI 1
      · refine r_tsIn 85 dX9_told_45 (by rw [t_1]; decide) (by rw [t_1]; decide) (by rw [t_1]; rfl) (by decide) ?_
        refine r_aload_n rfl dX9_told_85 ?_
        refine r_getI foX9_95 rfl rfl dX9_told_86 ?_
        rw [hM]
        refine ret_i dX9_told_89 rfl ?_
        exact ⟨rfl, by rw [if_neg hne, if_neg t_0, if_pos t_1]⟩
      ·
        by_cases t_2 : x = nI 2
        · refine r_tsIn 90 dX9_told_45 (by rw [t_2]; decide) (by rw [t_2]; decide) (by rw [t_2]; rfl) (by decide) ?_
          refine r_aload_n rfl dX9_told_90 ?_
          refine r_getI foX9_85 rfl rfl dX9_told_91 ?_
          refine ret_i dX9_told_94 rfl ?_
          exact ⟨rfl, by rw [if_neg hne, if_neg t_0, if_neg t_1, if_pos t_2]; rfl⟩
        ·
          by_cases t_3 : x = nI 3
          · refine r_tsIn 95 dX9_told_45 (by rw [t_3]; decide) (by rw [t_3]; decide) (by rw [t_3]; rfl) (by decide) ?_
            refine r_aload_n rfl dX9_told_95 ?_
            refine r_getI foX9_88 rfl rfl dX9_told_96 ?_
            refine ret_i dX9_told_99 rfl ?_
            exact ⟨rfl, by rw [if_neg hne, if_neg t_0, if_neg t_1, if_neg t_2, if_pos t_3]; rfl⟩
          ·
            by_cases t_4 : x = nI 4
            · refine r_tsIn 100 dX9_told_45 (by rw [t_4]; decide) (by rw [t_4]; decide) (by rw [t_4]; rfl) (by decide) ?_
              refine r_aload_n rfl dX9_told_100 ?_
              refine r_aload_n rfl dX9_told_101 ?_
              refine r_getR foX9_13 rfl rfl dX9_told_102 ?_
              refine r_cV1i (T := TX9) (N := 21) moX9_manyOf lkX9_73 rfl rfl (Nat.le_of_ble_eq_true rfl) ⟨by decide, by decide⟩ (Nat.le_of_ble_eq_true rfl) dX9_told_105 rfl (m_manyOf (A := 64) rfl I.1.1 I.1.2 I.2.2.2.1 (fun l hl => by have := I.2.2.1.le hl; omega)) (fun v2 h2 q2 => ?_)
              obtain ⟨e2, f2⟩ := q2
              subst f2
              rw [e2]
              refine ret_i dX9_told_108 rfl ?_
              exact ⟨rfl, by rw [if_neg hne, if_neg t_0, if_neg t_1, if_neg t_2, if_neg t_3, if_pos t_4]⟩
            · refine r_tsOut 109 dX9_told_45 (by have := tsOut (x := x) 4 (by decide) (fun i hi => by rcases (show i = 0 ∨ i = 1 ∨ i = 2 ∨ i = 3 ∨ i = 4 by omega) with rfl | rfl | rfl | rfl | rfl <;> assumption); omega) (by decide) ?_
              refine r_bipush (v := (-2 : Int32)) (by decide) dX9_told_109 ?_
              refine ret_i dX9_told_111 rfl ?_
              exact ⟨rfl, by rw [if_neg hne, if_neg t_0, if_neg t_1, if_neg t_2, if_neg t_3, if_neg t_4]⟩
  · refine r_aload_n rfl dX9_told_14 ?_
    refine r_iload_n rfl dX9_told_15 ?_
    refine r_bipush (v := (10 : Int32)) (by decide) dX9_told_16 ?_
    refine r_isub dX9_told_18 ?_
    refine r_cV1i (T := TX9) (N := 21) moX9_isLand lkX9_77 rfl rfl (Nat.le_of_ble_eq_true rfl) ⟨by decide, by decide⟩ (Nat.le_of_ble_eq_true rfl) dX9_told_19 rfl (m_isLand I.1.1 I.1.2) (fun v3 h3 q3 => ?_)
    obtain ⟨e3, f3⟩ := q3
    subst f3
    rw [e3]
    refine r_if_eq 41 dX9_told_22 (by decide) (fun c_22 => ?_) (fun c_22 => ?_)
    · refine r_bipush (v := (-6 : Int32)) (by decide) dX9_told_41 ?_
      refine ret_i dX9_told_43 rfl ?_
      first
        | exact ⟨rfl, by rw [if_pos (rng_1 c_11), if_pos c_22]⟩
        | exact ⟨rfl, by rw [if_pos (rng_1 c_11), if_neg c_22, nI_clamp (by omega)]; rfl⟩
    · obtain ⟨k, hk, ek⟩ := isL_y (by omega) c_22
      rw [ek] at c_22
      refine r_aload_n rfl dX9_told_25 ?_
      refine r_getR foX9_7 rfl rfl dX9_told_26 ?_
      refine r_iconst (v := (4 : Int32)) (by decide) dX9_told_29 ?_
      refine r_iload_n rfl dX9_told_30 ?_
      refine r_bipush (v := (10 : Int32)) (by decide) dX9_told_31 ?_
      refine r_isub dX9_told_33 ?_
      rw [ek]
      refine r_imul dX9_told_34 ?_
      refine r_iconst (v := nI 1) (by decide) dX9_told_35 ?_
      refine r_iadd dX9_told_36 ?_
      refine r_ild rfl (ix4 k 1) (by omega) (by decide) dX9_told_37 ?_
      refine r_goto 43 dX9_told_38 (by decide) ?_
      refine ret_i dX9_told_43 rfl ?_
      first
        | exact ⟨rfl, by rw [if_pos (rng_1 c_11), if_pos c_22]⟩
        | exact ⟨rfl, by rw [if_pos (rng_1 c_11), if_neg c_22, nI_clamp (by omega)]; rfl⟩

set_option maxRecDepth 100000 in
set_option maxHeartbeats 400000 in
theorem m_wipe {g : GG} {n m : Nat} {h : Hp} {c : Nat → Nat} {E : Ec} {s : Nat → Int32} (I : RF h n c m E s) : R g mX9_wipe 0 [some (.ref (ad g 62)), none] [] h (Ri fun v h' => v = nI m ∧ RP h h' n c 0 E s) := by
  have hn6 := I.1.1
  have hM := I.2.2.2.2.1.1
  have eE := I.2.1.1
  subst eE
  refine r_aload_n rfl dX9_wipe_0 ?_
  refine r_getI foX9_95 rfl rfl dX9_wipe_1 ?_
  rw [hM]
  refine r_ist1 rfl (by decide) dX9_wipe_4 ?_
  refine r_aload_n rfl dX9_wipe_5 ?_
  refine r_iconst (v := nI 0) (by decide) dX9_wipe_6 ?_
  refine r_putI fpX9_95 rfl rfl dX9_wipe_7 ?_
  refine r_iload_n rfl dX9_wipe_10 ?_
  refine ret_i dX9_wipe_11 rfl ?_
  exact ⟨rfl, fun q a => hset_ne (by omega), I.obs (by rw [hset_same, upd_ne (by omega)]) (by rw [hset_same, upd_ne (by omega)]) (by rw [hset_same, upd_ne (by omega)]) (hset_ne (by omega)) (hset_ne (by omega)) (by rw [hset_same, upd_eq]) (by omega) (by rw [hset_ne (by omega)]; exact I.2.2.2.2.2)⟩

set_option maxRecDepth 100000 in
set_option maxHeartbeats 400000 in
theorem m_say {g : GG} {n m : Nat} {h : Hp} {c : Nat → Nat} {E : Ec} {s : Nat → Int32} {x : Int32} (I : RF h n c m E s) : R g mX9_say 0 [some (.ref (ad g 62)), some (.int x)] [] h (Ri fun v h' => ((x < 33 ∨ 126 < x) ∧ v = -2 ∧ h' = h) ∨ (¬ x < 33 ∧ x ≤ 126 ∧ m = 20 ∧ v = -4 ∧ h' = h) ∨ (¬ x < 33 ∧ x ≤ 126 ∧ m < 20 ∧ v = nI (m + 1) ∧ RP h h' n c (m + 1) E (upd s m x))) := by
  have hn6 := I.1.1
  have hM := I.2.2.2.2.1.1
  have eE := I.2.1.1
  subst eE
  refine r_iload_n rfl dX9_say_0 ?_
  refine r_i2l dX9_say_1 ?_
  refine r_ldc2 kcX9_91 dX9_say_2 ?_
  refine r_ldc2 kcX9_93 dX9_say_5 ?_
  refine r_cS3i moX9_in lkX9_59 (Nat.le_of_ble_eq_true rfl) ⟨by decide, by decide⟩ (Nat.le_of_ble_eq_true rfl) dX9_say_8 rfl (c_in (b := 33) (c := 126) (by decide) (by decide)) (fun v1 h1 q1 => ?_)
  obtain ⟨e1, f1⟩ := q1
  subst f1
  rw [e1]
  refine r_if_ne 17 dX9_say_11 (by decide) (fun c_11 => ?_) (fun c_11 => ?_)
  · have hx := rng_1 c_11
    refine r_aload_n rfl dX9_say_17 ?_
    refine r_getI foX9_95 rfl rfl dX9_say_18 ?_
    rw [hM]
    refine r_bipush (v := nI 20) (by decide) dX9_say_21 ?_
    refine r_icmp_ne 29 dX9_say_23 (by decide) (fun c_23 => ?_) (fun c_23 => ?_)
    · have hm20 : m < 20 := by
        have a := I.2.2.2.2.1.2
        have b : ¬ m = 20 := fun q => c_23 (by rw [q])
        omega
      refine r_aload_n rfl dX9_say_29 ?_
      refine r_getR foX9_19 rfl rfl dX9_say_30 ?_
      refine r_aload_n rfl dX9_say_33 ?_
      refine r_getI foX9_95 rfl rfl dX9_say_34 ?_
      rw [hM]
      refine r_iload_n rfl dX9_say_37 ?_
      refine r_ias rfl rfl (by omega) (by decide) dX9_say_38 ?_
      refine r_aload_n rfl dX9_say_39 ?_
      refine r_dup rfl dX9_say_40 ?_
      refine r_getI foX9_95 rfl rfl dX9_say_41 ?_
      rw [hset_ne (by omega), hM]
      refine r_iconst (v := (1 : Int32)) (by decide) dX9_say_44 ?_
      refine r_iadd dX9_say_45 ?_
      rw [nI_1]
      refine r_putI fpX9_95 rfl rfl dX9_say_46 ?_
      refine r_aload_n rfl dX9_say_49 ?_
      refine r_getI foX9_95 rfl rfl dX9_say_50 ?_
      rw [hset_same, upd_eq]
      refine ret_i dX9_say_53 rfl ?_
      refine Or.inr (Or.inr ⟨hx.1, Int32.not_lt.mp hx.2, hm20, rfl, fun q a => by rw [hset_ne (by omega), hset_ne (by omega)], I.obs ?_ ?_ ?_ ?_ ?_ ?_ (by omega) ?_⟩)
      · rw [hset_same, upd_ne (by omega), hset_ne (by omega)]
      · rw [hset_same, upd_ne (by omega), hset_ne (by omega)]
      · rw [hset_same, upd_ne (by omega), hset_ne (by omega)]
      · rw [hset_ne (by omega), hset_ne (by omega)]
      · rw [hset_ne (by omega), hset_ne (by omega)]
      · rw [hset_same, upd_eq]
      · rw [hset_ne (by omega), hset_same, I.2.2.2.2.2]
    · refine r_bipush (v := (-4 : Int32)) (by decide) dX9_say_26 ?_
      refine ret_i dX9_say_28 rfl ?_
      exact Or.inr (Or.inl ⟨hx.1, Int32.not_lt.mp hx.2, nI_inj (by have := I.2.2.2.2.1.2; omega) (by omega) c_23, rfl, rfl⟩)
  · refine r_bipush (v := (-2 : Int32)) (by decide) dX9_say_14 ?_
    refine ret_i dX9_say_16 rfl ?_
    have hx := rng_0 c_11
    exact Or.inl ⟨by by_cases q : x < 33
                     · exact Or.inl q
                     · exact Or.inr (Classical.byContradiction fun z => hx ⟨q, z⟩), rfl, rfl⟩

set_option maxRecDepth 100000 in
set_option maxHeartbeats 400000 in
theorem m_breaks {g : GG} {n m : Nat} {h : Hp} {c : Nat → Nat} {E : Ec} {s : Nat → Int32} {x : Int32} (I : RF h n c m E s) : R g mX9_breaks 0 [some (.ref (ad g 62)), some (.int x)] [] h (Ri fun v h' => (isL 3 x = 0 ∧ v = -2 ∧ h' = h) ∨ ∃ k, k < 3 ∧ x = nI k ∧ v = brk E (lab c) (mx c n) k ∧ RP h h' n c m E s) := by
  have hn6 := I.1.1
  have hM := I.2.2.2.2.1.1
  have eE := I.2.1.1
  subst eE
  refine r_iload_n rfl dX9_breaks_0 ?_
  refine r_i2l dX9_breaks_1 ?_
  refine r_lconst rfl dX9_breaks_2 ?_
  refine r_ldc2 kcX9_83 dX9_breaks_3 ?_
  refine r_cS3i moX9_in lkX9_59 (Nat.le_of_ble_eq_true rfl) ⟨by decide, by decide⟩ (Nat.le_of_ble_eq_true rfl) dX9_breaks_6 rfl (c_in (b := 0) (c := 2) (by decide) (by decide)) (fun v1 h1 q1 => ?_)
  obtain ⟨e1, f1⟩ := q1
  subst f1
  rw [e1]
  rw [rng02]
  refine r_if_eq 24 dX9_breaks_9 (by decide) (fun c_9 => ?_) (fun c_9 => ?_)
  · refine r_bipush (v := (-2 : Int32)) (by decide) dX9_breaks_24 ?_
    refine ret_i dX9_breaks_26 rfl ?_
    first
      | exact Or.inl ⟨c_9, rfl, rfl⟩
      | exact Or.inr ⟨k, hk, rfl, rfl, I.KN k2⟩
  · obtain ⟨k, hk, rfl⟩ := isL_y (by omega) c_9
    refine r_aload_n rfl dX9_breaks_12 ?_
    refine r_aload_n rfl dX9_breaks_13 ?_
    refine r_getR foX9_13 rfl rfl dX9_breaks_14 ?_
    refine r_iload_n rfl dX9_breaks_17 ?_
    refine r_cV2i (T := TX9) (N := 21) moX9_breakerOf lkX9_155 rfl rfl (Nat.le_of_ble_eq_true rfl) ⟨by decide, by decide⟩ (Nat.le_of_ble_eq_true rfl) dX9_breaks_18 rfl (m_breakerOf I.K hk) (fun v2 h2 q2 => ?_)
    obtain ⟨e2, k2⟩ := q2
    rw [brk_eq (EcEq.refl _) (show EqN (eN (eM h n)) (h 64) (lab c) from I.2.2.2.1)] at e2
    subst e2
    refine r_goto 26 dX9_breaks_21 (by decide) ?_
    refine ret_i dX9_breaks_26 rfl ?_
    first
      | exact Or.inl ⟨c_9, rfl, rfl⟩
      | exact Or.inr ⟨k, hk, rfl, rfl, I.KN k2⟩

set_option maxRecDepth 100000 in
set_option maxHeartbeats 400000 in
theorem m_holds {g : GG} {n m : Nat} {h : Hp} {c : Nat → Nat} {E : Ec} {s : Nat → Int32} (I : RF h n c m E s) : R g mX9_holds 0 [some (.ref (ad g 62)), none, none, none] [] h (Ri fun v h' => v = hoF E (lab c) n ∧ RP h h' n c m E s) := by
  have hn6 := I.1.1
  have hM := I.2.2.2.2.1.1
  have eE := I.2.1.1
  subst eE
  have loop : ∀ (hj : Hp), MJ hj 64 n c → KN h hj → ∀ (v l : Nat) (hh : Hp) (x : Int32) {z : Option Value}, l ≤ n → n < l + v → x = hoF (eM h n) (lab c) l → KM hj hh → R g mX9_holds 12 [some (.ref (ad g 62)), some (.int x), some (.int (nI l)), z] [] hh (Ri fun v h' => v = hoF (eM h n) (lab c) n ∧ RP h h' n c m (eM h n) s) := by
    intro hj J kj v
    have eJ : eM hj n = eM h n := kj.eM
    induction v with
    | zero => intro l hh x z a b; omega
    | succ v ih =>
      intro l hh x z a b ex k1
      subst ex
      have J2 := J.keep k1
      refine r_iload_n rfl dX9_holds_12 ?_
      refine r_aload_n rfl dX9_holds_13 ?_
      refine r_getI foX9_55 rfl rfl dX9_holds_14 ?_
      rw [k1 62 (by omega) (by omega), J.2.2.1]
      refine r_icmp_ge 47 dX9_holds_17 (by decide) (fun c_17 => ?_) (fun c_17 => ?_)
      · refine r_iload_n rfl dX9_holds_47 ?_
        refine ret_i dX9_holds_48 rfl ?_
        have e : l = n := by have := ge_y (by omega) (by omega) c_17; omega
        exact ⟨by rw [e], I.KN (kj.trans k1.KN)⟩
      · have hlk : l < n := ge_n (by omega) c_17
        refine r_aload_n rfl dX9_holds_20 ?_
        refine r_aload_n rfl dX9_holds_21 ?_
        refine r_getR foX9_13 rfl rfl dX9_holds_22 ?_
        refine r_iload_n rfl dX9_holds_25 ?_
        refine r_cV2i (T := TX9) (N := 21) moX9_gainApart lkX9_132 rfl rfl (Nat.le_of_ble_eq_true rfl) ⟨by decide, by decide⟩ (Nat.le_of_ble_eq_true rfl) dX9_holds_26 rfl (m_gainApart J2.1.1 ⟨J2.1.2.1, J2.1.2.2.1⟩ hn6 J2.2.2.1 J2.2.2.2.1 hlk J2.2.2.2.2.1 J2.2.2.2.2.2.1 J2.2.2.2.2.2.2) (fun v21 h21 q21 => ?_)
        obtain ⟨e21, kx⟩ := q21
        have kx := k1.trans kx
        rw [k1.eM, eJ, gLv_eq (EcEq.refl _) (show EqN (eN (eM h n)) (hh 64) (lab c) from J2.2.2.2.2.1) hlk] at e21
        subst e21
        refine r_ist3 rfl (by decide) dX9_holds_29 ?_
        refine r_iload_n rfl dX9_holds_30 ?_
        refine r_iload_n rfl dX9_holds_31 ?_
        refine r_icmp_le 39 dX9_holds_32 (by decide) (fun c_32 => ?_) (fun c_32 => ?_)
        · refine r_iload_n rfl dX9_holds_39 ?_
          refine r_ist1 rfl (by decide) dX9_holds_40 ?_
          first | refine r_incN2 rfl (by decide) dX9_holds_41 ?_ | refine r_incP2 rfl (by decide) dX9_holds_41 ?_
          refine r_goto 12 dX9_holds_44 (by decide) ?_
          first
            | exact ih (l + 1) _ _ (by omega) (by omega) (by rw [hoF, if_neg (Int32.not_lt.mpr c_32)]) kx
            | exact ih (l + 1) _ _ (by omega) (by omega) (by rw [hoF, if_pos (Int32.not_le.mp c_32)]) kx
        · refine r_iload_n rfl dX9_holds_35 ?_
          refine r_goto 40 dX9_holds_36 (by decide) ?_
          refine r_ist1 rfl (by decide) dX9_holds_40 ?_
          first | refine r_incN2 rfl (by decide) dX9_holds_41 ?_ | refine r_incP2 rfl (by decide) dX9_holds_41 ?_
          refine r_goto 12 dX9_holds_44 (by decide) ?_
          first
            | exact ih (l + 1) _ _ (by omega) (by omega) (by rw [hoF, if_neg (Int32.not_lt.mpr c_32)]) kx
            | exact ih (l + 1) _ _ (by omega) (by omega) (by rw [hoF, if_pos (Int32.not_le.mp c_32)]) kx
  refine r_aload_n rfl dX9_holds_0 ?_
  refine r_aload_n rfl dX9_holds_1 ?_
  refine r_getR foX9_13 rfl rfl dX9_holds_2 ?_
  refine r_cV1v (T := TX9) (N := 21) moX9_keepGoods lkX9_143 rfl rfl (Nat.le_of_ble_eq_true rfl) ⟨by decide, by decide⟩ (Nat.le_of_ble_eq_true rfl) dX9_holds_5 rfl (m_keepGoods (A := 64) rfl (by omega) hn6 I.1.2 I.2.1.2) (fun h1 q1 => ?_)
  obtain ⟨J, kj⟩ := I.K.J q1.1 q1.2
  refine r_iconst (v := (0 : Int32)) (by decide) dX9_holds_8 ?_
  refine r_ist1 rfl (by decide) dX9_holds_9 ?_
  refine r_iconst (v := nI 0) (by decide) dX9_holds_10 ?_
  refine r_ist2 rfl (by decide) dX9_holds_11 ?_
  exact loop _ J kj (n + 1) 0 _ _ (by omega) (by omega) rfl KM.refl

set_option maxRecDepth 100000 in
set_option maxHeartbeats 400000 in
theorem m_of {g : GG} {n m : Nat} {h : Hp} {c : Nat → Nat} {E : Ec} {s : Nat → Int32} {x w : Int32} (I : RF h n c m E s) : R g mX9_of 0 [some (.ref (ad g 62)), some (.int x), some (.int w)] [] h (Ri fun v h' => (isL n x = 0 ∧ v = -1 ∧ h' = h) ∨ ∃ k, k < n ∧ x = nI k ∧ RP h h' n c m E s ∧ (((w < 0 ∨ 5 < w) ∧ v = -2) ∨ (¬ w < 0 ∧ w ≤ 5 ∧ v = ofW E (lab c) k w))) := by
  have hn6 := I.1.1
  have hM := I.2.2.2.2.1.1
  have eE := I.2.1.1
  subst eE
  refine r_aload_n rfl dX9_of_0 ?_
  refine r_iload_n rfl dX9_of_1 ?_
  refine r_cV1i (T := TX9) (N := 21) moX9_isLand lkX9_77 rfl rfl (Nat.le_of_ble_eq_true rfl) ⟨by decide, by decide⟩ (Nat.le_of_ble_eq_true rfl) dX9_of_2 rfl (m_isLand I.1.1 I.1.2) (fun v1 h1 q1 => ?_)
  obtain ⟨e1, f1⟩ := q1
  subst f1
  rw [e1]
  refine r_if_ne 10 dX9_of_5 (by decide) (fun c_5 => ?_) (fun c_5 => ?_)
  · refine r_aload_n rfl dX9_of_10 ?_
    refine r_aload_n rfl dX9_of_11 ?_
    refine r_getR foX9_13 rfl rfl dX9_of_12 ?_
    refine r_cV1v (T := TX9) (N := 21) moX9_findGoods lkX9_115 rfl rfl (Nat.le_of_ble_eq_true rfl) ⟨by decide, by decide⟩ (Nat.le_of_ble_eq_true rfl) dX9_of_15 rfl (m_findGoods (n := n) (A := 64) rfl (by omega) hn6 I.1.2 I.2.1.2) (fun h2 q2 => ?_)
    have q3 := q2
    obtain ⟨k, hk, rfl⟩ := isL_y (by omega) c_5
    have he : EqN (eN (eM h n)) (h 64) (lab c) := I.2.2.2.1
    obtain ⟨r6, ⟨r2, r4, r3, _⟩, r5⟩ := q3.2 k hk
    rw [good_eq (EcEq.refl _) he hk] at r6
    rw [takS_pat (EcEq.refl _) (Pat.of_eq he) hk] at r5
    rw [bS_pat (EcEq.refl _) (Pat.of_eq he) hk] at r4
    rw [sS_pat (EcEq.refl _) (Pat.of_eq he) hk] at r3
    rw [pS_pat (EcEq.refl _) (Pat.of_eq he) hk] at r2
    have mp : RP h h2 n c m (eM h n) s := RF.keep I (fun q a => q3.1 q (by omega)) (q3.1 66 (by omega))
    have eL : eM h2 n = eM h n := mp.2.2.1.1
    have e64 : h2 64 = h 64 := q3.1 64 (by omega)
    refine r_iload_n rfl dX9_of_18 ?_
    by_cases t_0 : w = nI 0
    · refine r_tsIn 56 dX9_of_19 (by rw [t_0]; decide) (by rw [t_0]; decide) (by rw [t_0]; rfl) (by decide) ?_
      refine r_aload_n rfl dX9_of_56 ?_
      refine r_getR foX9_25 rfl rfl dX9_of_57 ?_
      refine r_iload_n rfl dX9_of_60 ?_
      refine r_ild rfl rfl (by omega) (by decide) dX9_of_61 ?_
      rw [r6]
      refine ret_i dX9_of_62 rfl ?_
      refine Or.inr ⟨k, hk, rfl, mp, Or.inr ⟨by rw [t_0]; decide, by rw [t_0]; decide, ?_⟩⟩
      rw [ofW, if_pos t_0]
    ·
      by_cases t_1 : w = nI 1
      · refine r_tsIn 63 dX9_of_19 (by rw [t_1]; decide) (by rw [t_1]; decide) (by rw [t_1]; rfl) (by decide) ?_
        refine r_aload_n rfl dX9_of_63 ?_
        refine r_getR foX9_28 rfl rfl dX9_of_64 ?_
        refine r_iload_n rfl dX9_of_67 ?_
        refine r_ild rfl rfl (by omega) (by decide) dX9_of_68 ?_
        rw [r2]
        refine ret_i dX9_of_69 rfl ?_
        refine Or.inr ⟨k, hk, rfl, mp, Or.inr ⟨by rw [t_1]; decide, by rw [t_1]; decide, ?_⟩⟩
        rw [ofW, if_neg t_0, if_pos t_1]
      ·
        by_cases t_2 : w = nI 2
        · refine r_tsIn 70 dX9_of_19 (by rw [t_2]; decide) (by rw [t_2]; decide) (by rw [t_2]; rfl) (by decide) ?_
          refine r_aload_n rfl dX9_of_70 ?_
          refine r_getR foX9_31 rfl rfl dX9_of_71 ?_
          refine r_iload_n rfl dX9_of_74 ?_
          refine r_ild rfl rfl (by omega) (by decide) dX9_of_75 ?_
          rw [r4]
          refine ret_i dX9_of_76 rfl ?_
          refine Or.inr ⟨k, hk, rfl, mp, Or.inr ⟨by rw [t_2]; decide, by rw [t_2]; decide, ?_⟩⟩
          rw [ofW, if_neg t_0, if_neg t_1, if_pos t_2]
        ·
          by_cases t_3 : w = nI 3
          · refine r_tsIn 77 dX9_of_19 (by rw [t_3]; decide) (by rw [t_3]; decide) (by rw [t_3]; rfl) (by decide) ?_
            refine r_aload_n rfl dX9_of_77 ?_
            refine r_getR foX9_31 rfl rfl dX9_of_78 ?_
            refine r_iload_n rfl dX9_of_81 ?_
            refine r_ild rfl rfl (by omega) (by decide) dX9_of_82 ?_
            rw [r4]
            refine r_if_ne 91 dX9_of_83 (by decide) (fun c_83 => ?_) (fun c_83 => ?_)
            · refine r_aload_n rfl dX9_of_91 ?_
              refine r_getR foX9_34 rfl rfl dX9_of_92 ?_
              refine r_iload_n rfl dX9_of_95 ?_
              refine r_ild rfl rfl (by omega) (by decide) dX9_of_96 ?_
              rw [r3]
              refine ret_i dX9_of_97 rfl ?_
              refine Or.inr ⟨k, hk, rfl, mp, Or.inr ⟨by rw [t_3]; decide, by rw [t_3]; decide, ?_⟩⟩
              rw [ofW, if_neg t_0, if_neg t_1, if_neg t_2, if_pos t_3]
              first
                | rw [if_pos ((bS_0 I.2.1.2 hk).mpr c_83)]
                | rw [if_neg (fun q => c_83 ((bS_0 I.2.1.2 hk).mp q))]
            · refine r_bipush (v := (-6 : Int32)) (by decide) dX9_of_86 ?_
              refine r_goto 97 dX9_of_88 (by decide) ?_
              refine ret_i dX9_of_97 rfl ?_
              refine Or.inr ⟨k, hk, rfl, mp, Or.inr ⟨by rw [t_3]; decide, by rw [t_3]; decide, ?_⟩⟩
              rw [ofW, if_neg t_0, if_neg t_1, if_neg t_2, if_pos t_3]
              first
                | rw [if_pos ((bS_0 I.2.1.2 hk).mpr c_83)]
                | rw [if_neg (fun q => c_83 ((bS_0 I.2.1.2 hk).mp q))]
          ·
            by_cases t_4 : w = nI 4
            · refine r_tsIn 98 dX9_of_19 (by rw [t_4]; decide) (by rw [t_4]; decide) (by rw [t_4]; rfl) (by decide) ?_
              refine r_aload_n rfl dX9_of_98 ?_
              refine r_aload_n rfl dX9_of_99 ?_
              refine r_getR foX9_13 rfl rfl dX9_of_100 ?_
              refine r_iload_n rfl dX9_of_103 ?_
              refine r_cV2i (T := TX9) (N := 21) moX9_wallOf lkX9_108 rfl rfl (Nat.le_of_ble_eq_true rfl) ⟨by decide, by decide⟩ (Nat.le_of_ble_eq_true rfl) dX9_of_104 rfl (m_wallOf (A := 64) rfl hn6 mp.2.1.2 hk (fun l hl => by rw [eL]; exact (I.2.1.2.2.1 l hl).2.2.2)) (fun v3 h3 q3 => ?_)
              obtain ⟨e3, f3⟩ := q3
              rw [eL, e64, wallS_pat (EcEq.refl _) (Pat.of_eq he) hk] at f3
              subst f3
              rw [e3]
              refine ret_i dX9_of_107 rfl ?_
              refine Or.inr ⟨k, hk, rfl, mp, Or.inr ⟨by rw [t_4]; decide, by rw [t_4]; decide, ?_⟩⟩
              rw [ofW, if_neg t_0, if_neg t_1, if_neg t_2, if_neg t_3, if_pos t_4]
            ·
              by_cases t_5 : w = nI 5
              · refine r_tsIn 108 dX9_of_19 (by rw [t_5]; decide) (by rw [t_5]; decide) (by rw [t_5]; rfl) (by decide) ?_
                refine r_aload_n rfl dX9_of_108 ?_
                refine r_getR foX9_40 rfl rfl dX9_of_109 ?_
                refine r_iload_n rfl dX9_of_112 ?_
                refine r_ild rfl rfl (by omega) (by decide) dX9_of_113 ?_
                rw [r5]
                refine ret_i dX9_of_114 rfl ?_
                refine Or.inr ⟨k, hk, rfl, mp, Or.inr ⟨by rw [t_5]; decide, by rw [t_5]; decide, ?_⟩⟩
                rw [ofW, if_neg t_0, if_neg t_1, if_neg t_2, if_neg t_3, if_neg t_4]
              · refine r_tsOut 115 dX9_of_19 (by have := tsOut (x := w) 5 (by decide) (fun i hi => by rcases (show i = 0 ∨ i = 1 ∨ i = 2 ∨ i = 3 ∨ i = 4 ∨ i = 5 by omega) with rfl | rfl | rfl | rfl | rfl | rfl <;> assumption); omega) (by decide) ?_
                refine r_bipush (v := (-2 : Int32)) (by decide) dX9_of_115 ?_
                refine ret_i dX9_of_117 rfl ?_
                exact Or.inr ⟨k, hk, rfl, mp, Or.inl ⟨not5 t_0 t_1 t_2 t_3 t_4 t_5, rfl⟩⟩
  · refine r_iconst (v := (-1 : Int32)) (by decide) dX9_of_8 ?_
    refine ret_i dX9_of_9 rfl ?_
    exact Or.inl ⟨c_5, rfl, rfl⟩

