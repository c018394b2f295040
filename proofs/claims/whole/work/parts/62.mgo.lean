theorem KT.RP {h hh : Hp} {n m : Nat} {c : Nat → Nat} {E : Ec} {s : Nat → Int32} (I : RF h n c m E s) (k : KT h hh) : RP h hh n c m E s := ⟨fun q a => k.1 q (by omega) (by omega) (by omega), I.obs (k.2 1 (by omega) (by omega)) (k.2 2 (by omega) (by omega)) (k.2 3 (by omega) (by omega)) (k.1 63 (by omega) (by omega) (by omega)) (k.1 64 (by omega) (by omega) (by omega)) (by rw [k.2 7 (by omega) (by omega)]; exact I.2.2.2.2.1.1) I.2.2.2.2.1.2 (by rw [k.1 66 (by omega) (by omega) (by omega)]; exact I.2.2.2.2.2)⟩
theorem in01 {w : Int32} (h : ¬ rng 0 1 w = 0) (h0 : ¬ w = 0) : w = 1 := by
  obtain ⟨h1, h2⟩ := rng_1 h
  obtain ⟨j, hj, e⟩ := nI_of h1
  subst e
  have : j ≤ 1 := (nI_leI hj (by omega)).mp (Int32.not_lt.mp h2)
  rcases (show j = 0 ∨ j = 1 by omega) with rfl | rfl
  · exact absurd rfl h0
  · rfl
set_option maxRecDepth 100000 in
set_option maxHeartbeats 400000 in
theorem m_go {g : GG} {n m : Nat} {h : Hp} {c : Nat → Nat} {E : Ec} {s : Nat → Int32} {x w : Int32} (I : RF h n c m E s) : R g mX9_go 0 [some (.ref (ad g 62)), some (.int x), some (.int w)] [] h (Ri fun v h' => (isL n x = 0 ∧ v = -1 ∧ h' = h) ∨ (¬ isL n x = 0 ∧ ¬ w = 0 ∧ ¬ w = 1 ∧ ¬ (¬ w < 10 ∧ ¬ 15 < w) ∧ v = -2 ∧ h' = h) ∨ ∃ k, k < n ∧ x = nI k ∧ RP h h' n c m E s ∧ TQ E n c k h' ∧ (((¬ w < 10 ∧ ¬ 15 < w) ∧ isL n (w - 10) = 0 ∧ v = -6) ∨ ((¬ w < 10 ∧ ¬ 15 < w) ∧ ∃ l, l < n ∧ w - 10 = nI l ∧ v = h' 76 l) ∨ (w = 0 ∧ v = h' 62 19) ∨ (w = 1 ∧ v = h' 62 20))) := by
  have hn6 := I.1.1
  have eE := I.2.1.1
  subst eE
  refine r_aload_n rfl dX9_go_0 ?_
  refine r_iload_n rfl dX9_go_1 ?_
  refine r_cV1i (T := TX9) (N := 21) moX9_isLand lkX9_77 rfl rfl (Nat.le_of_ble_eq_true rfl) ⟨by decide, by decide⟩ (Nat.le_of_ble_eq_true rfl) dX9_go_2 rfl (m_isLand I.1.1 I.1.2) (fun v1 h1 q1 => ?_)
  obtain ⟨e1, f1⟩ := q1
  subst f1
  rw [e1]
  refine r_if_ne 10 dX9_go_5 (by decide) (fun c_5 => ?_) (fun c_5 => ?_)
  · refine r_iload_n rfl dX9_go_10 ?_
    refine r_i2l dX9_go_11 ?_
    refine r_lconst rfl dX9_go_12 ?_
    refine r_lconst rfl dX9_go_13 ?_
    refine r_cS3i moX9_in lkX9_59 (Nat.le_of_ble_eq_true rfl) ⟨by decide, by decide⟩ (Nat.le_of_ble_eq_true rfl) dX9_go_14 rfl (c_in (b := 0) (c := 1) (by decide) (by decide)) (fun v2 h2 q2 => ?_)
    obtain ⟨e2, f2⟩ := q2
    subst f2
    rw [e2]
    refine r_if_ne 37 dX9_go_17 (by decide) (fun c_17 => ?_) (fun c_17 => ?_)
    · obtain ⟨k, hk, rfl⟩ := isL_y (by omega) c_5
      refine r_aload_n rfl dX9_go_37 ?_
      refine r_iload_n rfl dX9_go_38 ?_
      refine r_cV1v (T := TX9) (N := 21) moX9_goAll lkX9_175 rfl rfl (Nat.le_of_ble_eq_true rfl) ⟨by decide, by decide⟩ (Nat.le_of_ble_eq_true rfl) dX9_go_39 rfl (m_goAll I hk) (fun h3 q3 => ?_)
      obtain ⟨kt, tq⟩ := q3
      have rp := KT.RP I kt
      refine r_iload_n rfl dX9_go_42 ?_
      refine r_bipush (v := (9 : Int32)) (by decide) dX9_go_43 ?_
      refine r_icmp_le 74 dX9_go_45 (by decide) (fun c_45 => ?_) (fun c_45 => ?_)
      · refine r_iload_n rfl dX9_go_74 ?_
        refine r_if_ne 85 dX9_go_75 (by decide) (fun c_75 => ?_) (fun c_75 => ?_)
        · refine r_aload_n rfl dX9_go_85 ?_
          refine r_getI foX9_161 rfl rfl dX9_go_86 ?_
          refine ret_i dX9_go_89 rfl ?_
          first
            | (have z := rng_1 c_31
               exact absurd (Int32.lt_of_le_of_lt c_45 (by decide)) z.1)
            | exact Or.inr (Or.inr ⟨k, hk, rfl, rp, tq, Or.inr (Or.inr (Or.inl ⟨c_75, rfl⟩))⟩)
            | exact Or.inr (Or.inr ⟨k, hk, rfl, rp, tq, Or.inr (Or.inr (Or.inr ⟨in01 c_17 c_75, rfl⟩))⟩)
        · refine r_aload_n rfl dX9_go_78 ?_
          refine r_getI foX9_158 rfl rfl dX9_go_79 ?_
          refine r_goto 89 dX9_go_82 (by decide) ?_
          refine ret_i dX9_go_89 rfl ?_
          first
            | (have z := rng_1 c_31
               exact absurd (Int32.lt_of_le_of_lt c_45 (by decide)) z.1)
            | exact Or.inr (Or.inr ⟨k, hk, rfl, rp, tq, Or.inr (Or.inr (Or.inl ⟨c_75, rfl⟩))⟩)
            | exact Or.inr (Or.inr ⟨k, hk, rfl, rp, tq, Or.inr (Or.inr (Or.inr ⟨in01 c_17 c_75, rfl⟩))⟩)
      · refine r_aload_n rfl dX9_go_48 ?_
        refine r_iload_n rfl dX9_go_49 ?_
        refine r_bipush (v := (10 : Int32)) (by decide) dX9_go_50 ?_
        refine r_isub dX9_go_52 ?_
        refine r_cV1i (T := TX9) (N := 21) moX9_isLand lkX9_77 rfl rfl (Nat.le_of_ble_eq_true rfl) ⟨by decide, by decide⟩ (Nat.le_of_ble_eq_true rfl) dX9_go_53 rfl (m_isLand hn6 rp.2.1.2) (fun v4 h4 q4 => ?_)
        obtain ⟨e4, f4⟩ := q4
        subst f4
        rw [e4]
        refine r_if_eq 71 dX9_go_56 (by decide) (fun c_56 => ?_) (fun c_56 => ?_)
        · refine r_bipush (v := (-6 : Int32)) (by decide) dX9_go_71 ?_
          refine ret_i dX9_go_73 rfl ?_
          first
            | (have z := rng_1 c_17
               exact absurd (Int32.le_trans (Int32.not_lt.mp z.2) (by decide)) c_45)
            | exact Or.inr (Or.inr ⟨k, hk, rfl, rp, tq, Or.inl ⟨rng_1 c_31, c_56, rfl⟩⟩)
            | exact Or.inr (Or.inr ⟨k, hk, rfl, rp, tq, Or.inr (Or.inl ⟨rng_1 c_31, l, hl, el, rfl⟩)⟩)
        · obtain ⟨l, hl, el⟩ := isL_y (n := n) (x := w - 10) (by omega) c_56
          refine r_aload_n rfl dX9_go_59 ?_
          refine r_getR foX9_49 rfl rfl dX9_go_60 ?_
          refine r_iload_n rfl dX9_go_63 ?_
          refine r_bipush (v := (10 : Int32)) (by decide) dX9_go_64 ?_
          refine r_isub dX9_go_66 ?_
          refine r_ild rfl el (by omega) (by decide) dX9_go_67 ?_
          refine r_goto 73 dX9_go_68 (by decide) ?_
          refine ret_i dX9_go_73 rfl ?_
          first
            | (have z := rng_1 c_17
               exact absurd (Int32.le_trans (Int32.not_lt.mp z.2) (by decide)) c_45)
            | exact Or.inr (Or.inr ⟨k, hk, rfl, rp, tq, Or.inl ⟨rng_1 c_31, c_56, rfl⟩⟩)
            | exact Or.inr (Or.inr ⟨k, hk, rfl, rp, tq, Or.inr (Or.inl ⟨rng_1 c_31, l, hl, el, rfl⟩)⟩)
    · refine r_iload_n rfl dX9_go_20 ?_
      refine r_i2l dX9_go_21 ?_
      refine r_ldc2 kcX9_171 dX9_go_22 ?_
      refine r_ldc2 kcX9_173 dX9_go_25 ?_
      refine r_cS3i moX9_in lkX9_59 (Nat.le_of_ble_eq_true rfl) ⟨by decide, by decide⟩ (Nat.le_of_ble_eq_true rfl) dX9_go_28 rfl (c_in (b := 10) (c := 15) (by decide) (by decide)) (fun v5 h5 q5 => ?_)
      obtain ⟨e5, f5⟩ := q5
      subst f5
      rw [e5]
      refine r_if_ne 37 dX9_go_31 (by decide) (fun c_31 => ?_) (fun c_31 => ?_)
      · obtain ⟨k, hk, rfl⟩ := isL_y (by omega) c_5
        refine r_aload_n rfl dX9_go_37 ?_
        refine r_iload_n rfl dX9_go_38 ?_
        refine r_cV1v (T := TX9) (N := 21) moX9_goAll lkX9_175 rfl rfl (Nat.le_of_ble_eq_true rfl) ⟨by decide, by decide⟩ (Nat.le_of_ble_eq_true rfl) dX9_go_39 rfl (m_goAll I hk) (fun h6 q6 => ?_)
        obtain ⟨kt, tq⟩ := q6
        have rp := KT.RP I kt
        refine r_iload_n rfl dX9_go_42 ?_
        refine r_bipush (v := (9 : Int32)) (by decide) dX9_go_43 ?_
        refine r_icmp_le 74 dX9_go_45 (by decide) (fun c_45 => ?_) (fun c_45 => ?_)
        · refine r_iload_n rfl dX9_go_74 ?_
          refine r_if_ne 85 dX9_go_75 (by decide) (fun c_75 => ?_) (fun c_75 => ?_)
          · refine r_aload_n rfl dX9_go_85 ?_
            refine r_getI foX9_161 rfl rfl dX9_go_86 ?_
            refine ret_i dX9_go_89 rfl ?_
            first
              | (have z := rng_1 c_31
                 exact absurd (Int32.lt_of_le_of_lt c_45 (by decide)) z.1)
              | exact Or.inr (Or.inr ⟨k, hk, rfl, rp, tq, Or.inr (Or.inr (Or.inl ⟨c_75, rfl⟩))⟩)
              | exact Or.inr (Or.inr ⟨k, hk, rfl, rp, tq, Or.inr (Or.inr (Or.inr ⟨in01 c_17 c_75, rfl⟩))⟩)
          · refine r_aload_n rfl dX9_go_78 ?_
            refine r_getI foX9_158 rfl rfl dX9_go_79 ?_
            refine r_goto 89 dX9_go_82 (by decide) ?_
            refine ret_i dX9_go_89 rfl ?_
            first
              | (have z := rng_1 c_31
                 exact absurd (Int32.lt_of_le_of_lt c_45 (by decide)) z.1)
              | exact Or.inr (Or.inr ⟨k, hk, rfl, rp, tq, Or.inr (Or.inr (Or.inl ⟨c_75, rfl⟩))⟩)
              | exact Or.inr (Or.inr ⟨k, hk, rfl, rp, tq, Or.inr (Or.inr (Or.inr ⟨in01 c_17 c_75, rfl⟩))⟩)
        · refine r_aload_n rfl dX9_go_48 ?_
          refine r_iload_n rfl dX9_go_49 ?_
          refine r_bipush (v := (10 : Int32)) (by decide) dX9_go_50 ?_
          refine r_isub dX9_go_52 ?_
          refine r_cV1i (T := TX9) (N := 21) moX9_isLand lkX9_77 rfl rfl (Nat.le_of_ble_eq_true rfl) ⟨by decide, by decide⟩ (Nat.le_of_ble_eq_true rfl) dX9_go_53 rfl (m_isLand hn6 rp.2.1.2) (fun v7 h7 q7 => ?_)
          obtain ⟨e7, f7⟩ := q7
          subst f7
          rw [e7]
          refine r_if_eq 71 dX9_go_56 (by decide) (fun c_56 => ?_) (fun c_56 => ?_)
          · refine r_bipush (v := (-6 : Int32)) (by decide) dX9_go_71 ?_
            refine ret_i dX9_go_73 rfl ?_
            first
              | (have z := rng_1 c_17
                 exact absurd (Int32.le_trans (Int32.not_lt.mp z.2) (by decide)) c_45)
              | exact Or.inr (Or.inr ⟨k, hk, rfl, rp, tq, Or.inl ⟨rng_1 c_31, c_56, rfl⟩⟩)
              | exact Or.inr (Or.inr ⟨k, hk, rfl, rp, tq, Or.inr (Or.inl ⟨rng_1 c_31, l, hl, el, rfl⟩)⟩)
          · obtain ⟨l, hl, el⟩ := isL_y (n := n) (x := w - 10) (by omega) c_56
            refine r_aload_n rfl dX9_go_59 ?_
            refine r_getR foX9_49 rfl rfl dX9_go_60 ?_
            refine r_iload_n rfl dX9_go_63 ?_
            refine r_bipush (v := (10 : Int32)) (by decide) dX9_go_64 ?_
            refine r_isub dX9_go_66 ?_
            refine r_ild rfl el (by omega) (by decide) dX9_go_67 ?_
            refine r_goto 73 dX9_go_68 (by decide) ?_
            refine ret_i dX9_go_73 rfl ?_
            first
              | (have z := rng_1 c_17
                 exact absurd (Int32.le_trans (Int32.not_lt.mp z.2) (by decide)) c_45)
              | exact Or.inr (Or.inr ⟨k, hk, rfl, rp, tq, Or.inl ⟨rng_1 c_31, c_56, rfl⟩⟩)
              | exact Or.inr (Or.inr ⟨k, hk, rfl, rp, tq, Or.inr (Or.inl ⟨rng_1 c_31, l, hl, el, rfl⟩)⟩)
      · refine r_bipush (v := (-2 : Int32)) (by decide) dX9_go_34 ?_
        refine ret_i dX9_go_36 rfl ?_
        exact Or.inr (Or.inl ⟨c_5, fun q => rng_0 c_17 (by rw [q]; decide), fun q => rng_0 c_17 (by rw [q]; decide), rng_0 c_31, rfl, rfl⟩)
  · refine r_iconst (v := (-1 : Int32)) (by decide) dX9_go_8 ?_
    refine ret_i dX9_go_9 rfl ?_
    exact Or.inl ⟨c_5, rfl, rfl⟩

theorem fgF_eq {E : Ec} {r r' : Nat → Int32} {U : Nat} (h : EqN (eN E) r r') : ∀ d x, x < eN E → fgF E r U d x = fgF E r' U d x := by
  intro d
  induction d with
  | zero => intro x _; rfl
  | succ d ih =>
    intro x hx
    rw [fgF, fgF, bgF_eq (EcEq.refl E) h hx, ih _ (bh_lt hx)]
/-- no going takes 500 steps without coming round -/
def noLong (E : Ec) (n : Nat) : Prop := ∀ cs ns, RunT E n cs ns 500 → ¬ ∀ j, j < 500 → ¬ wh n (cs j) (ns j) = wh n (cs 500) (ns 500)
theorem wh_congr {n x : Nat} {c c' : Nat → Nat} (h : ∀ l, l < n → c l = c' l) : wh n c x = wh n c' x := by rw [wh, wh, plc_congr h n (Nat.le_refl _)]
theorem fg_congr {E : Ec} {n x : Nat} {c c' : Nat → Nat} (hE : eN E = n) (hx : x < n) (h : ∀ l, l < n → c l = c' l) : fgF E (lab c) (mx c n) n x = fgF E (lab c') (mx c' n) n x := by
  rw [mx_congr h]
  exact fgF_eq (fun j hj => by show nI (c j) = nI (c' j); rw [h j (by omega)]) n x (by omega)
theorem run_same {E : Ec} {n K1 K2 : Nat} {cs1 cs2 : Nat → Nat → Nat} {ns1 ns2 : Nat → Nat} (hE : eN E = n) (h1 : RunT E n cs1 ns1 K1) (h2 : RunT E n cs2 ns2 K2) (hc : cs1 0 = cs2 0) (hn : ns1 0 = ns2 0) : ∀ i, i ≤ K1 → i ≤ K2 → ns1 i = ns2 i ∧ ∀ l, l < n → cs1 i l = cs2 i l := by
  intro i
  induction i with
  | zero => intro _ _; exact ⟨hn, fun l _ => by rw [hc]⟩
  | succ i ih =>
    intro a b
    obtain ⟨e1, e2⟩ := ih (by omega) (by omega)
    obtain ⟨l, gl, f1, l1, c1, x1⟩ := h1.2.1 i (by omega)
    obtain ⟨l', gl', f2, l2, c2, x2⟩ := h2.2.1 i (by omega)
    have hx := (h2.1 i (by omega)).2
    rw [fg_congr hE (by rw [e1]; exact hx) e2, e1, f2] at f1
    injection f1 with f1
    injection f1 with g1 g2
    subst g1; subst g2
    refine ⟨by rw [x1, x2], CanOf.uniq c1 (c2.congr (fun j hj => upd_cong (by show nI (cs2 i j) = nI (cs1 i j); rw [e2 j hj])))⟩
theorem go_same {E : Ec} {n k : Nat} {c : Nat → Nat} {h1 h2 : Hp} (hE : eN E = n) (hl : noLong E n) (t1 : TP E n 42 c k h1) (t2 : TQ E n c k h2) : h1 42 1 = h2 62 19 ∧ h1 42 2 = h2 62 20 ∧ ∀ l, l < n → h1 44 l = h2 76 l := by
  obtain ⟨K1, cs1, ns1, b1, i1, j1, r1, g1, p1, e1⟩ := t1
  obtain ⟨K2, cs2, ns2, b2, i2, j2, r2, g2, p2, e2⟩ := t2
  have same := run_same hE r1 r2 (i1.trans i2.symm) (j1.trans j2.symm)
  have wsame : ∀ i, i ≤ K1 → i ≤ K2 → wh n (cs1 i) (ns1 i) = wh n (cs2 i) (ns2 i) := fun i a b => by
    obtain ⟨s1, s2⟩ := same i a b
    rw [s1, wh_congr s2]
  have fsame : ∀ i, i ≤ K1 → i ≤ K2 → fgF E (lab (cs1 i)) (mx (cs1 i) n) n (ns1 i) = fgF E (lab (cs2 i)) (mx (cs2 i) n) n (ns2 i) := fun i a b => by
    obtain ⟨s1, s2⟩ := same i a b
    have hx := (r1.1 i a).2
    rw [fg_congr hE hx s2, s1]
  have hK : K1 = K2 := by
    rcases Nat.lt_trichotomy K1 K2 with q | q | q
    · rcases e1 with ⟨b, hb, w1, _⟩ | ⟨_, ⟨w1, _⟩ | ⟨w1, _⟩⟩
      · rw [wsame b (by omega) (by omega), wsame K1 (by omega) (by omega)] at w1
        exact absurd w1 (r2.2.2 K1 q b hb)
      · rw [fsame K1 (by omega) (by omega)] at w1
        obtain ⟨l, gl, f2, _⟩ := r2.2.1 K1 q
        rw [w1] at f2
        exact absurd f2 (by simp)
      · omega
    · exact q
    · rcases e2 with ⟨b, hb, w1, _⟩ | ⟨_, ⟨w1, _⟩ | ⟨w1, _⟩⟩
      · rw [← wsame b (by omega) (by omega), ← wsame K2 (by omega) (by omega)] at w1
        exact absurd w1 (r1.2.2 K2 q b hb)
      · rw [← fsame K2 (by omega) (by omega)] at w1
        obtain ⟨l, gl, f2, _⟩ := r1.2.1 K2 q
        rw [w1] at f2
        exact absurd f2 (by simp)
      · omega
  subst hK
  refine ⟨by rw [g1, g2], ?_, fun l hl => ?_⟩
  · rcases e1 with ⟨b, hb, w1, w2, w3⟩ | ⟨nw, er⟩
    · rcases e2 with ⟨b', hb', y1, y2, y3⟩ | ⟨nw', _⟩
      · rw [← wsame b' (by omega) (by omega), ← wsame K1 (by omega) (by omega)] at y1
        have hbb : b = b' := by
          rcases Nat.lt_trichotomy b b' with q | q | q
          · have := y2 b q
            rw [← wsame b (by omega) (by omega), ← wsame K1 (by omega) (by omega)] at this
            exact absurd w1 this
          · exact q
          · exact absurd y1 (w2 b' q)
        rw [w3, y3, hbb]
      · rw [wsame b (by omega) (by omega), wsame K1 (by omega) (by omega)] at w1
        exact absurd w1 (nw' b hb)
    · rcases e2 with ⟨b', hb', y1, y2, y3⟩ | ⟨nw', er'⟩
      · rw [← wsame b' (by omega) (by omega), ← wsame K1 (by omega) (by omega)] at y1
        exact absurd y1 (nw b' hb')
      · rcases er with ⟨_, x1⟩ | ⟨x1, _⟩
        · rcases er' with ⟨_, x2⟩ | ⟨x2, _⟩
          · rw [x1, x2]
          · subst x2; exact absurd nw (hl cs1 ns1 r1)
        · subst x1; exact absurd nw (hl cs1 ns1 r1)
  · rw [show h1 44 l = nI (cs1 K1 l) from p1.2.2 l hl, p2 l hl, (same K1 (by omega) (by omega)).2 l hl]

