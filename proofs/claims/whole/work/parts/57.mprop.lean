theorem bS_bd {E : Ec} {r : Nat → Int32} {k : Nat} (hE : EOK E) (hk : k < eN E) : Bd 0 99 (bS E r k) := by
  obtain ⟨a, e1, a1, a2⟩ := (hE.2.1 k hk).1
  obtain ⟨b, e2, b1, b2⟩ := by_bd (k := k) (fun q hq => ask_bd (r := r) (k := k) hE (wall_bd (r := r) hE hk) hq) (eN E) (by omega) (Nat.le_refl _)
  have e3 : priS E r k (wallS E r k) = nI b := e2
  rw [bS, bouS, e1, e3]
  split
  · exact ⟨0, nI_0.symm, by omega, by omega⟩
  · rename_i z
    have hlt : b < a := ge_n (by omega) z
    obtain ⟨d, rfl⟩ : ∃ d, a = d + b := ⟨a - b, by omega⟩
    exact ⟨d, by rw [← nI_add, Int32.add_sub_cancel], by omega, by omega⟩
theorem tkO_bd {E : Ec} {r : Nat → Int32} {k : Nat} (hE : EOK E) (hk : k < eN E) : Bd 0 5940 (tkO E r k) := by
  obtain ⟨a, e1, a1, a2⟩ := wall_bd (r := r) hE hk
  obtain ⟨b, e2, b1, b2⟩ := bS_bd (r := r) hE hk
  rw [tkO]
  split
  · exact ⟨0, nI_0.symm, by omega, by omega⟩
  · rw [e1, e2, nI_mul]
    exact ⟨_, rfl, by omega, Nat.mul_le_mul a2 b2⟩
theorem takS_bd {E : Ec} {r : Nat → Int32} {k : Nat} (hE : EOK E) (hk : k < eN E) : Bd 0 3600000 (takS E r k) := by
  have hn := hE.1
  rw [takS]
  split
  · obtain ⟨a, e, a1, a2⟩ := tkO_bd (r := r) hE hk
    exact ⟨a, e, a1, by omega⟩
  · obtain ⟨z, h1, h2⟩ := smF_bd0 (r := r) (u := r k) (fun l hl => tkO_bd (r := r) hE hl) (eN E) (Nat.le_refl _)
    obtain ⟨w, e2, w1, w2⟩ := hE.wt hk
    obtain ⟨y, h3, h4, h5⟩ := smF_bd (r := r) (u := r k) (fun l hl => hE.wt hl) (eN E) (Nat.le_refl _)
    have h6 := ctF_pos (r := r) (k := k) rfl (eN E) hk
    have h7 := ctF_le r (r k) (eN E)
    have hz : z * w ≤ 35640 * 99 := Nat.mul_le_mul (by omega) w2
    have hq : shQ E (tkO E r) r (r k) k = nI (z * w / y) := by
      rw [shQ, h1, e2, h3, nI_mul, pk_div (by omega) (by omega) (by omega)]
    have hd : z * w / y ≤ z * w := Nat.div_le_self _ _
    rw [shO, if_pos rfl, hq]
    split
    · exact ⟨_, rfl, Nat.zero_le _, by omega⟩
    · exact ⟨z * w / y + 1, nI_1 _, Nat.zero_le _, by omega⟩
theorem gdF_bd {E : Ec} {r : Nat → Int32} {k : Nat} (hE : EOK E) (hk : k < eN E) : ∀ l, l ≤ eN E → Bd 0 (7300000 + 3960 * l) (gdF E r k l) := by
  intro l
  induction l with
  | zero =>
    intro _
    obtain ⟨a, e1, a1, a2⟩ := bS_bd (r := r) hE hk
    obtain ⟨b, e2, b1, b2⟩ := takS_bd (r := r) hE hk
    rw [gdF, e1, e2, nI_mul, show (2 : Int32) = nI 2 by decide, nI_mul, nI_add]
    have := Nat.mul_le_mul a2 a2
    exact ⟨_, rfl, by omega, by omega⟩
  | succ l ih =>
    intro hl
    obtain ⟨z, e0, z1, z2⟩ := ih (by omega)
    rw [gdF]
    split
    · obtain ⟨a, e1, a1, a2⟩ := (hE.2.1 k hk).2.2.1
      obtain ⟨b, e2, b1, b2⟩ := bS_bd (r := r) hE (show l < eN E by omega)
      rw [e0, e1, e2, show (2 : Int32) = nI 2 by decide, nI_mul, nI_mul, nI_add]
      have := Nat.mul_le_mul (show 2 * a ≤ 40 by omega) b2
      exact ⟨_, rfl, by omega, by omega⟩
    · exact ⟨z, e0, z1, by omega⟩
theorem good_bd {E : Ec} {r : Nat → Int32} {k : Nat} (hE : EOK E) (hk : k < eN E) : Bd 0 8000000 (goodS E r k) := by
  obtain ⟨z, e0, z1, z2⟩ := gdF_bd (r := r) hE hk (eN E) (Nat.le_refl _)
  have := hE.1
  exact ⟨z, e0, z1, by omega⟩
theorem good_n6 {E : Ec} {r : Nat → Int32} {k : Nat} (hE : EOK E) (hk : k < eN E) : ¬ goodS E r k ≤ -6 := by
  obtain ⟨z, e0, z1, z2⟩ := good_bd (r := r) hE hk
  rw [e0]
  exact fun q => absurd (Int32.le_trans (nI_pos' (by omega)) q) (by decide)
theorem bd_neg {a b : Int32} (ha : Bd 0 8000000 a) (hb : Bd 0 8000000 b) : 0 < -(a - b) ↔ ¬ 0 ≤ a - b := by
  obtain ⟨x, e1, _, x2⟩ := ha
  obtain ⟨y, e2, _, y2⟩ := hb
  subst e1; subst e2
  rw [Int32.neg_sub, Int32.not_le, Int32.lt_iff_toInt_lt, Int32.lt_iff_toInt_lt, pk_sub_toInt (by omega) (by omega), pk_sub_toInt (by omega) (by omega)]
  have h0 : (0 : Int32).toInt = 0 := by decide
  rw [h0]
  omega
theorem pp_neg {E : Ec} {r : Nat → Int32} {k : Nat} : ∀ t, t < 100 → (ppF E r k t).1 < 0 → (ppF E r k t).2 = -6 := by
  intro t
  induction t with
  | zero => intro _ _; rfl
  | succ t ih =>
    intro ht
    rw [ppF]
    split
    · split
      · split
        · exact ih (by omega)
        · intro q; exact absurd q (Int32.not_lt.mpr (nI_pos' (by omega)))
      · exact ih (by omega)
    · exact ih (by omega)
theorem nI_p7 {a : Nat} (b : Nat) : (7 : Int32) + nI a = nI (7 + a) := by rw [show (7 : Int32) = nI 7 by decide, nI_add]
theorem neg1 {a c : Nat} (ha : a < 7) (hc : c < 100) : ¬ -1 - nI a = nI c := by
  intro q
  have h1 := nI_pos' (show c < 2 ^ 31 by omega)
  rw [← q] at h1
  rcases (show a = 0 ∨ a = 1 ∨ a = 2 ∨ a = 3 ∨ a = 4 ∨ a = 5 ∨ a = 6 by omega) with rfl | rfl | rfl | rfl | rfl | rfl | rfl <;> exact absurd h1 (by decide)
theorem pat_scat {n : Nat} {c : Nat → Nat} {u : Int32} (hn : n ≤ 6) (hc : ∀ j, j < n → c j < 7) : Pat n (fun j => if lab c j = u then 7 + nI j else lab c j) (scat (lab c) u) := by
  have s7 : ∀ i j, i < n → j < n → ¬ (7 : Int32) + nI i = nI (c j) := fun i j hi hj q => by
    rw [nI_p7 0] at q
    have := nI_inj (by omega) (by have := hc j hj; omega) q
    have := hc j hj
    omega
  intro i j hi hj
  show (if lab c i = u then 7 + nI i else lab c i) = (if lab c j = u then 7 + nI j else lab c j) ↔ (if lab c i = u then -1 - nI i else lab c i) = (if lab c j = u then -1 - nI j else lab c j)
  by_cases bi : lab c i = u
  · by_cases bj : lab c j = u
    · rw [if_pos bi, if_pos bj, if_pos bi, if_pos bj, nI_p7 0, nI_p7 0, nI_eq (by omega) (by omega)]
      constructor
      · intro q; rw [show i = j by omega]
      · intro q
        have : nI i = nI j := by
          have e := congrArg (fun z => -1 - z) q
          simpa using e
        have := nI_inj (by omega) (by omega) this
        omega
    · rw [if_pos bi, if_neg bj, if_pos bi, if_neg bj]
      exact ⟨fun q => absurd q (s7 i j hi hj), fun q => absurd q (neg1 (by omega) (by have := hc j hj; omega))⟩
  · by_cases bj : lab c j = u
    · rw [if_neg bi, if_pos bj, if_neg bi, if_pos bj]
      exact ⟨fun q => absurd q.symm (s7 j i hj hi), fun q => absurd q.symm (neg1 (by omega) (by have := hc i hi; omega))⟩
    · rw [if_neg bi, if_neg bj, if_neg bi, if_neg bj]
theorem RF.c7 {h : Hp} {n m : Nat} {c : Nat → Nat} {E : Ec} {s : Nat → Int32} (I : RF h n c m E s) : ∀ j, j < n → c j < 7 := fun j hj => by have := I.2.2.1.le hj; have := I.1.1; omega

set_option maxRecDepth 100000 in
set_option maxHeartbeats 400000 in
theorem m_isThere {g : GG} {n m : Nat} {h : Hp} {c : Nat → Nat} {E : Ec} {s : Nat → Int32} {x : Int32} (I : RF h n c m E s) : R g mX9_isThere 0 [some (.ref (ad g 62)), some (.int x)] [] h (Ri fun v h' => h' = h ∧ v = isL (mx c n) x) := by
  have hm6 : mx c n ≤ 6 := by have := mx_le I.2.2.1 n (Nat.le_refl _); have := I.1.1; omega
  refine r_iload_n rfl dX9_isThere_0 ?_
  refine r_i2l dX9_isThere_1 ?_
  refine r_lconst rfl dX9_isThere_2 ?_
  refine r_aload_n rfl dX9_isThere_3 ?_
  refine r_aload_n rfl dX9_isThere_4 ?_
  refine r_getR foX9_13 rfl rfl dX9_isThere_5 ?_
  refine r_cV1i (T := TX9) (N := 21) moX9_manyOf lkX9_73 rfl rfl (Nat.le_of_ble_eq_true rfl) ⟨by decide, by decide⟩ (Nat.le_of_ble_eq_true rfl) dX9_isThere_8 rfl (m_manyOf (A := 64) rfl I.1.1 I.1.2 I.2.2.2.1 (fun l hl => by have := I.c7 l hl; omega)) (fun v1 h1 q1 => ?_)
  obtain ⟨e1, f1⟩ := q1
  subst f1
  rw [e1]
  refine r_iconst (v := (1 : Int32)) (by decide) dX9_isThere_11 ?_
  refine r_isub dX9_isThere_12 ?_
  refine r_i2l dX9_isThere_13 ?_
  refine r_cS3i moX9_in lkX9_59 (Nat.le_of_ble_eq_true rfl) ⟨by decide, by decide⟩ (Nat.le_of_ble_eq_true rfl) dX9_isThere_14 rfl (c_in (b := 0) (c := nI (mx c n) - 1) (by decide) rfl) (fun v2 h2 q2 => ?_)
  obtain ⟨e2, f2⟩ := q2
  subst f2
  rw [e2, isL_rng hm6]
  exact ret_z dX9_isThere_17 rfl (isL_01 _ _) ⟨rfl, rfl⟩

theorem rng_o {a b x : Int32} (h : rng a b x = 0) : x < a ∨ b < x := by
  by_cases q : x < a
  · exact Or.inl q
  · exact Or.inr (Classical.byContradiction fun z => rng_0 h ⟨q, z⟩)
set_option maxRecDepth 100000 in
set_option maxHeartbeats 400000 in
theorem m_proposek {g : GG} {n m : Nat} {h : Hp} {c : Nat → Nat} {E : Ec} {s : Nat → Int32} {k : Nat} {w : Int32} (I : RF h n c m E s) (hk : k < n) : R g mX9_propose 0 [some (.ref (ad g 62)), some (.int (nI k)), some (.int w), none, none, none] [] h (Ri fun v h' => ((w < 0 ∨ 1 < w) ∧ v = -2 ∧ h' = h) ∨ (¬ w < 0 ∧ w ≤ 1 ∧ v = (if w = 0 then (ppF E (lab c) k (2 ^ n - 1)).1 else (ppF E (lab c) k (2 ^ n - 1)).2) ∧ RP h h' n c m E s)) := by
  have hn6 := I.1.1
  have eE := I.2.1.1
  subst eE
  have hp6 := pow6 hn6
  have loop : ¬ w < 0 → w ≤ 1 → ∀ (hj : Hp), MJ hj 64 n c → KN h hj → ∀ (z t : Nat) (hh : Hp) (x3 x4 : Int32), t + 1 ≤ 2 ^ n → 2 ^ n ≤ t + z → x3 = (ppF (eM h n) (lab c) k t).1 → x4 = (ppF (eM h n) (lab c) k t).2 → KM hj hh → R g mX9_propose 41 [some (.ref (ad g 62)), some (.int (nI k)), some (.int w), some (.int x3), some (.int x4), some (.int (nI (t + 1)))] [] hh (Ri fun v h' => ((w < 0 ∨ 1 < w) ∧ v = -2 ∧ h' = h) ∨ (¬ w < 0 ∧ w ≤ 1 ∧ v = (if w = 0 then (ppF (eM h n) (lab c) k (2 ^ n - 1)).1 else (ppF (eM h n) (lab c) k (2 ^ n - 1)).2) ∧ RP h h' n c m (eM h n) s)) := by
    intro hw1 hw2 hj J kj z
    have eJ : eM hj n = eM h n := kj.eM
    induction z with
    | zero => intro t hh x3 x4 a b; omega
    | succ z ih =>
      intro t hh x3 x4 a b e3 e4 k1
      subst e3; subst e4
      refine r_iload rfl dX9_propose_41 ?_
      refine r_iconst (v := (1 : Int32)) (by decide) dX9_propose_43 ?_
      refine r_aload_n rfl dX9_propose_44 ?_
      refine r_getI foX9_55 rfl rfl dX9_propose_45 ?_
      rw [k1 62 (by omega) (by omega), J.2.2.1]
      refine r_ishl dX9_propose_48 ?_
      rw [shl1 hn6]
      refine r_icmp_ge 107 dX9_propose_49 (by decide) (fun c_49 => ?_) (fun c_49 => ?_)
      · have e : t = 2 ^ n - 1 := by have := ge_y (by omega) (by omega) c_49; omega
        subst e
        refine r_iload_n rfl dX9_propose_107 ?_
        refine r_if_ne 115 dX9_propose_108 (by decide) (fun c_108 => ?_) (fun c_108 => ?_)
        · refine r_iload rfl dX9_propose_115 ?_
          refine ret_i dX9_propose_117 rfl ?_
          first
            | exact Or.inr ⟨hw1, hw2, by rw [if_pos c_108], I.KN (kj.trans k1.KN)⟩
            | exact Or.inr ⟨hw1, hw2, by rw [if_neg c_108], I.KN (kj.trans k1.KN)⟩
        · refine r_iload_n rfl dX9_propose_111 ?_
          refine r_goto 117 dX9_propose_112 (by decide) ?_
          refine ret_i dX9_propose_117 rfl ?_
          first
            | exact Or.inr ⟨hw1, hw2, by rw [if_pos c_108], I.KN (kj.trans k1.KN)⟩
            | exact Or.inr ⟨hw1, hw2, by rw [if_neg c_108], I.KN (kj.trans k1.KN)⟩
      · have hlk : t + 1 < 2 ^ n := ge_n (by omega) c_49
        refine r_iload rfl dX9_propose_52 ?_
        refine r_iload_n rfl dX9_propose_54 ?_
        refine r_ishr dX9_propose_55 ?_
        refine r_iconst (v := (1 : Int32)) (by decide) dX9_propose_56 ?_
        refine r_iand dX9_propose_57 ?_
        refine r_iconst (v := (1 : Int32)) (by decide) dX9_propose_58 ?_
        refine r_icmp_ne 101 dX9_propose_59 (by decide) (fun c_59 => ?_) (fun c_59 => ?_)
        · first | refine r_incN5 rfl (by decide) dX9_propose_101 ?_ | refine r_incP5 rfl (by decide) dX9_propose_101 ?_
          refine r_goto 41 dX9_propose_104 (by decide) ?_
          first
            | exact ih (t + 1) _ _ _ (by omega) (by omega) (by rw [ppF, if_neg c_59]) (by rw [ppF, if_neg c_59]) k1
            | (have na : ¬ allG (eM h n) (lab c) (nI (t + 1)) := fun z => by rw [if_pos z] at c_72; exact absurd c_72 (by decide)
               exact ih (t + 1) _ _ _ (by omega) (by omega) (by rw [ppF, if_pos c_59, if_neg na]) (by rw [ppF, if_pos c_59, if_neg na]) kx)
            | exact ih (t + 1) _ _ _ (by omega) (by omega) (by rw [ppF, if_pos c_59, if_pos na, if_pos c_87]) (by rw [ppF, if_pos c_59, if_pos na, if_pos c_87]) kx
            | exact ih (t + 1) _ _ _ (by omega) (by omega) (by rw [ppF, if_pos c_59, if_pos na, if_neg c_87]) (by rw [ppF, if_pos c_59, if_pos na, if_neg c_87]) kx
            | (have ng : ¬ goodS (eM h n) (gath (lab c) (nI (t + 1))) k ≤ (ppF (eM h n) (lab c) k t).2 := by rw [pp_neg t (by omega) c_76]; exact good_n6 I.2.1.2 hk
               exact ih (t + 1) _ _ _ (by omega) (by omega) (by rw [ppF, if_pos c_59, if_pos na, if_neg ng]) (by rw [ppF, if_pos c_59, if_pos na, if_neg ng]) kx)
        · refine r_aload_n rfl dX9_propose_62 ?_
          refine r_aload_n rfl dX9_propose_63 ?_
          refine r_getR foX9_13 rfl rfl dX9_propose_64 ?_
          refine r_iload rfl dX9_propose_67 ?_
          refine r_cV2i (T := TX9) (N := 21) moX9_isBetter lkX9_146 rfl rfl (Nat.le_of_ble_eq_true rfl) ⟨by decide, by decide⟩ (Nat.le_of_ble_eq_true rfl) dX9_propose_69 rfl (m_isBetter (J.keep k1) (Nat.succ_pos t) hlk) (fun v21 h21 q21 => ?_)
          obtain ⟨ea, kx, gx⟩ := q21
          have kx := k1.trans kx
          have er : EqN (eN (eM h n)) (hh 64) (lab c) := (J.keep k1).2.2.2.2.1
          have gx2 : v21 = 1 → ∀ j, j < n → h21 68 j = goodS (eM h n) (gath (lab c) (nI (t + 1))) j := fun q j hj => by rw [gx q j hj, k1.eM, eJ]; exact good_eq (EcEq.refl _) er.gath hj
          rw [k1.eM, eJ] at ea
          have ea : v21 = if allG (eM h n) (lab c) (nI (t + 1)) then 1 else 0 := by
            rw [ea]
            by_cases z : allG (eM h n) (lab c) (nI (t + 1))
            · rw [if_pos z, if_pos ((allG_eq (EcEq.refl _) er).mpr z)]
            · rw [if_neg z, if_neg (fun y => z ((allG_eq (EcEq.refl _) er).mp y))]
          subst ea
          refine r_if_eq 101 dX9_propose_72 (by decide) (fun c_72 => ?_) (fun c_72 => ?_)
          · first | refine r_incN5 rfl (by decide) dX9_propose_101 ?_ | refine r_incP5 rfl (by decide) dX9_propose_101 ?_
            refine r_goto 41 dX9_propose_104 (by decide) ?_
            first
              | exact ih (t + 1) _ _ _ (by omega) (by omega) (by rw [ppF, if_neg c_59]) (by rw [ppF, if_neg c_59]) k1
              | (have na : ¬ allG (eM h n) (lab c) (nI (t + 1)) := fun z => by rw [if_pos z] at c_72; exact absurd c_72 (by decide)
                 exact ih (t + 1) _ _ _ (by omega) (by omega) (by rw [ppF, if_pos c_59, if_neg na]) (by rw [ppF, if_pos c_59, if_neg na]) kx)
              | exact ih (t + 1) _ _ _ (by omega) (by omega) (by rw [ppF, if_pos c_59, if_pos na, if_pos c_87]) (by rw [ppF, if_pos c_59, if_pos na, if_pos c_87]) kx
              | exact ih (t + 1) _ _ _ (by omega) (by omega) (by rw [ppF, if_pos c_59, if_pos na, if_neg c_87]) (by rw [ppF, if_pos c_59, if_pos na, if_neg c_87]) kx
              | (have ng : ¬ goodS (eM h n) (gath (lab c) (nI (t + 1))) k ≤ (ppF (eM h n) (lab c) k t).2 := by rw [pp_neg t (by omega) c_76]; exact good_n6 I.2.1.2 hk
                 exact ih (t + 1) _ _ _ (by omega) (by omega) (by rw [ppF, if_pos c_59, if_pos na, if_neg ng]) (by rw [ppF, if_pos c_59, if_pos na, if_neg ng]) kx)
          · have na : allG (eM h n) (lab c) (nI (t + 1)) := Decidable.byContradiction fun z => c_72 (if_neg z)
            refine r_iload_n rfl dX9_propose_75 ?_
            refine r_if_lt 90 dX9_propose_76 (by decide) (fun c_76 => ?_) (fun c_76 => ?_)
            · refine r_iload rfl dX9_propose_90 ?_
              refine r_ist3 rfl (by decide) dX9_propose_92 ?_
              refine r_aload_n rfl dX9_propose_93 ?_
              refine r_getR foX9_25 rfl rfl dX9_propose_94 ?_
              refine r_iload_n rfl dX9_propose_97 ?_
              refine r_ild rfl rfl (by omega) (by decide) dX9_propose_98 ?_
              rw [gx2 (if_pos na) k hk]
              refine r_ist4 rfl (by decide) dX9_propose_99 ?_
              first | refine r_incN5 rfl (by decide) dX9_propose_101 ?_ | refine r_incP5 rfl (by decide) dX9_propose_101 ?_
              refine r_goto 41 dX9_propose_104 (by decide) ?_
              first
                | exact ih (t + 1) _ _ _ (by omega) (by omega) (by rw [ppF, if_neg c_59]) (by rw [ppF, if_neg c_59]) k1
                | (have na : ¬ allG (eM h n) (lab c) (nI (t + 1)) := fun z => by rw [if_pos z] at c_72; exact absurd c_72 (by decide)
                   exact ih (t + 1) _ _ _ (by omega) (by omega) (by rw [ppF, if_pos c_59, if_neg na]) (by rw [ppF, if_pos c_59, if_neg na]) kx)
                | exact ih (t + 1) _ _ _ (by omega) (by omega) (by rw [ppF, if_pos c_59, if_pos na, if_pos c_87]) (by rw [ppF, if_pos c_59, if_pos na, if_pos c_87]) kx
                | exact ih (t + 1) _ _ _ (by omega) (by omega) (by rw [ppF, if_pos c_59, if_pos na, if_neg c_87]) (by rw [ppF, if_pos c_59, if_pos na, if_neg c_87]) kx
                | (have ng : ¬ goodS (eM h n) (gath (lab c) (nI (t + 1))) k ≤ (ppF (eM h n) (lab c) k t).2 := by rw [pp_neg t (by omega) c_76]; exact good_n6 I.2.1.2 hk
                   exact ih (t + 1) _ _ _ (by omega) (by omega) (by rw [ppF, if_pos c_59, if_pos na, if_neg ng]) (by rw [ppF, if_pos c_59, if_pos na, if_neg ng]) kx)
            · refine r_aload_n rfl dX9_propose_79 ?_
              refine r_getR foX9_25 rfl rfl dX9_propose_80 ?_
              refine r_iload_n rfl dX9_propose_83 ?_
              refine r_ild rfl rfl (by omega) (by decide) dX9_propose_84 ?_
              rw [gx2 (if_pos na) k hk]
              refine r_iload rfl dX9_propose_85 ?_
              refine r_icmp_le 101 dX9_propose_87 (by decide) (fun c_87 => ?_) (fun c_87 => ?_)
              · first | refine r_incN5 rfl (by decide) dX9_propose_101 ?_ | refine r_incP5 rfl (by decide) dX9_propose_101 ?_
                refine r_goto 41 dX9_propose_104 (by decide) ?_
                first
                  | exact ih (t + 1) _ _ _ (by omega) (by omega) (by rw [ppF, if_neg c_59]) (by rw [ppF, if_neg c_59]) k1
                  | (have na : ¬ allG (eM h n) (lab c) (nI (t + 1)) := fun z => by rw [if_pos z] at c_72; exact absurd c_72 (by decide)
                     exact ih (t + 1) _ _ _ (by omega) (by omega) (by rw [ppF, if_pos c_59, if_neg na]) (by rw [ppF, if_pos c_59, if_neg na]) kx)
                  | exact ih (t + 1) _ _ _ (by omega) (by omega) (by rw [ppF, if_pos c_59, if_pos na, if_pos c_87]) (by rw [ppF, if_pos c_59, if_pos na, if_pos c_87]) kx
                  | exact ih (t + 1) _ _ _ (by omega) (by omega) (by rw [ppF, if_pos c_59, if_pos na, if_neg c_87]) (by rw [ppF, if_pos c_59, if_pos na, if_neg c_87]) kx
                  | (have ng : ¬ goodS (eM h n) (gath (lab c) (nI (t + 1))) k ≤ (ppF (eM h n) (lab c) k t).2 := by rw [pp_neg t (by omega) c_76]; exact good_n6 I.2.1.2 hk
                     exact ih (t + 1) _ _ _ (by omega) (by omega) (by rw [ppF, if_pos c_59, if_pos na, if_neg ng]) (by rw [ppF, if_pos c_59, if_pos na, if_neg ng]) kx)
              · refine r_iload rfl dX9_propose_90 ?_
                refine r_ist3 rfl (by decide) dX9_propose_92 ?_
                refine r_aload_n rfl dX9_propose_93 ?_
                refine r_getR foX9_25 rfl rfl dX9_propose_94 ?_
                refine r_iload_n rfl dX9_propose_97 ?_
                refine r_ild rfl rfl (by omega) (by decide) dX9_propose_98 ?_
                rw [gx2 (if_pos na) k hk]
                refine r_ist4 rfl (by decide) dX9_propose_99 ?_
                first | refine r_incN5 rfl (by decide) dX9_propose_101 ?_ | refine r_incP5 rfl (by decide) dX9_propose_101 ?_
                refine r_goto 41 dX9_propose_104 (by decide) ?_
                first
                  | exact ih (t + 1) _ _ _ (by omega) (by omega) (by rw [ppF, if_neg c_59]) (by rw [ppF, if_neg c_59]) k1
                  | (have na : ¬ allG (eM h n) (lab c) (nI (t + 1)) := fun z => by rw [if_pos z] at c_72; exact absurd c_72 (by decide)
                     exact ih (t + 1) _ _ _ (by omega) (by omega) (by rw [ppF, if_pos c_59, if_neg na]) (by rw [ppF, if_pos c_59, if_neg na]) kx)
                  | exact ih (t + 1) _ _ _ (by omega) (by omega) (by rw [ppF, if_pos c_59, if_pos na, if_pos c_87]) (by rw [ppF, if_pos c_59, if_pos na, if_pos c_87]) kx
                  | exact ih (t + 1) _ _ _ (by omega) (by omega) (by rw [ppF, if_pos c_59, if_pos na, if_neg c_87]) (by rw [ppF, if_pos c_59, if_pos na, if_neg c_87]) kx
                  | (have ng : ¬ goodS (eM h n) (gath (lab c) (nI (t + 1))) k ≤ (ppF (eM h n) (lab c) k t).2 := by rw [pp_neg t (by omega) c_76]; exact good_n6 I.2.1.2 hk
                     exact ih (t + 1) _ _ _ (by omega) (by omega) (by rw [ppF, if_pos c_59, if_pos na, if_neg ng]) (by rw [ppF, if_pos c_59, if_pos na, if_neg ng]) kx)
  refine r_aload_n rfl dX9_propose_0 ?_
  refine r_iload_n rfl dX9_propose_1 ?_
  refine r_cV1i (T := TX9) (N := 21) moX9_isLand lkX9_77 rfl rfl (Nat.le_of_ble_eq_true rfl) ⟨by decide, by decide⟩ (Nat.le_of_ble_eq_true rfl) dX9_propose_2 rfl (m_isLand I.1.1 I.1.2) (fun v1 h1 q1 => ?_)
  obtain ⟨e1, f1⟩ := q1
  subst f1
  rw [e1]
  refine r_if_ne 10 dX9_propose_5 (by decide) (fun c_5 => ?_) (fun c_5 => ?_)
  · refine r_iload_n rfl dX9_propose_10 ?_
    refine r_i2l dX9_propose_11 ?_
    refine r_lconst rfl dX9_propose_12 ?_
    refine r_lconst rfl dX9_propose_13 ?_
    refine r_cS3i moX9_in lkX9_59 (Nat.le_of_ble_eq_true rfl) ⟨by decide, by decide⟩ (Nat.le_of_ble_eq_true rfl) dX9_propose_14 rfl (c_in (b := 0) (c := 1) (by decide) (by decide)) (fun v2 h2 q2 => ?_)
    obtain ⟨e2, f2⟩ := q2
    subst f2
    rw [e2]
    refine r_if_ne 23 dX9_propose_17 (by decide) (fun c_17 => ?_) (fun c_17 => ?_)
    · refine r_aload_n rfl dX9_propose_23 ?_
      refine r_aload_n rfl dX9_propose_24 ?_
      refine r_getR foX9_13 rfl rfl dX9_propose_25 ?_
      refine r_cV1v (T := TX9) (N := 21) moX9_keepGoods lkX9_143 rfl rfl (Nat.le_of_ble_eq_true rfl) ⟨by decide, by decide⟩ (Nat.le_of_ble_eq_true rfl) dX9_propose_28 rfl (m_keepGoods (A := 64) rfl (by omega) hn6 I.1.2 I.2.1.2) (fun h3 q3 => ?_)
      obtain ⟨J, kj⟩ := I.K.J q3.1 q3.2
      refine r_bipush (v := (-6 : Int32)) (by decide) dX9_propose_31 ?_
      refine r_ist3 rfl (by decide) dX9_propose_33 ?_
      refine r_bipush (v := (-6 : Int32)) (by decide) dX9_propose_34 ?_
      refine r_ist4 rfl (by decide) dX9_propose_36 ?_
      refine r_iconst (v := nI 1) (by decide) dX9_propose_38 ?_
      refine r_ist5 rfl (by decide) dX9_propose_39 ?_
      exact loop (rng_1 c_17).1 (Int32.not_lt.mp (rng_1 c_17).2) _ J kj (2 ^ n) 0 _ _ _ (by omega) (by omega) rfl rfl KM.refl
    · refine r_bipush (v := (-2 : Int32)) (by decide) dX9_propose_20 ?_
      refine ret_i dX9_propose_22 rfl ?_
      exact Or.inl ⟨rng_o c_17, rfl, rfl⟩
  · refine r_iconst (v := (-1 : Int32)) (by decide) dX9_propose_8 ?_
    refine ret_i dX9_propose_9 rfl ?_
    exact absurd (c_5.symm.trans (isL_k (by omega) hk)) (by decide)

set_option maxRecDepth 100000 in
set_option maxHeartbeats 400000 in
theorem m_propose {g : GG} {n m : Nat} {h : Hp} {c : Nat → Nat} {E : Ec} {s : Nat → Int32} {x w : Int32} (I : RF h n c m E s) : R g mX9_propose 0 [some (.ref (ad g 62)), some (.int x), some (.int w), none, none, none] [] h (Ri fun v h' => (isL n x = 0 ∧ v = -1 ∧ h' = h) ∨ ∃ k, k < n ∧ x = nI k ∧ (((w < 0 ∨ 1 < w) ∧ v = -2 ∧ h' = h) ∨ (¬ w < 0 ∧ w ≤ 1 ∧ v = (if w = 0 then (ppF E (lab c) k (2 ^ n - 1)).1 else (ppF E (lab c) k (2 ^ n - 1)).2) ∧ RP h h' n c m E s))) := by
  have hn6 := I.1.1
  by_cases hx : isL n x = 0
  · have hz : True := trivial
    refine r_aload_n rfl dX9_propose_0 ?_
    refine r_iload_n rfl dX9_propose_1 ?_
    refine r_cV1i (T := TX9) (N := 21) moX9_isLand lkX9_77 rfl rfl (Nat.le_of_ble_eq_true rfl) ⟨by decide, by decide⟩ (Nat.le_of_ble_eq_true rfl) dX9_propose_2 rfl (m_isLand I.1.1 I.1.2) (fun v1 h1 q1 => ?_)
    obtain ⟨e1, f1⟩ := q1
    subst f1
    rw [e1]
    refine r_if_ne 10 dX9_propose_5 (by decide) (fun c_5 => ?_) (fun c_5 => ?_)
    · exact absurd hx c_5
    · refine r_iconst (v := (-1 : Int32)) (by decide) dX9_propose_8 ?_
      refine ret_i dX9_propose_9 rfl ?_
      exact Or.inl ⟨c_5, rfl, rfl⟩
  · obtain ⟨k, hk, rfl⟩ := isL_y (by omega) hx
    exact Ri.imp (m_proposek I hk) (fun v h' q => Or.inr ⟨k, hk, rfl, q⟩)

theorem in02 {x : Int32} (h1 : ¬ x < 0) (h2 : x ≤ 2) (h3 : ¬ x = 0) (h4 : ¬ x = 1) : x = 2 := by
  obtain ⟨j, hj, e⟩ := nI_of h1
  subst e
  have : j ≤ 2 := (nI_leI hj (by omega)).mp h2
  rcases (show j = 0 ∨ j = 1 ∨ j = 2 by omega) with rfl | rfl | rfl
  · exact absurd rfl h3
  · exact absurd rfl h4
  · rfl
set_option maxRecDepth 100000 in
set_option maxHeartbeats 400000 in
theorem m_whole {g : GG} {n m : Nat} {h : Hp} {c : Nat → Nat} {E : Ec} {s : Nat → Int32} {x : Int32} (I : RF h n c m E s) : R g mX9_whole 0 [some (.ref (ad g 62)), some (.int x), none, none, none, none] [] h (Ri fun v h' => ((x < 0 ∨ 2 < x) ∧ v = -2 ∧ h' = h) ∨ (¬ x < 0 ∧ x ≤ 2 ∧ v = (if x = 2 then (if wsF E n < wnF E n then 0 else 1) else if x = 0 then wnF E n else wsF E n) ∧ RP h h' n c m E s)) := by
  have hn6 := I.1.1
  have eE := I.2.1.1
  subst eE
  have loop1 : ¬ x < 0 → x ≤ 2 → ∀ (z l : Nat) (hh : Hp), l ≤ 6 → 6 < l + z → S1 65 l (fun j => nI j) h hh → R g mX9_whole 17 [some (.ref (ad g 62)), some (.int x), some (.int (nI l)), none, none, none] [] hh (Ri fun v h' => ((x < 0 ∨ 2 < x) ∧ v = -2 ∧ h' = h) ∨ (¬ x < 0 ∧ x ≤ 2 ∧ v = (if x = 2 then (if wsF (eM h n) n < wnF (eM h n) n then 0 else 1) else if x = 0 then wnF (eM h n) n else wsF (eM h n) n) ∧ RP h h' n c m (eM h n) s)) := by
    intro hx1 hx2
    have loop3 : ∀ (hh : Hp), KN h hh → (∀ j, j < n → hh 68 j = goodS (eM h n) (lab fun _ => 0) j) → (∀ j, j < n → hh 75 j = goodS (eM h n) (lab fun l => l) j) → ∀ (z l : Nat) (x2 x3 : Int32) {y : Option Value}, l ≤ n → n < l + z → x2 = wnF (eM h n) l → x3 = wsF (eM h n) l → R g mX9_whole 80 [some (.ref (ad g 62)), some (.int x), some (.int x2), some (.int x3), some (.int (nI l)), y] [] hh (Ri fun v h' => ((x < 0 ∨ 2 < x) ∧ v = -2 ∧ h' = h) ∨ (¬ x < 0 ∧ x ≤ 2 ∧ v = (if x = 2 then (if wsF (eM h n) n < wnF (eM h n) n then 0 else 1) else if x = 0 then wnF (eM h n) n else wsF (eM h n) n) ∧ RP h h' n c m (eM h n) s)) := by
      intro hh k1 G0 G1 z
      induction z with
      | zero => intro l x2 x3 y a b; omega
      | succ z ih =>
        intro l x2 x3 y a b e2 e3
        subst e2; subst e3
        refine r_iload rfl dX9_whole_80 ?_
        refine r_aload_n rfl dX9_whole_82 ?_
        refine r_getI foX9_55 rfl rfl dX9_whole_83 ?_
        rw [k1 62 (by omega) (by omega) (by omega), I.1.2]
        refine r_icmp_ge 141 dX9_whole_86 (by decide) (fun c_86 => ?_) (fun c_86 => ?_)
        · have e : l = n := by have := ge_y (by omega) (by omega) c_86; omega
          subst e
          refine r_iload_n rfl dX9_whole_141 ?_
          refine r_if_ne 149 dX9_whole_142 (by decide) (fun c_142 => ?_) (fun c_142 => ?_)
          · refine r_iload_n rfl dX9_whole_149 ?_
            refine r_iconst (v := (1 : Int32)) (by decide) dX9_whole_150 ?_
            refine r_icmp_ne 158 dX9_whole_151 (by decide) (fun c_151 => ?_) (fun c_151 => ?_)
            · refine r_iload_n rfl dX9_whole_158 ?_
              refine r_iload_n rfl dX9_whole_159 ?_
              refine r_icmp_gt 167 dX9_whole_160 (by decide) (fun c_160 => ?_) (fun c_160 => ?_)
              · refine r_iconst (v := (0 : Int32)) (by decide) dX9_whole_167 ?_
                refine ret_i dX9_whole_168 rfl ?_
                refine Or.inr ⟨hx1, hx2, ?_, I.KN k1⟩
                first
                  | rw [c_142, if_neg (by decide), if_pos rfl]
                  | rw [c_151, if_neg (by decide), if_neg (by decide)]
                  | (have ex : x = 2 := in02 hx1 hx2 c_142 c_151
                     first
                       | rw [if_pos ex, if_pos c_160]
                       | rw [if_pos ex, if_neg c_160])
              · refine r_iconst (v := (1 : Int32)) (by decide) dX9_whole_163 ?_
                refine r_goto 168 dX9_whole_164 (by decide) ?_
                refine ret_i dX9_whole_168 rfl ?_
                refine Or.inr ⟨hx1, hx2, ?_, I.KN k1⟩
                first
                  | rw [c_142, if_neg (by decide), if_pos rfl]
                  | rw [c_151, if_neg (by decide), if_neg (by decide)]
                  | (have ex : x = 2 := in02 hx1 hx2 c_142 c_151
                     first
                       | rw [if_pos ex, if_pos c_160]
                       | rw [if_pos ex, if_neg c_160])
            · refine r_iload_n rfl dX9_whole_154 ?_
              refine r_goto 168 dX9_whole_155 (by decide) ?_
              refine ret_i dX9_whole_168 rfl ?_
              refine Or.inr ⟨hx1, hx2, ?_, I.KN k1⟩
              first
                | rw [c_142, if_neg (by decide), if_pos rfl]
                | rw [c_151, if_neg (by decide), if_neg (by decide)]
                | (have ex : x = 2 := in02 hx1 hx2 c_142 c_151
                   first
                     | rw [if_pos ex, if_pos c_160]
                     | rw [if_pos ex, if_neg c_160])
          · refine r_iload_n rfl dX9_whole_145 ?_
            refine r_goto 168 dX9_whole_146 (by decide) ?_
            refine ret_i dX9_whole_168 rfl ?_
            refine Or.inr ⟨hx1, hx2, ?_, I.KN k1⟩
            first
              | rw [c_142, if_neg (by decide), if_pos rfl]
              | rw [c_151, if_neg (by decide), if_neg (by decide)]
              | (have ex : x = 2 := in02 hx1 hx2 c_142 c_151
                 first
                   | rw [if_pos ex, if_pos c_160]
                   | rw [if_pos ex, if_neg c_160])
        · have hlk : l < n := ge_n (by omega) c_86
          have hmo := bd_neg (good_bd (r := lab fun _ => 0) I.2.1.2 hlk) (good_bd (r := lab fun l => l) I.2.1.2 hlk)
          refine r_aload_n rfl dX9_whole_89 ?_
          refine r_getR foX9_25 rfl rfl dX9_whole_90 ?_
          refine r_iload rfl dX9_whole_93 ?_
          refine r_ild rfl rfl (by omega) (by decide) dX9_whole_95 ?_
          rw [G0 l hlk]
          refine r_aload_n rfl dX9_whole_96 ?_
          refine r_getR foX9_46 rfl rfl dX9_whole_97 ?_
          refine r_iload rfl dX9_whole_100 ?_
          refine r_ild rfl rfl (by omega) (by decide) dX9_whole_102 ?_
          rw [G1 l hlk]
          refine r_isub dX9_whole_103 ?_
          rw [show goodS (eM h n) (lab fun _ => 0) l - goodS (eM h n) (lab fun l => l) l = moS (eM h n) l from rfl] at hmo ⊢
          refine r_ist5 rfl (by decide) dX9_whole_104 ?_
          refine r_iload_n rfl dX9_whole_106 ?_
          refine r_iload rfl dX9_whole_107 ?_
          refine r_if_ge 118 dX9_whole_109 (by decide) (fun c_109 => ?_) (fun c_109 => ?_)
          · refine r_iconst (v := (0 : Int32)) (by decide) dX9_whole_118 ?_
            refine r_iadd dX9_whole_119 ?_
            refine r_ist2 rfl (by decide) dX9_whole_120 ?_
            refine r_iload_n rfl dX9_whole_121 ?_
            refine r_iload rfl dX9_whole_122 ?_
            refine r_if_le 132 dX9_whole_124 (by decide) (fun c_124 => ?_) (fun c_124 => ?_)
            · refine r_iconst (v := (0 : Int32)) (by decide) dX9_whole_132 ?_
              refine r_iadd dX9_whole_133 ?_
              refine r_ist3 rfl (by decide) dX9_whole_134 ?_
              first | refine r_incN4 rfl (by decide) dX9_whole_135 ?_ | refine r_incP4 rfl (by decide) dX9_whole_135 ?_
              refine r_goto 80 dX9_whole_138 (by decide) ?_
              first
                | exact ih (l + 1) _ _ (by omega) (by omega) (by rw [wnF, if_neg (fun q => hmo.mp q c_109)]) (by rw [wsF, if_neg (Int32.not_lt.mpr c_124)])
                | exact ih (l + 1) _ _ (by omega) (by omega) (by rw [wnF, if_neg (fun q => hmo.mp q c_109)]) (by rw [wsF, if_pos (Int32.not_le.mp c_124)])
                | exact ih (l + 1) _ _ (by omega) (by omega) (by rw [wnF, if_pos (hmo.mpr c_109)]) (by rw [wsF, if_neg (Int32.not_lt.mpr c_124)])
                | exact ih (l + 1) _ _ (by omega) (by omega) (by rw [wnF, if_pos (hmo.mpr c_109)]) (by rw [wsF, if_pos (Int32.not_le.mp c_124)])
            · refine r_iload rfl dX9_whole_127 ?_
              refine r_goto 133 dX9_whole_129 (by decide) ?_
              refine r_iadd dX9_whole_133 ?_
              refine r_ist3 rfl (by decide) dX9_whole_134 ?_
              first | refine r_incN4 rfl (by decide) dX9_whole_135 ?_ | refine r_incP4 rfl (by decide) dX9_whole_135 ?_
              refine r_goto 80 dX9_whole_138 (by decide) ?_
              first
                | exact ih (l + 1) _ _ (by omega) (by omega) (by rw [wnF, if_neg (fun q => hmo.mp q c_109)]) (by rw [wsF, if_neg (Int32.not_lt.mpr c_124)])
                | exact ih (l + 1) _ _ (by omega) (by omega) (by rw [wnF, if_neg (fun q => hmo.mp q c_109)]) (by rw [wsF, if_pos (Int32.not_le.mp c_124)])
                | exact ih (l + 1) _ _ (by omega) (by omega) (by rw [wnF, if_pos (hmo.mpr c_109)]) (by rw [wsF, if_neg (Int32.not_lt.mpr c_124)])
                | exact ih (l + 1) _ _ (by omega) (by omega) (by rw [wnF, if_pos (hmo.mpr c_109)]) (by rw [wsF, if_pos (Int32.not_le.mp c_124)])
          · refine r_iload rfl dX9_whole_112 ?_
            refine r_ineg dX9_whole_114 ?_
            refine r_goto 119 dX9_whole_115 (by decide) ?_
            refine r_iadd dX9_whole_119 ?_
            refine r_ist2 rfl (by decide) dX9_whole_120 ?_
            refine r_iload_n rfl dX9_whole_121 ?_
            refine r_iload rfl dX9_whole_122 ?_
            refine r_if_le 132 dX9_whole_124 (by decide) (fun c_124 => ?_) (fun c_124 => ?_)
            · refine r_iconst (v := (0 : Int32)) (by decide) dX9_whole_132 ?_
              refine r_iadd dX9_whole_133 ?_
              refine r_ist3 rfl (by decide) dX9_whole_134 ?_
              first | refine r_incN4 rfl (by decide) dX9_whole_135 ?_ | refine r_incP4 rfl (by decide) dX9_whole_135 ?_
              refine r_goto 80 dX9_whole_138 (by decide) ?_
              first
                | exact ih (l + 1) _ _ (by omega) (by omega) (by rw [wnF, if_neg (fun q => hmo.mp q c_109)]) (by rw [wsF, if_neg (Int32.not_lt.mpr c_124)])
                | exact ih (l + 1) _ _ (by omega) (by omega) (by rw [wnF, if_neg (fun q => hmo.mp q c_109)]) (by rw [wsF, if_pos (Int32.not_le.mp c_124)])
                | exact ih (l + 1) _ _ (by omega) (by omega) (by rw [wnF, if_pos (hmo.mpr c_109)]) (by rw [wsF, if_neg (Int32.not_lt.mpr c_124)])
                | exact ih (l + 1) _ _ (by omega) (by omega) (by rw [wnF, if_pos (hmo.mpr c_109)]) (by rw [wsF, if_pos (Int32.not_le.mp c_124)])
            · refine r_iload rfl dX9_whole_127 ?_
              refine r_goto 133 dX9_whole_129 (by decide) ?_
              refine r_iadd dX9_whole_133 ?_
              refine r_ist3 rfl (by decide) dX9_whole_134 ?_
              first | refine r_incN4 rfl (by decide) dX9_whole_135 ?_ | refine r_incP4 rfl (by decide) dX9_whole_135 ?_
              refine r_goto 80 dX9_whole_138 (by decide) ?_
              first
                | exact ih (l + 1) _ _ (by omega) (by omega) (by rw [wnF, if_neg (fun q => hmo.mp q c_109)]) (by rw [wsF, if_neg (Int32.not_lt.mpr c_124)])
                | exact ih (l + 1) _ _ (by omega) (by omega) (by rw [wnF, if_neg (fun q => hmo.mp q c_109)]) (by rw [wsF, if_pos (Int32.not_le.mp c_124)])
                | exact ih (l + 1) _ _ (by omega) (by omega) (by rw [wnF, if_pos (hmo.mpr c_109)]) (by rw [wsF, if_neg (Int32.not_lt.mpr c_124)])
                | exact ih (l + 1) _ _ (by omega) (by omega) (by rw [wnF, if_pos (hmo.mpr c_109)]) (by rw [wsF, if_pos (Int32.not_le.mp c_124)])
    have loop2 : ∀ (hk : Hp), KN h hk → (∀ j, j < n → hk 75 j = goodS (eM h n) (lab fun l => l) j) → ∀ (z l : Nat) (hh : Hp), l ≤ 6 → 6 < l + z → S1 65 l (fun _ => nI 0) hk hh → R g mX9_whole 46 [some (.ref (ad g 62)), some (.int x), some (.int (nI l)), none, none, none] [] hh (Ri fun v h' => ((x < 0 ∨ 2 < x) ∧ v = -2 ∧ h' = h) ∨ (¬ x < 0 ∧ x ≤ 2 ∧ v = (if x = 2 then (if wsF (eM h n) n < wnF (eM h n) n then 0 else 1) else if x = 0 then wnF (eM h n) n else wsF (eM h n) n) ∧ RP h h' n c m (eM h n) s)) := by
      intro hk kn g75 z
      induction z with
      | zero => intro l hh a b; omega
      | succ z ih =>
        intro l hh a b H
        refine r_iload_n rfl dX9_whole_46 ?_
        refine r_bipush (v := nI 6) (by decide) dX9_whole_47 ?_
        refine r_icmp_ge 65 dX9_whole_49 (by decide) (fun c_49 => ?_) (fun c_49 => ?_)
        · have e : l = 6 := by have := ge_y (by omega) (by omega) c_49; omega
          subst e
          have eL : eM hh n = eM h n := eM_keep (by rw [H.1 63 (by omega), kn 63 (by omega) (by omega) (by omega)]) (by rw [H.1 62 (by omega), kn 62 (by omega) (by omega) (by omega)])
          refine r_aload_n rfl dX9_whole_65 ?_
          refine r_aload_n rfl dX9_whole_66 ?_
          refine r_getR foX9_16 rfl rfl dX9_whole_67 ?_
          refine r_cV1v (T := TX9) (N := 21) moX9_findGoods lkX9_115 rfl rfl (Nat.le_of_ble_eq_true rfl) ⟨by decide, by decide⟩ (Nat.le_of_ble_eq_true rfl) dX9_whole_70 rfl (m_findGoods (n := n) (A := 65) rfl (by omega) hn6 (by rw [H.1 62 (by omega), kn 62 (by omega) (by omega) (by omega)]; exact I.1.2) (by rw [eL]; exact I.2.1.2)) (fun h21 q21 => ?_)
          obtain ⟨kf, ff⟩ := q21
          rw [eL] at ff
          refine r_iconst (v := (0 : Int32)) (by decide) dX9_whole_73 ?_
          refine r_ist2 rfl (by decide) dX9_whole_74 ?_
          refine r_iconst (v := (0 : Int32)) (by decide) dX9_whole_75 ?_
          refine r_ist3 rfl (by decide) dX9_whole_76 ?_
          refine r_iconst (v := nI 0) (by decide) dX9_whole_77 ?_
          refine r_ist4 rfl (by decide) dX9_whole_78 ?_
          refine loop3 _ (fun q a b d => by rw [kf q a, H.1 q b, kn q a b d]) (fun j hj => ?_) (fun j hj => ?_) (n + 1) 0 _ _ (by omega) (by omega) rfl rfl
          · rw [(ff j hj).1]
            refine good_eq (EcEq.refl _) (fun i hi => ?_) hj
            have hi6 : i < 6 := Nat.lt_of_lt_of_le hi hn6
            exact H.2.1 i hi6
          · rw [kf 75 (by omega), H.1 75 (by omega)]; exact g75 j hj
        · have hlk : l < 6 := ge_n (by omega) c_49
          refine r_aload_n rfl dX9_whole_52 ?_
          refine r_getR foX9_16 rfl rfl dX9_whole_53 ?_
          refine r_iload_n rfl dX9_whole_56 ?_
          refine r_iconst (v := nI 0) (by decide) dX9_whole_57 ?_
          refine r_ias rfl rfl (by omega) (by decide) dX9_whole_58 ?_
          first | refine r_incN2 rfl (by decide) dX9_whole_59 ?_ | refine r_incP2 rfl (by decide) dX9_whole_59 ?_
          refine r_goto 46 dX9_whole_62 (by decide) ?_
          exact ih (l + 1) _ (by omega) (by omega) (S1_set H rfl)
    intro z
    induction z with
    | zero => intro l hh a b; omega
    | succ z ih =>
      intro l hh a b H
      refine r_iload_n rfl dX9_whole_17 ?_
      refine r_bipush (v := nI 6) (by decide) dX9_whole_18 ?_
      refine r_icmp_ge 36 dX9_whole_20 (by decide) (fun c_20 => ?_) (fun c_20 => ?_)
      · have e : l = 6 := by have := ge_y (by omega) (by omega) c_20; omega
        subst e
        have eL : eM hh n = eM h n := eM_keep (H.1 63 (by omega)) (H.1 62 (by omega))
        refine r_aload_n rfl dX9_whole_36 ?_
        refine r_aload_n rfl dX9_whole_37 ?_
        refine r_getR foX9_16 rfl rfl dX9_whole_38 ?_
        refine r_cV1v (T := TX9) (N := 21) moX9_keepGoods lkX9_143 rfl rfl (Nat.le_of_ble_eq_true rfl) ⟨by decide, by decide⟩ (Nat.le_of_ble_eq_true rfl) dX9_whole_41 rfl (m_keepGoods (n := n) (A := 65) rfl (by omega) hn6 (by rw [H.1 62 (by omega)]; exact I.1.2) (by rw [eL]; exact I.2.1.2)) (fun h21 q21 => ?_)
        obtain ⟨kf, ff⟩ := q21
        rw [eL] at ff
        refine r_iconst (v := nI 0) (by decide) dX9_whole_44 ?_
        refine r_ist2 rfl (by decide) dX9_whole_45 ?_
        refine loop2 _ (fun q a b d => by rw [kf q a d, H.1 q b]) (fun j hj => ?_) 7 0 _ (by omega) (by omega) S1_0
        rw [ff j hj]
        refine good_eq (EcEq.refl _) (fun i hi => ?_) hj
        have hi6 : i < 6 := Nat.lt_of_lt_of_le hi hn6
        exact H.2.1 i hi6
      · have hlk : l < 6 := ge_n (by omega) c_20
        refine r_aload_n rfl dX9_whole_23 ?_
        refine r_getR foX9_16 rfl rfl dX9_whole_24 ?_
        refine r_iload_n rfl dX9_whole_27 ?_
        refine r_iload_n rfl dX9_whole_28 ?_
        refine r_ias rfl rfl (by omega) (by decide) dX9_whole_29 ?_
        first | refine r_incN2 rfl (by decide) dX9_whole_30 ?_ | refine r_incP2 rfl (by decide) dX9_whole_30 ?_
        refine r_goto 17 dX9_whole_33 (by decide) ?_
        exact ih (l + 1) _ (by omega) (by omega) (S1_set H rfl)
  refine r_iload_n rfl dX9_whole_0 ?_
  refine r_i2l dX9_whole_1 ?_
  refine r_lconst rfl dX9_whole_2 ?_
  refine r_ldc2 kcX9_83 dX9_whole_3 ?_
  refine r_cS3i moX9_in lkX9_59 (Nat.le_of_ble_eq_true rfl) ⟨by decide, by decide⟩ (Nat.le_of_ble_eq_true rfl) dX9_whole_6 rfl (c_in (b := 0) (c := 2) (by decide) (by decide)) (fun v1 h1 q1 => ?_)
  obtain ⟨e1, f1⟩ := q1
  subst f1
  rw [e1]
  refine r_if_ne 15 dX9_whole_9 (by decide) (fun c_9 => ?_) (fun c_9 => ?_)
  · refine r_iconst (v := nI 0) (by decide) dX9_whole_15 ?_
    refine r_ist2 rfl (by decide) dX9_whole_16 ?_
    exact loop1 (rng_1 c_9).1 (Int32.not_lt.mp (rng_1 c_9).2) 7 0 _ (by omega) (by omega) S1_0
  · refine r_bipush (v := (-2 : Int32)) (by decide) dX9_whole_12 ?_
    refine ret_i dX9_whole_14 rfl ?_
    exact Or.inl ⟨rng_o c_9, rfl, rfl⟩

set_option maxRecDepth 100000 in
set_option maxHeartbeats 400000 in
theorem m_hurt {g : GG} {n m : Nat} {h : Hp} {c : Nat → Nat} {E : Ec} {s : Nat → Int32} {x : Int32} (I : RF h n c m E s) : R g mX9_hurt 0 [some (.ref (ad g 62)), some (.int x), none, none] [] h (Ri fun v h' => (isL (mx c n) x = 0 ∧ v = -2 ∧ h' = h) ∨ (¬ isL (mx c n) x = 0 ∧ v = huF E (lab c) x n ∧ RP h h' n c m E s)) := by
  have hn6 := I.1.1
  have eE := I.2.1.1
  subst eE
  have loop2 : ¬ isL (mx c n) x = 0 → ∀ (hj : Hp), MJ hj 64 n c → KN h hj → ∀ (z l : Nat) (hh : Hp), l ≤ 6 → 6 < l + z → S1 65 l (fun j => if h 64 j = x then 7 + nI j else h 64 j) hj hh → R g mX9_hurt 21 [some (.ref (ad g 62)), some (.int x), some (.int (nI l)), none] [] hh (Ri fun v h' => (isL (mx c n) x = 0 ∧ v = -2 ∧ h' = h) ∨ (¬ isL (mx c n) x = 0 ∧ v = huF (eM h n) (lab c) x n ∧ RP h h' n c m (eM h n) s)) := by
    intro hx hj J kj
    have loop3 : ∀ (hh : Hp), KN h hh → (∀ j, j < n → hh 68 j = goodS (eM h n) (scat (lab c) x) j) → (∀ j, j < n → hh 75 j = goodS (eM h n) (lab c) j) → ∀ (z l : Nat) (x2 : Int32), l ≤ n → n < l + z → x2 = huF (eM h n) (lab c) x l → R g mX9_hurt 74 [some (.ref (ad g 62)), some (.int x), some (.int x2), some (.int (nI l))] [] hh (Ri fun v h' => (isL (mx c n) x = 0 ∧ v = -2 ∧ h' = h) ∨ (¬ isL (mx c n) x = 0 ∧ v = huF (eM h n) (lab c) x n ∧ RP h h' n c m (eM h n) s)) := by
      intro hh k1 G0 G1 z
      induction z with
      | zero => intro l x2 a b; omega
      | succ z ih =>
        intro l x2 a b e2
        subst e2
        refine r_iload_n rfl dX9_hurt_74 ?_
        refine r_aload_n rfl dX9_hurt_75 ?_
        refine r_getI foX9_55 rfl rfl dX9_hurt_76 ?_
        rw [k1 62 (by omega) (by omega) (by omega), I.1.2]
        refine r_icmp_ge 123 dX9_hurt_79 (by decide) (fun c_79 => ?_) (fun c_79 => ?_)
        · refine r_iload_n rfl dX9_hurt_123 ?_
          refine ret_i dX9_hurt_124 rfl ?_
          have e : l = n := by have := ge_y (by omega) (by omega) c_79; omega
          exact Or.inr ⟨hx, by rw [e], I.KN k1⟩
        · have hlk : l < n := ge_n (by omega) c_79
          refine r_iload_n rfl dX9_hurt_82 ?_
          refine r_aload_n rfl dX9_hurt_83 ?_
          refine r_getR foX9_13 rfl rfl dX9_hurt_84 ?_
          refine r_iload_n rfl dX9_hurt_87 ?_
          refine r_ild rfl rfl (by omega) (by decide) dX9_hurt_88 ?_
          rw [k1 64 (by omega) (by omega) (by omega), I.2.2.2.1 l hlk]
          refine r_iload_n rfl dX9_hurt_89 ?_
          refine r_icmp_eq 114 dX9_hurt_90 (by decide) (fun c_90 => ?_) (fun c_90 => ?_)
          · refine r_iconst (v := (0 : Int32)) (by decide) dX9_hurt_114 ?_
            refine r_ior dX9_hurt_115 ?_
            refine r_ist2 rfl (by decide) dX9_hurt_116 ?_
            first | refine r_incN3 rfl (by decide) dX9_hurt_117 ?_ | refine r_incP3 rfl (by decide) dX9_hurt_117 ?_
            refine r_goto 74 dX9_hurt_120 (by decide) ?_
            first
              | exact ih (l + 1) _ (by omega) (by omega) (by rw [huF, if_pos c_90, Int32.or_zero])
              | exact ih (l + 1) _ (by omega) (by omega) (by rw [huF, if_neg c_90, if_pos c_105, Int32.or_zero])
              | exact ih (l + 1) _ (by omega) (by omega) (by rw [huF, if_neg c_90, if_neg c_105])
          · refine r_aload_n rfl dX9_hurt_93 ?_
            refine r_getR foX9_46 rfl rfl dX9_hurt_94 ?_
            refine r_iload_n rfl dX9_hurt_97 ?_
            refine r_ild rfl rfl (by omega) (by decide) dX9_hurt_98 ?_
            rw [G1 l hlk]
            refine r_aload_n rfl dX9_hurt_99 ?_
            refine r_getR foX9_25 rfl rfl dX9_hurt_100 ?_
            refine r_iload_n rfl dX9_hurt_103 ?_
            refine r_ild rfl rfl (by omega) (by decide) dX9_hurt_104 ?_
            rw [G0 l hlk]
            refine r_icmp_ge 114 dX9_hurt_105 (by decide) (fun c_105 => ?_) (fun c_105 => ?_)
            · refine r_iconst (v := (0 : Int32)) (by decide) dX9_hurt_114 ?_
              refine r_ior dX9_hurt_115 ?_
              refine r_ist2 rfl (by decide) dX9_hurt_116 ?_
              first | refine r_incN3 rfl (by decide) dX9_hurt_117 ?_ | refine r_incP3 rfl (by decide) dX9_hurt_117 ?_
              refine r_goto 74 dX9_hurt_120 (by decide) ?_
              first
                | exact ih (l + 1) _ (by omega) (by omega) (by rw [huF, if_pos c_90, Int32.or_zero])
                | exact ih (l + 1) _ (by omega) (by omega) (by rw [huF, if_neg c_90, if_pos c_105, Int32.or_zero])
                | exact ih (l + 1) _ (by omega) (by omega) (by rw [huF, if_neg c_90, if_neg c_105])
            · refine r_iconst (v := (1 : Int32)) (by decide) dX9_hurt_108 ?_
              refine r_iload_n rfl dX9_hurt_109 ?_
              refine r_ishl dX9_hurt_110 ?_
              refine r_goto 115 dX9_hurt_111 (by decide) ?_
              refine r_ior dX9_hurt_115 ?_
              refine r_ist2 rfl (by decide) dX9_hurt_116 ?_
              first | refine r_incN3 rfl (by decide) dX9_hurt_117 ?_ | refine r_incP3 rfl (by decide) dX9_hurt_117 ?_
              refine r_goto 74 dX9_hurt_120 (by decide) ?_
              first
                | exact ih (l + 1) _ (by omega) (by omega) (by rw [huF, if_pos c_90, Int32.or_zero])
                | exact ih (l + 1) _ (by omega) (by omega) (by rw [huF, if_neg c_90, if_pos c_105, Int32.or_zero])
                | exact ih (l + 1) _ (by omega) (by omega) (by rw [huF, if_neg c_90, if_neg c_105])
    intro z
    induction z with
    | zero => intro l hh a b; omega
    | succ z ih =>
      intro l hh a b H
      refine r_iload_n rfl dX9_hurt_21 ?_
      refine r_bipush (v := nI 6) (by decide) dX9_hurt_22 ?_
      refine r_icmp_ge 62 dX9_hurt_24 (by decide) (fun c_24 => ?_) (fun c_24 => ?_)
      · have e : l = 6 := by have := ge_y (by omega) (by omega) c_24; omega
        subst e
        have eL : eM hh n = eM h n := eM_keep (by rw [H.1 63 (by omega), kj 63 (by omega) (by omega) (by omega)]) (by rw [H.1 62 (by omega), kj 62 (by omega) (by omega) (by omega)])
        refine r_aload_n rfl dX9_hurt_62 ?_
        refine r_aload_n rfl dX9_hurt_63 ?_
        refine r_getR foX9_16 rfl rfl dX9_hurt_64 ?_
        refine r_cV1v (T := TX9) (N := 21) moX9_findGoods lkX9_115 rfl rfl (Nat.le_of_ble_eq_true rfl) ⟨by decide, by decide⟩ (Nat.le_of_ble_eq_true rfl) dX9_hurt_67 rfl (m_findGoods (n := n) (A := 65) rfl (by omega) hn6 (by rw [H.1 62 (by omega), kj 62 (by omega) (by omega) (by omega)]; exact I.1.2) (by rw [eL]; exact I.2.1.2)) (fun h21 q21 => ?_)
        obtain ⟨kf, ff⟩ := q21
        rw [eL] at ff
        refine r_iconst (v := (0 : Int32)) (by decide) dX9_hurt_70 ?_
        refine r_ist2 rfl (by decide) dX9_hurt_71 ?_
        refine r_iconst (v := nI 0) (by decide) dX9_hurt_72 ?_
        refine r_ist3 rfl (by decide) dX9_hurt_73 ?_
        refine loop3 _ (fun q a b d => by rw [kf q a, H.1 q b, kj q a b d]) (fun j hj => ?_) (fun j hj => ?_) (n + 1) 0 _ (by omega) (by omega) rfl
        · rw [(ff j hj).1]
          refine goodS_pat (EcEq.refl _) (Pat.trans (r' := fun j => if lab c j = x then 7 + nI j else lab c j) (Pat.of_eq (fun i hi => ?_)) (pat_scat hn6 I.c7)) hj
          have hi6 : i < 6 := Nat.lt_of_lt_of_le hi hn6
          rw [H.2.1 i hi6]
          show (if h 64 i = x then 7 + nI i else h 64 i) = _
          rw [I.2.2.2.1 i hi]
        · rw [kf 75 (by omega), H.1 75 (by omega), J.2.2.2.2.2.2 j hj, kj.eM, kj 64 (by omega) (by omega) (by omega)]
          exact good_eq (EcEq.refl _) (show EqN (eN (eM h n)) (h 64) (lab c) from I.2.2.2.1) hj
      · have hlk : l < 6 := ge_n (by omega) c_24
        refine r_aload_n rfl dX9_hurt_27 ?_
        refine r_getR foX9_16 rfl rfl dX9_hurt_28 ?_
        refine r_iload_n rfl dX9_hurt_31 ?_
        refine r_aload_n rfl dX9_hurt_32 ?_
        refine r_getR foX9_13 rfl rfl dX9_hurt_33 ?_
        refine r_iload_n rfl dX9_hurt_36 ?_
        refine r_ild rfl rfl (by omega) (by decide) dX9_hurt_37 ?_
        rw [H.1 64 (by omega), kj 64 (by omega) (by omega) (by omega)]
        refine r_iload_n rfl dX9_hurt_38 ?_
        refine r_icmp_ne 49 dX9_hurt_39 (by decide) (fun c_39 => ?_) (fun c_39 => ?_)
        · refine r_aload_n rfl dX9_hurt_49 ?_
          refine r_getR foX9_13 rfl rfl dX9_hurt_50 ?_
          refine r_iload_n rfl dX9_hurt_53 ?_
          refine r_ild rfl rfl (by omega) (by decide) dX9_hurt_54 ?_
          rw [H.1 64 (by omega), kj 64 (by omega) (by omega) (by omega)]
          refine r_ias rfl rfl (by omega) (by decide) dX9_hurt_55 ?_
          first | refine r_incN2 rfl (by decide) dX9_hurt_56 ?_ | refine r_incP2 rfl (by decide) dX9_hurt_56 ?_
          refine r_goto 21 dX9_hurt_59 (by decide) ?_
          first
            | exact ih (l + 1) _ (by omega) (by omega) (S1_set H (by rw [if_pos c_39]))
            | exact ih (l + 1) _ (by omega) (by omega) (S1_set H (by rw [if_neg c_39]))
        · refine r_bipush (v := (7 : Int32)) (by decide) dX9_hurt_42 ?_
          refine r_iload_n rfl dX9_hurt_44 ?_
          refine r_iadd dX9_hurt_45 ?_
          refine r_goto 55 dX9_hurt_46 (by decide) ?_
          refine r_ias rfl rfl (by omega) (by decide) dX9_hurt_55 ?_
          first | refine r_incN2 rfl (by decide) dX9_hurt_56 ?_ | refine r_incP2 rfl (by decide) dX9_hurt_56 ?_
          refine r_goto 21 dX9_hurt_59 (by decide) ?_
          first
            | exact ih (l + 1) _ (by omega) (by omega) (S1_set H (by rw [if_pos c_39]))
            | exact ih (l + 1) _ (by omega) (by omega) (S1_set H (by rw [if_neg c_39]))
  refine r_aload_n rfl dX9_hurt_0 ?_
  refine r_iload_n rfl dX9_hurt_1 ?_
  refine r_cV1i (T := TX9) (N := 21) moX9_isThere lkX9_180 rfl rfl (Nat.le_of_ble_eq_true rfl) ⟨by decide, by decide⟩ (Nat.le_of_ble_eq_true rfl) dX9_hurt_2 rfl (m_isThere I) (fun v1 h1 q1 => ?_)
  obtain ⟨e1, f1⟩ := q1
  subst f1
  rw [e1]
  refine r_if_ne 11 dX9_hurt_5 (by decide) (fun c_5 => ?_) (fun c_5 => ?_)
  · refine r_aload_n rfl dX9_hurt_11 ?_
    refine r_aload_n rfl dX9_hurt_12 ?_
    refine r_getR foX9_13 rfl rfl dX9_hurt_13 ?_
    refine r_cV1v (T := TX9) (N := 21) moX9_keepGoods lkX9_143 rfl rfl (Nat.le_of_ble_eq_true rfl) ⟨by decide, by decide⟩ (Nat.le_of_ble_eq_true rfl) dX9_hurt_16 rfl (m_keepGoods (A := 64) rfl (by omega) hn6 I.1.2 I.2.1.2) (fun h2 q2 => ?_)
    obtain ⟨J, kj⟩ := I.K.J q2.1 q2.2
    refine r_iconst (v := nI 0) (by decide) dX9_hurt_19 ?_
    refine r_ist2 rfl (by decide) dX9_hurt_20 ?_
    exact loop2 c_5 _ J kj 7 0 _ (by omega) (by omega) S1_0
  · refine r_bipush (v := (-2 : Int32)) (by decide) dX9_hurt_8 ?_
    refine ret_i dX9_hurt_10 rfl ?_
    exact Or.inl ⟨c_5, rfl, rfl⟩

set_option maxRecDepth 100000 in
set_option maxHeartbeats 400000 in
theorem m_enterk {g : GG} {n m : Nat} {h : Hp} {c : Nat → Nat} {E : Ec} {s : Nat → Int32} {k : Nat} {u w : Int32} (I : RF h n c m E s) (hk : k < n) : R g mX9_enter 0 [some (.ref (ad g 62)), some (.int (nI k)), some (.int u), some (.int w), none, none] [] h (Ri fun v h' => ((isL (mx c n) u = 0 ∨ lab c k = u ∨ w < 0 ∨ 1 < w) ∧ v = -1000000002 ∧ h' = h) ∨ (¬ isL (mx c n) u = 0 ∧ ¬ lab c k = u ∧ ¬ w < 0 ∧ w ≤ 1 ∧ v = (if w = 0 then goodS E (upd (lab c) k u) k - goodS E (lab c) k else enF E (lab c) k u n) ∧ RP h h' n c m E s)) := by
  have hn6 := I.1.1
  have eE := I.2.1.1
  subst eE
  have loop : ¬ isL (mx c n) u = 0 → ¬ lab c k = u → ¬ w < 0 → w ≤ 1 → ∀ (hh : Hp), KN h hh → (∀ j, j < n → hh 68 j = goodS (eM h n) (upd (lab c) k u) j) → (∀ j, j < n → hh 75 j = goodS (eM h n) (lab c) j) → ∀ (z l : Nat) (x2 : Int32), l ≤ n → n < l + z → x2 = enF (eM h n) (lab c) k u l → R g mX9_enter 83 [some (.ref (ad g 62)), some (.int (nI k)), some (.int u), some (.int w), some (.int x2), some (.int (nI l))] [] hh (Ri fun v h' => ((isL (mx c n) u = 0 ∨ lab c k = u ∨ w < 0 ∨ 1 < w) ∧ v = -1000000002 ∧ h' = h) ∨ (¬ isL (mx c n) u = 0 ∧ ¬ lab c k = u ∧ ¬ w < 0 ∧ w ≤ 1 ∧ v = (if w = 0 then goodS (eM h n) (upd (lab c) k u) k - goodS (eM h n) (lab c) k else enF (eM h n) (lab c) k u n) ∧ RP h h' n c m (eM h n) s)) := by
    intro hu hl hw1 hw2 hh k1 G0 G1 z
    induction z with
    | zero => intro l x2 a b; omega
    | succ z ih =>
      intro l x2 a b e2
      subst e2
      refine r_iload rfl dX9_enter_83 ?_
      refine r_aload_n rfl dX9_enter_85 ?_
      refine r_getI foX9_55 rfl rfl dX9_enter_86 ?_
      rw [k1 62 (by omega) (by omega) (by omega), I.1.2]
      refine r_icmp_ge 133 dX9_enter_89 (by decide) (fun c_89 => ?_) (fun c_89 => ?_)
      · have e : l = n := by have := ge_y (by omega) (by omega) c_89; omega
        subst e
        refine r_iload_n rfl dX9_enter_133 ?_
        refine r_if_ne 153 dX9_enter_134 (by decide) (fun c_134 => ?_) (fun c_134 => ?_)
        · refine r_iload rfl dX9_enter_153 ?_
          refine ret_i dX9_enter_155 rfl ?_
          first
            | exact Or.inr ⟨hu, hl, hw1, hw2, by rw [if_pos c_134], I.KN k1⟩
            | exact Or.inr ⟨hu, hl, hw1, hw2, by rw [if_neg c_134], I.KN k1⟩
        · refine r_aload_n rfl dX9_enter_137 ?_
          refine r_getR foX9_25 rfl rfl dX9_enter_138 ?_
          refine r_iload_n rfl dX9_enter_141 ?_
          refine r_ild rfl rfl (by omega) (by decide) dX9_enter_142 ?_
          rw [G0 k hk]
          refine r_aload_n rfl dX9_enter_143 ?_
          refine r_getR foX9_46 rfl rfl dX9_enter_144 ?_
          refine r_iload_n rfl dX9_enter_147 ?_
          refine r_ild rfl rfl (by omega) (by decide) dX9_enter_148 ?_
          rw [G1 k hk]
          refine r_isub dX9_enter_149 ?_
          refine r_goto 155 dX9_enter_150 (by decide) ?_
          refine ret_i dX9_enter_155 rfl ?_
          first
            | exact Or.inr ⟨hu, hl, hw1, hw2, by rw [if_pos c_134], I.KN k1⟩
            | exact Or.inr ⟨hu, hl, hw1, hw2, by rw [if_neg c_134], I.KN k1⟩
      · have hlk : l < n := ge_n (by omega) c_89
        refine r_iload rfl dX9_enter_92 ?_
        refine r_aload_n rfl dX9_enter_94 ?_
        refine r_getR foX9_13 rfl rfl dX9_enter_95 ?_
        refine r_iload rfl dX9_enter_98 ?_
        refine r_ild rfl rfl (by omega) (by decide) dX9_enter_100 ?_
        rw [k1 64 (by omega) (by omega) (by omega), I.2.2.2.1 l hlk]
        refine r_iload_n rfl dX9_enter_101 ?_
        refine r_icmp_ne 123 dX9_enter_102 (by decide) (fun c_102 => ?_) (fun c_102 => ?_)
        · refine r_iconst (v := (0 : Int32)) (by decide) dX9_enter_123 ?_
          refine r_iadd dX9_enter_124 ?_
          refine r_ist4 rfl (by decide) dX9_enter_125 ?_
          first | refine r_incN5 rfl (by decide) dX9_enter_127 ?_ | refine r_incP5 rfl (by decide) dX9_enter_127 ?_
          refine r_goto 83 dX9_enter_130 (by decide) ?_
          first
            | exact ih (l + 1) _ (by omega) (by omega) (by rw [enF, if_neg c_102, Int32.add_zero])
            | exact ih (l + 1) _ (by omega) (by omega) (by rw [enF, if_pos c_102])
        · refine r_aload_n rfl dX9_enter_105 ?_
          refine r_getR foX9_25 rfl rfl dX9_enter_106 ?_
          refine r_iload rfl dX9_enter_109 ?_
          refine r_ild rfl rfl (by omega) (by decide) dX9_enter_111 ?_
          rw [G0 l hlk]
          refine r_aload_n rfl dX9_enter_112 ?_
          refine r_getR foX9_46 rfl rfl dX9_enter_113 ?_
          refine r_iload rfl dX9_enter_116 ?_
          refine r_ild rfl rfl (by omega) (by decide) dX9_enter_118 ?_
          rw [G1 l hlk]
          refine r_isub dX9_enter_119 ?_
          refine r_goto 124 dX9_enter_120 (by decide) ?_
          refine r_iadd dX9_enter_124 ?_
          refine r_ist4 rfl (by decide) dX9_enter_125 ?_
          first | refine r_incN5 rfl (by decide) dX9_enter_127 ?_ | refine r_incP5 rfl (by decide) dX9_enter_127 ?_
          refine r_goto 83 dX9_enter_130 (by decide) ?_
          first
            | exact ih (l + 1) _ (by omega) (by omega) (by rw [enF, if_neg c_102, Int32.add_zero])
            | exact ih (l + 1) _ (by omega) (by omega) (by rw [enF, if_pos c_102])
  refine r_aload_n rfl dX9_enter_0 ?_
  refine r_iload_n rfl dX9_enter_1 ?_
  refine r_cV1i (T := TX9) (N := 21) moX9_isLand lkX9_77 rfl rfl (Nat.le_of_ble_eq_true rfl) ⟨by decide, by decide⟩ (Nat.le_of_ble_eq_true rfl) dX9_enter_2 rfl (m_isLand I.1.1 I.1.2) (fun v1 h1 q1 => ?_)
  obtain ⟨e1, f1⟩ := q1
  subst f1
  rw [e1]
  refine r_if_ne 11 dX9_enter_5 (by decide) (fun c_5 => ?_) (fun c_5 => ?_)
  · refine r_aload_n rfl dX9_enter_11 ?_
    refine r_iload_n rfl dX9_enter_12 ?_
    refine r_cV1i (T := TX9) (N := 21) moX9_isThere lkX9_180 rfl rfl (Nat.le_of_ble_eq_true rfl) ⟨by decide, by decide⟩ (Nat.le_of_ble_eq_true rfl) dX9_enter_13 rfl (m_isThere I) (fun v2 h2 q2 => ?_)
    obtain ⟨e2, f2⟩ := q2
    subst f2
    rw [e2]
    refine r_if_eq 39 dX9_enter_16 (by decide) (fun c_16 => ?_) (fun c_16 => ?_)
    · refine r_ldc kcX9_183 dX9_enter_39 ?_
      refine ret_i dX9_enter_41 rfl ?_
      first
        | exact Or.inl ⟨Or.inl c_16, rfl, rfl⟩
        | exact Or.inl ⟨Or.inr (Or.inl c_26.symm), rfl, rfl⟩
        | exact Or.inl ⟨Or.inr (Or.inr (rng_o c_36)), rfl, rfl⟩
    · refine r_iload_n rfl dX9_enter_19 ?_
      refine r_aload_n rfl dX9_enter_20 ?_
      refine r_getR foX9_13 rfl rfl dX9_enter_21 ?_
      refine r_iload_n rfl dX9_enter_24 ?_
      refine r_ild rfl rfl (by omega) (by decide) dX9_enter_25 ?_
      rw [I.2.2.2.1 k hk]
      refine r_icmp_eq 39 dX9_enter_26 (by decide) (fun c_26 => ?_) (fun c_26 => ?_)
      · refine r_ldc kcX9_183 dX9_enter_39 ?_
        refine ret_i dX9_enter_41 rfl ?_
        first
          | exact Or.inl ⟨Or.inl c_16, rfl, rfl⟩
          | exact Or.inl ⟨Or.inr (Or.inl c_26.symm), rfl, rfl⟩
          | exact Or.inl ⟨Or.inr (Or.inr (rng_o c_36)), rfl, rfl⟩
      · refine r_iload_n rfl dX9_enter_29 ?_
        refine r_i2l dX9_enter_30 ?_
        refine r_lconst rfl dX9_enter_31 ?_
        refine r_lconst rfl dX9_enter_32 ?_
        refine r_cS3i moX9_in lkX9_59 (Nat.le_of_ble_eq_true rfl) ⟨by decide, by decide⟩ (Nat.le_of_ble_eq_true rfl) dX9_enter_33 rfl (c_in (b := 0) (c := 1) (by decide) (by decide)) (fun v3 h3 q3 => ?_)
        obtain ⟨e3, f3⟩ := q3
        subst f3
        rw [e3]
        refine r_if_ne 42 dX9_enter_36 (by decide) (fun c_36 => ?_) (fun c_36 => ?_)
        · refine r_aload_n rfl dX9_enter_42 ?_
          refine r_aload_n rfl dX9_enter_43 ?_
          refine r_getR foX9_13 rfl rfl dX9_enter_44 ?_
          refine r_cV1v (T := TX9) (N := 21) moX9_keepGoods lkX9_143 rfl rfl (Nat.le_of_ble_eq_true rfl) ⟨by decide, by decide⟩ (Nat.le_of_ble_eq_true rfl) dX9_enter_47 rfl (m_keepGoods (A := 64) rfl (by omega) hn6 I.1.2 I.2.1.2) (fun h4 q4 => ?_)
          obtain ⟨J, kj⟩ := I.K.J q4.1 q4.2
          refine r_aload_n rfl dX9_enter_50 ?_
          refine r_aload_n rfl dX9_enter_51 ?_
          refine r_getR foX9_13 rfl rfl dX9_enter_52 ?_
          refine r_aload_n rfl dX9_enter_55 ?_
          refine r_getR foX9_16 rfl rfl dX9_enter_56 ?_
          refine r_cV2v (T := TX9) (N := 21) moX9_copy lkX9_128 rfl rfl (Nat.le_of_ble_eq_true rfl) ⟨by decide, by decide⟩ (Nat.le_of_ble_eq_true rfl) dX9_enter_59 rfl (m_copy (B := 64) rfl rfl (by omega)) (fun h5 q5 => ?_)
          have C := q5
          refine r_aload_n rfl dX9_enter_62 ?_
          refine r_getR foX9_16 rfl rfl dX9_enter_63 ?_
          refine r_iload_n rfl dX9_enter_66 ?_
          refine r_iload_n rfl dX9_enter_67 ?_
          refine r_ias rfl rfl (by omega) (by decide) dX9_enter_68 ?_
          have kl : KN h (hset h5 65 k u) := fun q a b d => (hset_ne b).trans ((C.1 q b).trans (kj q a b d))
          have eL := kl.eM (n := n)
          refine r_aload_n rfl dX9_enter_69 ?_
          refine r_aload_n rfl dX9_enter_70 ?_
          refine r_getR foX9_16 rfl rfl dX9_enter_71 ?_
          refine r_cV1v (T := TX9) (N := 21) moX9_findGoods lkX9_115 rfl rfl (Nat.le_of_ble_eq_true rfl) ⟨by decide, by decide⟩ (Nat.le_of_ble_eq_true rfl) dX9_enter_74 rfl (m_findGoods (n := n) (A := 65) rfl (by omega) hn6 (by rw [kl 62 (by omega) (by omega) (by omega)]; exact I.1.2) (by rw [eL]; exact I.2.1.2)) (fun h6 q6 => ?_)
          obtain ⟨kf, ff⟩ := q6
          rw [eL] at ff
          refine r_iconst (v := (0 : Int32)) (by decide) dX9_enter_77 ?_
          refine r_ist4 rfl (by decide) dX9_enter_78 ?_
          refine r_iconst (v := nI 0) (by decide) dX9_enter_80 ?_
          refine r_ist5 rfl (by decide) dX9_enter_81 ?_
          refine loop c_16 (fun q => c_26 q.symm) (rng_1 c_36).1 (Int32.not_lt.mp (rng_1 c_36).2) _ (fun q a b d => by rw [kf q a, kl q a b d]) (fun j hj => ?_) (fun j hj => ?_) (n + 1) 0 _ (by omega) (by omega) rfl
          · rw [(ff j hj).1]
            refine good_eq (EcEq.refl _) (fun i hi => ?_) hj
            rw [hset_same]
            have hi6 : i < 6 := Nat.lt_of_lt_of_le hi hn6
            refine upd_cong ?_
            rw [C.2.1 i hi6, kj 64 (by omega) (by omega) (by omega)]
            exact I.2.2.2.1 i hi
          · rw [kf 75 (by omega), hset_ne (by omega), C.1 75 (by omega), J.2.2.2.2.2.2 j hj, kj.eM, kj 64 (by omega) (by omega) (by omega)]
            exact good_eq (EcEq.refl _) (show EqN (eN (eM h n)) (h 64) (lab c) from I.2.2.2.1) hj
        · refine r_ldc kcX9_183 dX9_enter_39 ?_
          refine ret_i dX9_enter_41 rfl ?_
          first
            | exact Or.inl ⟨Or.inl c_16, rfl, rfl⟩
            | exact Or.inl ⟨Or.inr (Or.inl c_26.symm), rfl, rfl⟩
            | exact Or.inl ⟨Or.inr (Or.inr (rng_o c_36)), rfl, rfl⟩
  · refine r_ldc kcX9_179 dX9_enter_8 ?_
    refine ret_i dX9_enter_10 rfl ?_
    exact absurd (c_5.symm.trans (isL_k (by omega) hk)) (by decide)

set_option maxRecDepth 100000 in
set_option maxHeartbeats 400000 in
theorem m_enter {g : GG} {n m : Nat} {h : Hp} {c : Nat → Nat} {E : Ec} {s : Nat → Int32} {x u w : Int32} (I : RF h n c m E s) : R g mX9_enter 0 [some (.ref (ad g 62)), some (.int x), some (.int u), some (.int w), none, none] [] h (Ri fun v h' => (isL n x = 0 ∧ v = -1000000001 ∧ h' = h) ∨ ∃ k, k < n ∧ x = nI k ∧ (((isL (mx c n) u = 0 ∨ lab c k = u ∨ w < 0 ∨ 1 < w) ∧ v = -1000000002 ∧ h' = h) ∨ (¬ isL (mx c n) u = 0 ∧ ¬ lab c k = u ∧ ¬ w < 0 ∧ w ≤ 1 ∧ v = (if w = 0 then goodS E (upd (lab c) k u) k - goodS E (lab c) k else enF E (lab c) k u n) ∧ RP h h' n c m E s))) := by
  have hn6 := I.1.1
  by_cases hx : isL n x = 0
  · have hz : True := trivial
    refine r_aload_n rfl dX9_enter_0 ?_
    refine r_iload_n rfl dX9_enter_1 ?_
    refine r_cV1i (T := TX9) (N := 21) moX9_isLand lkX9_77 rfl rfl (Nat.le_of_ble_eq_true rfl) ⟨by decide, by decide⟩ (Nat.le_of_ble_eq_true rfl) dX9_enter_2 rfl (m_isLand I.1.1 I.1.2) (fun v1 h1 q1 => ?_)
    obtain ⟨e1, f1⟩ := q1
    subst f1
    rw [e1]
    refine r_if_ne 11 dX9_enter_5 (by decide) (fun c_5 => ?_) (fun c_5 => ?_)
    · exact absurd hx c_5
    · refine r_ldc kcX9_179 dX9_enter_8 ?_
      refine ret_i dX9_enter_10 rfl ?_
      exact Or.inl ⟨c_5, rfl, rfl⟩
  · obtain ⟨k, hk, rfl⟩ := isL_y (by omega) hx
    exact Ri.imp (m_enterk I hk) (fun v h' q => Or.inr ⟨k, hk, rfl, q⟩)

