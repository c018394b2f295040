theorem adv_congr {n : Nat} {c c' : Nat → Nat} (h : ∀ j, j < n → c j = c' j) : ∀ l, l < n → ∀ j, j < n → adv c l j = adv c' l j := by
  intro l
  induction l with
  | zero => intro _ j hj; exact h j hj
  | succ l ih =>
    intro hl j hj
    have e1 : c (l + 1) = c' (l + 1) := h _ hl
    have e2 : mx c (l + 1) = mx c' (l + 1) := mx_congr (fun i hi => h i (by omega))
    rw [adv, adv, e1, e2]
    split
    · show (if j ≤ l then c j else if j = l + 1 then c' (l + 1) + 1 else 0) = (if j ≤ l then c' j else if j = l + 1 then c' (l + 1) + 1 else 0)
      rw [h j hj]
    · exact ih (by omega) j hj
theorem lst_congr {n : Nat} {c c' : Nat → Nat} (h : ∀ j, j < n → c j = c' j) : ∀ l, l < n → lst c l = lst c' l := by
  intro l
  induction l with
  | zero => intro _; rfl
  | succ l ih =>
    intro hl
    rw [lst, lst, h _ hl, mx_congr (c' := c') (fun i hi => h i (by omega)), ih (by omega)]
def fnL (L : List Nat) : Nat → Nat := fun j => L.getD j 0
def adL (n : Nat) (L : List Nat) : List Nat := (List.range n).map (adv (fnL L) (n - 1))
def itL (n : Nat) : Nat → List Nat
  | 0 => List.replicate n 0
  | i + 1 => adL n (itL n i)
theorem fnL_map {n j : Nat} {f : Nat → Nat} (hj : j < n) : fnL ((List.range n).map f) j = f j := by
  rw [fnL, List.getD_eq_getElem?_getD, List.getElem?_map, List.getElem?_range hj]
  rfl
theorem itL_rw {n : Nat} : ∀ i j, j < n → fnL (itL n i) j = rwN n i j := by
  intro i
  induction i with
  | zero =>
    intro j hj
    rw [itL, fnL, List.getD_eq_getElem?_getD, List.getElem?_replicate, if_pos hj]
    rfl
  | succ i ih =>
    intro j hj
    rw [itL, adL, fnL_map hj, rwN]
    exact adv_congr ih _ (by omega) j hj
def chL (n : Nat) : Nat → List Nat → Bool
  | 0, _ => true
  | k + 1, L => (lst (fnL L) (n - 1) == (k == 0)) && chL n k (adL n L)
theorem chL_ok {n N : Nat} : ∀ k i, i + k = N → chL n k (itL n i) = true → ∀ j, i ≤ j → j < N → lst (fnL (itL n j)) (n - 1) = decide (j + 1 = N) := by
  intro k
  induction k with
  | zero => intro i hi _ j a b; omega
  | succ k ih =>
    intro i hi hc j a b
    rw [chL, Bool.and_eq_true] at hc
    by_cases e : j = i
    · subst e
      have h1 := hc.1
      rw [beq_iff_eq] at h1
      rw [h1]
      by_cases z : k = 0
      · subst z; rw [decide_eq_true (by omega)]; rfl
      · rw [decide_eq_false (by omega)]; exact beq_eq_false_iff_ne.mpr z
    · exact ih (i + 1) (by omega) hc.2 j (by omega) b
theorem chL_all : ∀ n, n < 7 → chL n (bell n) (itL n 0) = true := by decide +kernel
theorem lst_rw {n i : Nat} (hn : n ≤ 6) (hi : i < bell n) : lst (rwN n i) (n - 1) = decide (i + 1 = bell n) := by
  have h1 := chL_ok (n := n) (N := bell n) (bell n) 0 (by omega) (chL_all n (by omega)) i (by omega) hi
  rw [← h1]
  cases n with
  | zero => rfl
  | succ n => exact (lst_congr (n := n + 1) (fun j hj => itL_rw i j hj) _ (by omega)).symm
theorem bell_pos {n : Nat} (hn : n ≤ 6) : 0 < bell n := by
  rcases small7 hn with rfl | rfl | rfl | rfl | rfl | rfl | rfl <;> decide
/-- only what all and rests may write -/
def KA (h h' : Hp) : Prop := ∀ q, ¬ (68 ≤ q ∧ q ≤ 75) → ¬ q = 65 → h' q = h q
theorem KA.refl {h : Hp} : KA h h := fun _ _ _ => rfl
theorem KA.trans {h h1 h2 : Hp} (a : KA h h1) (b : KA h1 h2) : KA h h2 := fun q x y => (b q x y).trans (a q x y)
theorem KN.A {h h1 : Hp} (a : KN h h1) : KA h h1 := fun q x y => a q (by omega) y (by omega)
theorem KA.t {h h1 : Hp} (a : ∀ q, ¬ q = 74 → h1 q = h q) : KA h h1 := fun q x y => a q (by omega)
theorem KA.eM {h h1 : Hp} {n : Nat} (k : KA h h1) : eM h1 n = eM h n := eM_keep (k 63 (by omega) (by omega)) (k 62 (by omega) (by omega))
theorem RF.kA {h h' : Hp} {n m : Nat} {c : Nat → Nat} {E : Ec} {s : Nat → Int32} (I : RF h n c m E s) (k : KA h h') : RP h h' n c m E s := RF.keep I (fun q a => k q (by omega) (by omega)) (k 66 (by omega) (by omega))
/-- the row that is turned, at the i-th parting -/
theorem RFturned {h h' : Hp} {n m i : Nat} {c : Nat → Nat} {E : Ec} {s : Nat → Int32} (I : RF h n c m E s) (k : KA h h') (ht : ∀ l, l < n → h' 74 l = nI (rwN n i l)) : MK h' 74 n (rwN n i) := by
  have hc := Can_rw n i
  exact ⟨⟨rfl, by omega, by omega, by omega, by omega⟩, I.1.1, by rw [k 62 (by omega) (by omega)]; exact I.1.2, by rw [k.eM, I.2.1.1]; exact I.2.1.2, ht, fun l hl => by have := hc.le hl; have := I.1.1; omega, by have := mx_le hc n (Nat.le_refl _); have := I.1.1; omega⟩

set_option maxRecDepth 100000 in
set_option maxHeartbeats 400000 in
theorem m_all {g : GG} {n m : Nat} {h : Hp} {c : Nat → Nat} {E : Ec} {s : Nat → Int32} {x : Int32} (I : RF h n c m E s) : R g mX9_all 0 [some (.ref (ad g 62)), some (.int x), none, none, none] [] h (Ri fun v h' => v = (if x = nI 0 then sgF E (lab c) n else if x = nI 1 then bpF E n (bell n) else if x = nI 2 then nI (bell n) else -2) ∧ RP h h' n c m E s) := by
  have hn6 := I.1.1
  have eE := I.2.1.1
  subst eE
  have hb1 := bell_pos hn6
  have hb2 := bell_le hn6
  have loop : ∀ (z i : Nat) (hh : Hp) (y best : Int32), bell n < i + z → best = bpF (eM h n) n i → ((y = 1 ∧ i < bell n) ∨ (y = 0 ∧ i = bell n)) → KA h hh → (∀ l, l < n → hh 74 l = nI (rwN n i l)) → R g mX9_all 43 [some (.ref (ad g 62)), some (.int x), some (.int best), some (.int (nI i)), some (.int y)] [] hh (Ri fun v h' => v = (if x = 1 then bpF (eM h n) n (bell n) else nI (bell n)) ∧ KA h h') := by
    intro z
    induction z with
    | zero => intro i hh y best a; omega
    | succ z ih =>
      intro i hh y best a ex hy k1 ht
      subst ex
      have T := RFturned I k1 ht
      refine r_iload rfl dX9_all_43 ?_
      refine r_if_eq 85 dX9_all_45 (by decide) (fun c_45 => ?_) (fun c_45 => ?_)
      · have hend : i = bell n := by
          rcases hy with q | q
          · rw [q.1] at c_45; exact absurd c_45 (by decide)
          · exact q.2
        refine r_iload_n rfl dX9_all_85 ?_
        refine r_iconst (v := (1 : Int32)) (by decide) dX9_all_86 ?_
        refine r_icmp_ne 94 dX9_all_87 (by decide) (fun c_87 => ?_) (fun c_87 => ?_)
        · refine r_iload_n rfl dX9_all_94 ?_
          refine ret_i dX9_all_95 rfl ?_
          first
            | exact ⟨by rw [if_pos c_87, hend], k1⟩
            | exact ⟨by rw [if_neg c_87, hend], k1⟩
        · refine r_iload_n rfl dX9_all_90 ?_
          refine r_goto 95 dX9_all_91 (by decide) ?_
          refine ret_i dX9_all_95 rfl ?_
          first
            | exact ⟨by rw [if_pos c_87, hend], k1⟩
            | exact ⟨by rw [if_neg c_87, hend], k1⟩
      · obtain ⟨y1, y2⟩ : y = 1 ∧ i < bell n := by
          rcases hy with q | q
          · exact q
          · exact absurd c_45 (by rw [q.1]; simp)
        refine r_aload_n rfl dX9_all_48 ?_
        refine r_aload_n rfl dX9_all_49 ?_
        refine r_getR foX9_43 rfl rfl dX9_all_50 ?_
        refine r_cV1v (T := TX9) (N := 21) moX9_findGoods lkX9_115 rfl rfl (Nat.le_of_ble_eq_true rfl) ⟨by decide, by decide⟩ (Nat.le_of_ble_eq_true rfl) dX9_all_53 rfl (m_findGoods (n := n) (A := 74) T.1.1 (by omega) hn6 T.2.2.1 T.2.2.2.1) (fun h21 q21 => ?_)
        obtain ⟨kf, ff⟩ := q21
        have kf2 : KA h h21 := k1.trans (fun q a b => kf q (by omega))
        have H1 : h21 62 1 = nI n := by rw [kf2 62 (by omega) (by omega)]; exact I.1.2
        have G1 : ∀ l, l < n → h21 68 l = goodS (eM h n) (lab (rwN n i)) l := fun l hl => by
          rw [(ff l hl).1, k1.eM]
          exact good_eq (EcEq.refl _) (show EqN (eN (eM h n)) (hh 74) (lab (rwN n i)) from ht) hl
        have ht2 : ∀ l, l < n → h21 74 l = nI (rwN n i l) := by rw [kf 74 (by omega)]; exact ht
        refine r_aload_n rfl dX9_all_56 ?_
        refine r_cV0i (T := TX9) (N := 21) moX9_together lkX9_118 rfl rfl (Nat.le_of_ble_eq_true rfl) ⟨by decide, by decide⟩ (Nat.le_of_ble_eq_true rfl) dX9_all_57 rfl (m_together hn6 H1 G1) (fun v22 h22 q22 => ?_)
        obtain ⟨e22, f22⟩ := q22
        subst f22
        rw [e22]
        refine r_iload_n rfl dX9_all_60 ?_
        refine r_icmp_le 71 dX9_all_61 (by decide) (fun c_61 => ?_) (fun c_61 => ?_)
        · refine r_iload_n rfl dX9_all_71 ?_
          refine r_ist2 rfl (by decide) dX9_all_72 ?_
          first | refine r_incN3 rfl (by decide) dX9_all_73 ?_ | refine r_incP3 rfl (by decide) dX9_all_73 ?_
          refine r_aload_n rfl dX9_all_76 ?_
          refine r_cV0i (T := TX9) (N := 21) moX9_nextParting lkX9_124 rfl rfl (Nat.le_of_ble_eq_true rfl) ⟨by decide, by decide⟩ (Nat.le_of_ble_eq_true rfl) dX9_all_77 rfl (m_nextParting hn6 H1 (Can_rw n i) ht2) (fun v23 h23 q23 => ?_)
          obtain ⟨e23, kt, ht3⟩ := q23
          rw [lst_rw hn6 y2] at e23
          subst e23
          have kz := kf2.trans (KA.t kt)
          refine r_ist4 rfl (by decide) dX9_all_80 ?_
          refine r_goto 43 dX9_all_82 (by decide) ?_
          have hy2 : ((if decide (i + 1 = bell n) = true then (0 : Int32) else 1) = 1 ∧ i + 1 < bell n) ∨ ((if decide (i + 1 = bell n) = true then (0 : Int32) else 1) = 0 ∧ i + 1 = bell n) := by
            by_cases z : i + 1 = bell n
            · rw [decide_eq_true z]; exact Or.inr ⟨rfl, z⟩
            · rw [decide_eq_false z]; exact Or.inl ⟨rfl, by omega⟩
          first
            | exact ih (i + 1) _ _ _ (by omega) (by rw [bpF, if_neg (Int32.not_lt.mpr c_61)]) hy2 kz ht3
            | exact ih (i + 1) _ _ _ (by omega) (by rw [bpF, if_pos (Int32.not_le.mp c_61)]) hy2 kz ht3
        · refine r_aload_n rfl dX9_all_64 ?_
          refine r_cV0i (T := TX9) (N := 21) moX9_together lkX9_118 rfl rfl (Nat.le_of_ble_eq_true rfl) ⟨by decide, by decide⟩ (Nat.le_of_ble_eq_true rfl) dX9_all_65 rfl (m_together hn6 H1 G1) (fun v24 h24 q24 => ?_)
          obtain ⟨e24, f24⟩ := q24
          subst f24
          rw [e24]
          refine r_goto 72 dX9_all_68 (by decide) ?_
          refine r_ist2 rfl (by decide) dX9_all_72 ?_
          first | refine r_incN3 rfl (by decide) dX9_all_73 ?_ | refine r_incP3 rfl (by decide) dX9_all_73 ?_
          refine r_aload_n rfl dX9_all_76 ?_
          refine r_cV0i (T := TX9) (N := 21) moX9_nextParting lkX9_124 rfl rfl (Nat.le_of_ble_eq_true rfl) ⟨by decide, by decide⟩ (Nat.le_of_ble_eq_true rfl) dX9_all_77 rfl (m_nextParting hn6 H1 (Can_rw n i) ht2) (fun v25 h25 q25 => ?_)
          obtain ⟨e25, kt, ht3⟩ := q25
          rw [lst_rw hn6 y2] at e25
          subst e25
          have kz := kf2.trans (KA.t kt)
          refine r_ist4 rfl (by decide) dX9_all_80 ?_
          refine r_goto 43 dX9_all_82 (by decide) ?_
          have hy2 : ((if decide (i + 1 = bell n) = true then (0 : Int32) else 1) = 1 ∧ i + 1 < bell n) ∨ ((if decide (i + 1 = bell n) = true then (0 : Int32) else 1) = 0 ∧ i + 1 = bell n) := by
            by_cases z : i + 1 = bell n
            · rw [decide_eq_true z]; exact Or.inr ⟨rfl, z⟩
            · rw [decide_eq_false z]; exact Or.inl ⟨rfl, by omega⟩
          first
            | exact ih (i + 1) _ _ _ (by omega) (by rw [bpF, if_neg (Int32.not_lt.mpr c_61)]) hy2 kz ht3
            | exact ih (i + 1) _ _ _ (by omega) (by rw [bpF, if_pos (Int32.not_le.mp c_61)]) hy2 kz ht3
  refine r_iload_n rfl dX9_all_0 ?_
  refine r_i2l dX9_all_1 ?_
  refine r_lconst rfl dX9_all_2 ?_
  refine r_ldc2 kcX9_83 dX9_all_3 ?_
  refine r_cS3i moX9_in lkX9_59 (Nat.le_of_ble_eq_true rfl) ⟨by decide, by decide⟩ (Nat.le_of_ble_eq_true rfl) dX9_all_6 rfl (c_in (b := 0) (c := 2) (by decide) (by decide)) (fun v1 h1 q1 => ?_)
  obtain ⟨e1, f1⟩ := q1
  subst f1
  rw [e1]
  rw [rng02]
  refine r_if_ne 15 dX9_all_9 (by decide) (fun c_9 => ?_) (fun c_9 => ?_)
  · refine r_iload_n rfl dX9_all_15 ?_
    refine r_if_ne 32 dX9_all_16 (by decide) (fun c_16 => ?_) (fun c_16 => ?_)
    · refine r_iconst (v := (0 : Int32)) (by decide) dX9_all_32 ?_
      refine r_ist2 rfl (by decide) dX9_all_33 ?_
      refine r_iconst (v := nI 0) (by decide) dX9_all_34 ?_
      refine r_ist3 rfl (by decide) dX9_all_35 ?_
      refine r_aload_n rfl dX9_all_36 ?_
      refine r_cV0v (T := TX9) (N := 21) moX9_firstParting lkX9_121 rfl rfl (Nat.le_of_ble_eq_true rfl) ⟨by decide, by decide⟩ (Nat.le_of_ble_eq_true rfl) dX9_all_37 rfl m_firstParting (fun h2 q2 => ?_)
      have k0 : KA h h2 := KA.t q2.1
      have t0 := q2.2.1
      refine r_iconst (v := (1 : Int32)) (by decide) dX9_all_40 ?_
      refine r_ist4 rfl (by decide) dX9_all_41 ?_
      obtain ⟨kx, hkx, ekx⟩ := isL_y (by omega) c_9
      refine Ri.imp (loop (bell n + 1) 0 _ _ _ (by omega) rfl (Or.inl ⟨rfl, hb1⟩) k0 (fun l hl => t0 l (by omega))) (fun v h' q => ⟨?_, RF.kA I q.2⟩)
      rw [q.1, if_neg (show ¬ x = nI 0 from c_16)]
      by_cases z : x = 1
      · rw [if_pos z, if_pos (show x = nI 1 from z)]
      · rw [if_neg z, if_neg (show ¬ x = nI 1 from z), if_pos]
        rw [ekx]
        rcases (show kx = 0 ∨ kx = 1 ∨ kx = 2 by omega) with rfl | rfl | rfl
        · exact absurd ekx c_16
        · exact absurd ekx z
        · rfl
    · refine r_aload_n rfl dX9_all_19 ?_
      refine r_aload_n rfl dX9_all_20 ?_
      refine r_getR foX9_13 rfl rfl dX9_all_21 ?_
      refine r_cV1v (T := TX9) (N := 21) moX9_findGoods lkX9_115 rfl rfl (Nat.le_of_ble_eq_true rfl) ⟨by decide, by decide⟩ (Nat.le_of_ble_eq_true rfl) dX9_all_24 rfl (m_findGoods (n := n) (A := 64) rfl (by omega) hn6 I.1.2 I.2.1.2) (fun h3 q3 => ?_)
      obtain ⟨kf, ff⟩ := q3
      have H1 : h3 62 1 = nI n := by rw [kf 62 (by omega)]; exact I.1.2
      have G1 : ∀ l, l < n → h3 68 l = goodS (eM h n) (lab c) l := fun l hl => by rw [(ff l hl).1]; exact good_eq (EcEq.refl _) (show EqN (eN (eM h n)) (h 64) (lab c) from I.2.2.2.1) hl
      refine r_aload_n rfl dX9_all_27 ?_
      refine r_cV0i (T := TX9) (N := 21) moX9_together lkX9_118 rfl rfl (Nat.le_of_ble_eq_true rfl) ⟨by decide, by decide⟩ (Nat.le_of_ble_eq_true rfl) dX9_all_28 rfl (m_together hn6 H1 G1) (fun v4 h4 q4 => ?_)
      obtain ⟨e4, f4⟩ := q4
      subst f4
      rw [e4]
      refine ret_i dX9_all_31 rfl ?_
      exact ⟨by rw [if_pos (show x = nI 0 from c_16)], RF.kA I (fun q a b => kf q (by omega))⟩
  · refine r_bipush (v := (-2 : Int32)) (by decide) dX9_all_12 ?_
    refine ret_i dX9_all_14 rfl ?_
    refine ⟨?_, RF.kA I KA.refl⟩
    rw [if_neg (fun q => by rw [q] at c_9; exact absurd c_9 (by decide)), if_neg (fun q => by rw [q] at c_9; exact absurd c_9 (by decide)), if_neg (fun q => by rw [q] at c_9; exact absurd c_9 (by decide))]

theorem inF_neg {p : Nat → Bool} {val : Nat → Int32} : ∀ d l, (∀ i, l ≤ i → i < l + d → 0 ≤ val i) → (inF p val (-6) d l < 0 ↔ inF p val (-6) d l = -6) := by
  intro d
  induction d with
  | zero => intro l _; rw [inF]; simp
  | succ d ih =>
    intro l hv
    rw [inF]
    split
    · have := hv l (by omega) (by omega)
      exact ⟨fun q => absurd q (Int32.not_lt.mpr this), fun q => absurd (q ▸ this) (by decide)⟩
    · exact ih (l + 1) (fun i a b => hv i (by omega) (by omega))
theorem joF_neg {E : Ec} {r : Nat → Int32} {U : Nat} (hU : U ≤ 6) : ∀ d l, l + d ≤ 6 → (joF E r U d l < 0 ↔ joF E r U d l = -6) := by
  have hp : ∀ l, l < 6 → ∀ u, u < 6 → (0 : Int32) ≤ 100 + 10 * nI l + nI u := by decide
  have key : ∀ l, l < 6 → ∀ (df : Int32), (df < 0 ↔ df = -6) → ∀ (p : Nat → Bool) e u, u + e ≤ 6 → (inF p (fun u => 100 + 10 * nI l + nI u) df e u < 0 ↔ inF p (fun u => 100 + 10 * nI l + nI u) df e u = -6) := by
    intro l hl df hdf p e
    induction e with
    | zero => intro u _; rw [inF]; exact hdf
    | succ e ih =>
      intro u hu
      rw [inF]
      split
      · have := hp l hl u (by omega)
        exact ⟨fun q => absurd q (Int32.not_lt.mpr this), fun q => absurd (q ▸ this) (by decide)⟩
      · exact ih (u + 1) (by omega)
  intro d
  induction d with
  | zero => intro l _; rw [joF]; simp
  | succ d ih =>
    intro l hl
    rw [joF]
    exact key l (by omega) _ (ih (l + 1) (by omega)) _ U 0 (by omega)
theorem brk_neg (E : Ec) (r : Nat → Int32) (U rest : Nat) (hn : eN E ≤ 6) (hU : U ≤ eN E) : brk E r U rest < 0 ↔ brk E r U rest = -6 := by
  have h1 : staV E r < 0 ↔ staV E r = -6 := inF_neg _ _ (fun i _ b => nI_pos' (by omega))
  have hp : ∀ t, t < 64 → (0 : Int32) ≤ 1000 + nI t := by decide +kernel
  have hp6 := pow6 hn
  have h2 : corV E r < 0 ↔ corV E r = -6 := inF_neg _ _ (fun i a b => hp i (by omega))
  have h3 : joiV E r U < 0 ↔ joiV E r U = -6 := joF_neg (by omega) _ _ (by omega)
  rw [brk]
  split
  · exact h2
  · split
    · exact h3
    · exact h1
set_option maxRecDepth 100000 in
set_option maxHeartbeats 400000 in
theorem m_rests {g : GG} {n m : Nat} {h : Hp} {c : Nat → Nat} {E : Ec} {s : Nat → Int32} {y i x : Int32} (I : RF h n c m E s) : R g mX9_rests 0 [some (.ref (ad g 62)), some (.int y), some (.int i), some (.int x), none, none] [] h (Ri fun v h' => (¬ i = -1 ∧ isL n x = 0 ∧ v = -1 ∧ h' = h) ∨ ((i = -1 ∨ ¬ isL n x = 0) ∧ isL 3 y = 0 ∧ v = -2 ∧ h' = h) ∨ ∃ rest, rest < 3 ∧ y = nI rest ∧ (i = -1 ∨ ¬ isL n x = 0) ∧ v = rsF (rsP E n rest) i (fun k => nI (rwN n k x.toNatClampNeg)) (bell n) 0 0 ∧ RP h h' n c m E s) := by
  have hn6 := I.1.1
  have eE := I.2.1.1
  subst eE
  have hb1 := bell_pos hn6
  have hb2 := bell_le hn6
  have loop : ∀ rest, rest < 3 → (i = -1 ∨ ¬ isL n x = 0) → ∀ (z : Nat) (hh : Hp) (y : Int32) (d k f : Nat), k + d = bell n → d < z → f ≤ k → ((y = 1 ∧ k < bell n) ∨ (y = 0 ∧ k = bell n)) → KA h hh → (∀ l, l < n → hh 74 l = nI (rwN n k l)) → R g mX9_rests 40 [some (.ref (ad g 62)), some (.int (nI rest)), some (.int i), some (.int x), some (.int (nI f)), some (.int y)] [] hh (Ri fun v h' => v = rsF (rsP (eM h n) n rest) i (fun k => nI (rwN n k x.toNatClampNeg)) d k f ∧ KA h h') := by
    intro rest hr hx z
    induction z with
    | zero => intro hh y d k f a b; omega
    | succ z ih =>
      intro hh y d k f a b hf hy k1 ht
      have T := RFturned I k1 ht
      refine r_iload rfl dX9_rests_40 ?_
      refine r_if_eq 82 dX9_rests_42 (by decide) (fun c_42 => ?_) (fun c_42 => ?_)
      · have hend : k = bell n := by
          rcases hy with q | q
          · rw [q.1] at c_42; exact absurd c_42 (by decide)
          · exact q.2
        obtain rfl : d = 0 := by omega
        refine r_iload_n rfl dX9_rests_82 ?_
        refine r_iconst (v := (-1 : Int32)) (by decide) dX9_rests_83 ?_
        refine r_icmp_ne 92 dX9_rests_84 (by decide) (fun c_84 => ?_) (fun c_84 => ?_)
        · refine r_bipush (v := (-6 : Int32)) (by decide) dX9_rests_92 ?_
          refine ret_i dX9_rests_94 rfl ?_
          refine ⟨?_, k1⟩
          first
            | rw [rsF, if_pos c_84]
            | rw [rsF, if_neg c_84]
        · refine r_iload rfl dX9_rests_87 ?_
          refine r_goto 94 dX9_rests_89 (by decide) ?_
          refine ret_i dX9_rests_94 rfl ?_
          refine ⟨?_, k1⟩
          first
            | rw [rsF, if_pos c_84]
            | rw [rsF, if_neg c_84]
      · obtain ⟨y1, y2⟩ : y = 1 ∧ k < bell n := by
          rcases hy with q | q
          · exact q
          · exact absurd q.1 c_42
        obtain ⟨d, rfl⟩ : ∃ d', d = d' + 1 := ⟨d - 1, by omega⟩
        refine r_aload_n rfl dX9_rests_45 ?_
        refine r_aload_n rfl dX9_rests_46 ?_
        refine r_getR foX9_43 rfl rfl dX9_rests_47 ?_
        refine r_iload_n rfl dX9_rests_50 ?_
        refine r_cV2i (T := TX9) (N := 21) moX9_breakerOf lkX9_155 rfl rfl (Nat.le_of_ble_eq_true rfl) ⟨by decide, by decide⟩ (Nat.le_of_ble_eq_true rfl) dX9_rests_51 rfl (m_breakerOf T hr) (fun v21 h21 q21 => ?_)
        obtain ⟨e21, kb⟩ := q21
        rw [k1.eM, brk_eq (EcEq.refl _) (show EqN (eN (eM h n)) (hh 74) (lab (rwN n k)) from ht)] at e21
        subst e21
        have kf2 : KA h h21 := k1.trans kb.A
        have ht2 : ∀ l, l < n → h21 74 l = nI (rwN n k l) := by rw [kb 74 (by omega) (by omega) (by omega)]; exact ht
        have hbk := brk_neg (eM h n) (lab (rwN n k)) (mx (rwN n k) n) rest hn6 (mx_le (Can_rw n k) n (Nat.le_refl _))
        refine r_if_ge 73 dX9_rests_54 (by decide) (fun c_54 => ?_) (fun c_54 => ?_)
        · refine r_aload_n rfl dX9_rests_73 ?_
          refine r_cV0i (T := TX9) (N := 21) moX9_nextParting lkX9_124 rfl rfl (Nat.le_of_ble_eq_true rfl) ⟨by decide, by decide⟩ (Nat.le_of_ble_eq_true rfl) dX9_rests_74 rfl (m_nextParting hn6 (by rw [kf2 62 (by omega) (by omega)]; exact I.1.2) (Can_rw n k) ht2) (fun v22 h22 q22 => ?_)
          obtain ⟨e22, kt, ht3⟩ := q22
          rw [lst_rw hn6 y2] at e22
          subst e22
          have kz := kf2.trans (KA.t kt)
          refine r_ist5 rfl (by decide) dX9_rests_77 ?_
          refine r_goto 40 dX9_rests_79 (by decide) ?_
          have hy2 : ((if decide (k + 1 = bell n) = true then (0 : Int32) else 1) = 1 ∧ k + 1 < bell n) ∨ ((if decide (k + 1 = bell n) = true then (0 : Int32) else 1) = 0 ∧ k + 1 = bell n) := by
            by_cases z : k + 1 = bell n
            · rw [decide_eq_true z]; exact Or.inr ⟨rfl, z⟩
            · rw [decide_eq_false z]; exact Or.inl ⟨rfl, by omega⟩
          first
            | (refine Ri.imp (ih _ _ d (k + 1) (f + 1) (by omega) (by omega) (by omega) hy2 kz ht3) (fun v h' q => ⟨?_, q.2⟩)
               rw [q.1, rsF, if_pos (by simpa [rsP] using hbk.mp (Int32.not_le.mp c_54)), if_neg c_60])
            | (refine Ri.imp (ih _ _ d (k + 1) f (by omega) (by omega) (by omega) hy2 kz ht3) (fun v h' q => ⟨?_, q.2⟩)
               rw [q.1, rsF, if_neg (by simpa [rsP] using fun z => Int32.not_lt.mpr c_54 (hbk.mpr z))])
        · refine r_iload rfl dX9_rests_57 ?_
          refine r_iload_n rfl dX9_rests_59 ?_
          refine r_icmp_ne 70 dX9_rests_60 (by decide) (fun c_60 => ?_) (fun c_60 => ?_)
          · first | refine r_incN4 rfl (by decide) dX9_rests_70 ?_ | refine r_incP4 rfl (by decide) dX9_rests_70 ?_
            refine r_aload_n rfl dX9_rests_73 ?_
            refine r_cV0i (T := TX9) (N := 21) moX9_nextParting lkX9_124 rfl rfl (Nat.le_of_ble_eq_true rfl) ⟨by decide, by decide⟩ (Nat.le_of_ble_eq_true rfl) dX9_rests_74 rfl (m_nextParting hn6 (by rw [kf2 62 (by omega) (by omega)]; exact I.1.2) (Can_rw n k) ht2) (fun v23 h23 q23 => ?_)
            obtain ⟨e23, kt, ht3⟩ := q23
            rw [lst_rw hn6 y2] at e23
            subst e23
            have kz := kf2.trans (KA.t kt)
            refine r_ist5 rfl (by decide) dX9_rests_77 ?_
            refine r_goto 40 dX9_rests_79 (by decide) ?_
            have hy2 : ((if decide (k + 1 = bell n) = true then (0 : Int32) else 1) = 1 ∧ k + 1 < bell n) ∨ ((if decide (k + 1 = bell n) = true then (0 : Int32) else 1) = 0 ∧ k + 1 = bell n) := by
              by_cases z : k + 1 = bell n
              · rw [decide_eq_true z]; exact Or.inr ⟨rfl, z⟩
              · rw [decide_eq_false z]; exact Or.inl ⟨rfl, by omega⟩
            first
              | (refine Ri.imp (ih _ _ d (k + 1) (f + 1) (by omega) (by omega) (by omega) hy2 kz ht3) (fun v h' q => ⟨?_, q.2⟩)
                 rw [q.1, rsF, if_pos (by simpa [rsP] using hbk.mp (Int32.not_le.mp c_54)), if_neg c_60])
              | (refine Ri.imp (ih _ _ d (k + 1) f (by omega) (by omega) (by omega) hy2 kz ht3) (fun v h' q => ⟨?_, q.2⟩)
                 rw [q.1, rsF, if_neg (by simpa [rsP] using fun z => Int32.not_lt.mpr c_54 (hbk.mpr z))])
          · obtain ⟨kl, hkl, ekl⟩ : ∃ kl, kl < n ∧ x = nI kl := by
              rcases hx with q | q
              · rw [q] at c_60
                exact absurd (c_60 ▸ nI_pos' (n := f) (by omega) : (0 : Int32) ≤ -1) (by decide)
              · exact isL_y (by omega) q
            refine r_aload_n rfl dX9_rests_63 ?_
            refine r_getR foX9_43 rfl rfl dX9_rests_64 ?_
            refine r_iload_n rfl dX9_rests_67 ?_
            refine r_ild rfl ekl (by omega) (by decide) dX9_rests_68 ?_
            rw [ht2 kl hkl]
            refine ret_i dX9_rests_69 rfl ?_
            refine ⟨?_, kf2⟩
            rw [rsF, if_pos (by simpa [rsP] using hbk.mp (Int32.not_le.mp c_54)), if_pos c_60, ekl, nI_clamp (by omega)]
  refine r_iload_n rfl dX9_rests_0 ?_
  refine r_iconst (v := (-1 : Int32)) (by decide) dX9_rests_1 ?_
  refine r_icmp_eq 15 dX9_rests_2 (by decide) (fun c_2 => ?_) (fun c_2 => ?_)
  · refine r_iload_n rfl dX9_rests_15 ?_
    refine r_i2l dX9_rests_16 ?_
    refine r_lconst rfl dX9_rests_17 ?_
    refine r_ldc2 kcX9_83 dX9_rests_18 ?_
    refine r_cS3i moX9_in lkX9_59 (Nat.le_of_ble_eq_true rfl) ⟨by decide, by decide⟩ (Nat.le_of_ble_eq_true rfl) dX9_rests_21 rfl (c_in (b := 0) (c := 2) (by decide) (by decide)) (fun v1 h1 q1 => ?_)
    obtain ⟨e1, f1⟩ := q1
    subst f1
    rw [e1]
    rw [rng02]
    refine r_if_ne 30 dX9_rests_24 (by decide) (fun c_24 => ?_) (fun c_24 => ?_)
    · obtain ⟨rest, hr, rfl⟩ := isL_y (by omega) c_24
      refine r_iconst (v := nI 0) (by decide) dX9_rests_30 ?_
      refine r_ist4 rfl (by decide) dX9_rests_31 ?_
      refine r_aload_n rfl dX9_rests_33 ?_
      refine r_cV0v (T := TX9) (N := 21) moX9_firstParting lkX9_121 rfl rfl (Nat.le_of_ble_eq_true rfl) ⟨by decide, by decide⟩ (Nat.le_of_ble_eq_true rfl) dX9_rests_34 rfl m_firstParting (fun h2 q2 => ?_)
      have k0 : KA h h2 := KA.t q2.1
      have t0 := q2.2.1
      refine r_iconst (v := (1 : Int32)) (by decide) dX9_rests_37 ?_
      refine r_ist5 rfl (by decide) dX9_rests_38 ?_
      have hx : i = -1 ∨ ¬ isL n x = 0 := by first | exact Or.inl c_2 | exact Or.inr c_10
      refine Ri.imp (loop rest hr hx (bell n + 1) _ _ (bell n) 0 0 (by omega) (by omega) (by omega) (Or.inl ⟨rfl, hb1⟩) k0 (fun l hl => t0 l (by omega))) (fun v h' q => Or.inr (Or.inr ⟨rest, hr, rfl, hx, q.1, RF.kA I q.2⟩))
    · refine r_bipush (v := (-2 : Int32)) (by decide) dX9_rests_27 ?_
      refine ret_i dX9_rests_29 rfl ?_
      exact Or.inr (Or.inl ⟨by first | exact Or.inl c_2 | exact Or.inr c_10, c_24, rfl, rfl⟩)
  · refine r_aload_n rfl dX9_rests_5 ?_
    refine r_iload_n rfl dX9_rests_6 ?_
    refine r_cV1i (T := TX9) (N := 21) moX9_isLand lkX9_77 rfl rfl (Nat.le_of_ble_eq_true rfl) ⟨by decide, by decide⟩ (Nat.le_of_ble_eq_true rfl) dX9_rests_7 rfl (m_isLand I.1.1 I.1.2) (fun v3 h3 q3 => ?_)
    obtain ⟨e3, f3⟩ := q3
    subst f3
    rw [e3]
    refine r_if_ne 15 dX9_rests_10 (by decide) (fun c_10 => ?_) (fun c_10 => ?_)
    · refine r_iload_n rfl dX9_rests_15 ?_
      refine r_i2l dX9_rests_16 ?_
      refine r_lconst rfl dX9_rests_17 ?_
      refine r_ldc2 kcX9_83 dX9_rests_18 ?_
      refine r_cS3i moX9_in lkX9_59 (Nat.le_of_ble_eq_true rfl) ⟨by decide, by decide⟩ (Nat.le_of_ble_eq_true rfl) dX9_rests_21 rfl (c_in (b := 0) (c := 2) (by decide) (by decide)) (fun v4 h4 q4 => ?_)
      obtain ⟨e4, f4⟩ := q4
      subst f4
      rw [e4]
      rw [rng02]
      refine r_if_ne 30 dX9_rests_24 (by decide) (fun c_24 => ?_) (fun c_24 => ?_)
      · obtain ⟨rest, hr, rfl⟩ := isL_y (by omega) c_24
        refine r_iconst (v := nI 0) (by decide) dX9_rests_30 ?_
        refine r_ist4 rfl (by decide) dX9_rests_31 ?_
        refine r_aload_n rfl dX9_rests_33 ?_
        refine r_cV0v (T := TX9) (N := 21) moX9_firstParting lkX9_121 rfl rfl (Nat.le_of_ble_eq_true rfl) ⟨by decide, by decide⟩ (Nat.le_of_ble_eq_true rfl) dX9_rests_34 rfl m_firstParting (fun h5 q5 => ?_)
        have k0 : KA h h5 := KA.t q5.1
        have t0 := q5.2.1
        refine r_iconst (v := (1 : Int32)) (by decide) dX9_rests_37 ?_
        refine r_ist5 rfl (by decide) dX9_rests_38 ?_
        have hx : i = -1 ∨ ¬ isL n x = 0 := by first | exact Or.inl c_2 | exact Or.inr c_10
        refine Ri.imp (loop rest hr hx (bell n + 1) _ _ (bell n) 0 0 (by omega) (by omega) (by omega) (Or.inl ⟨rfl, hb1⟩) k0 (fun l hl => t0 l (by omega))) (fun v h' q => Or.inr (Or.inr ⟨rest, hr, rfl, hx, q.1, RF.kA I q.2⟩))
      · refine r_bipush (v := (-2 : Int32)) (by decide) dX9_rests_27 ?_
        refine ret_i dX9_rests_29 rfl ?_
        exact Or.inr (Or.inl ⟨by first | exact Or.inl c_2 | exact Or.inr c_10, c_24, rfl, rfl⟩)
    · refine r_iconst (v := (-1 : Int32)) (by decide) dX9_rests_13 ?_
      refine ret_i dX9_rests_14 rfl ?_
      exact Or.inl ⟨c_2, c_10, rfl, rfl⟩

