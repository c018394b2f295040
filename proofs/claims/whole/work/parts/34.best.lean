/-- goods together, of the lands below l -/
def sgF (E : Ec) (r : Nat → Int32) : Nat → Int32
  | 0 => 0
  | l + 1 => sgF E r l + goodS E r l
/-- the i-th of all partings of n lands -/
def rwN (n : Nat) : Nat → (Nat → Nat)
  | 0 => fun _ => 0
  | i + 1 => adv (rwN n i) (n - 1)
theorem Can_adv {n : Nat} {c : Nat → Nat} (hc : Can n c) : ∀ l, Can n (adv c l) := by
  intro l
  induction l with
  | zero => exact hc
  | succ l ih =>
    rw [adv]
    split
    · rename_i hlt
      intro k hk
      have hm : ∀ j, j ≤ l + 1 → mx (fun j => if j ≤ l then c j else if j = l + 1 then c (l + 1) + 1 else 0) j = mx c j := fun j hj => mx_congr (fun i hi => by rw [if_pos (by omega)])
      by_cases e1 : k ≤ l
      · rw [hm k (by omega)]
        simp only [if_pos e1]
        exact hc k hk
      · by_cases e2 : k = l + 1
        · subst e2
          rw [hm _ (Nat.le_refl _)]
          simp only [if_neg e1, if_true]
          omega
        · simp only [if_neg e1, if_neg e2]
          omega
    · exact ih
theorem Can_0 (n : Nat) : Can n (fun _ => 0) := fun l _ => Nat.zero_le _
theorem Can_rw (n : Nat) : ∀ i, Can n (rwN n i) := by
  intro i
  induction i with
  | zero => exact Can_0 n
  | succ i ih => exact Can_adv ih _
def bpF (E : Ec) (n : Nat) : Nat → Int32
  | 0 => 0
  | i + 1 => if bpF E n i < sgF E (lab (rwN n i)) n then sgF E (lab (rwN n i)) n else bpF E n i
theorem bell_at {g : GG} (hro : ROv g) {n : Nat} (hn : n ≤ 6) : ro g 1000 n = nI (bell n) ∧ n < roN g 1000 := ⟨hro.1.2 n (by omega), by rw [hro.1.1]; omega⟩
theorem bell_le {n : Nat} (hn : n ≤ 6) : bell n ≤ 203 := by
  rcases small7 hn with rfl | rfl | rfl | rfl | rfl | rfl | rfl <;> decide
def KeepB (h h' : Hp) : Prop := ∀ q, ¬ (8 < q ∧ q ≤ 16) → ¬ (59 ≤ q ∧ q ≤ 61) → h' q = h q

set_option maxRecDepth 100000 in
set_option maxHeartbeats 400000 in
theorem c_goodsTogether {g : GG} {P n : Nat} {h : Hp} {c : Nat → Nat} (hP : PartAt P) (hd : 20 ≤ P) (j : JI g h 2 n) (hc : Can n c) (hs : PS h P n c) : R g mX8_goodsTogether 0 [some (.ref (ad g 0)), some (.ref (ad g P)), none, none, none] [] h (Ri fun v h' => v = sgF (eH h 3 n) (lab c) n ∧ (∀ q, ¬ (8 < q ∧ q ≤ 16) → h' q = h q) ∧ GC h' 2 n) := by
  have hn6 := j.2.1
  have loop : ∀ (h1 : Hp), KeepG 2 h h1 → GC h1 2 n → Kn h1 2 n c → ∀ (m l : Nat), l ≤ n → n < l + m → R g mX8_goodsTogether 14 [some (.ref (ad g 0)), some (.ref (ad g P)), some (.int (nI (plc n c n * 6))), some (.int (sgF (eH h 3 n) (lab c) l)), some (.int (nI l))] [] h1 (Ri fun v h' => v = sgF (eH h 3 n) (lab c) n ∧ (∀ q, ¬ (8 < q ∧ q ≤ 16) → h' q = h q) ∧ GC h' 2 n) := by
    intro h1 k1 g1 n1 m
    induction m with
    | zero => intro l a b; omega
    | succ m ih =>
      intro l a b
      refine r_iload rfl dX8_goodsTogether_14 ?_
      refine r_aload_n rfl dX8_goodsTogether_16 ?_
      refine r_getR foX8_23 rfl rfl dX8_goodsTogether_17 ?_
      refine r_getI foX8_73 rfl rfl dX8_goodsTogether_20 ?_
      rw [k1 3 (by omega), show h 3 0 = nI n from j.2.2.1]
      refine r_icmp_ge 45 dX8_goodsTogether_23 (by decide) (fun c_23 => ?_) (fun c_23 => ?_)
      · refine r_iload_n rfl dX8_goodsTogether_45 ?_
        refine ret_i dX8_goodsTogether_46 rfl ?_
        have e : l = n := by have := ge_y (by omega) (by omega) c_23; omega
        subst e
        exact ⟨rfl, fun q a => k1 q (by omega), g1⟩
      · have hlk : l < n := ge_n (by omega) c_23
        refine r_iload_n rfl dX8_goodsTogether_26 ?_
        refine r_aload_n rfl dX8_goodsTogether_27 ?_
        refine r_getR foX8_28 rfl rfl dX8_goodsTogether_28 ?_
        refine r_iload_n rfl dX8_goodsTogether_31 ?_
        refine r_iload rfl dX8_goodsTogether_32 ?_
        refine r_cV2i (T := TX0) (N := 4) moX0_at lkX8_164 rfl rfl (Nat.le_of_ble_eq_true rfl) ⟨by decide, by decide⟩ (Nat.le_of_ble_eq_true rfl) dX8_goodsTogether_34 rfl (c_at jd1.2.1 (plc_lt j.2.1 hc) (by omega)) (fun v1 h1 q1 => ?_)
        obtain ⟨e1, f1⟩ := q1
        rw [e1, f1, g1.val hc n1 hlk, k1.eH]
        refine r_iadd dX8_goodsTogether_37 ?_
        refine r_ist3 rfl (by decide) dX8_goodsTogether_38 ?_
        first | refine r_incN4 rfl (by decide) dX8_goodsTogether_39 ?_ | refine r_incP4 rfl (by decide) dX8_goodsTogether_39 ?_
        refine r_goto 14 dX8_goodsTogether_42 (by decide) ?_
        exact ih (l + 1) (by omega) (by omega)
  refine r_aload_n rfl dX8_goodsTogether_0 ?_
  refine r_getR foX8_28 rfl rfl dX8_goodsTogether_1 ?_
  refine r_aload_n rfl dX8_goodsTogether_4 ?_
  refine r_cV1i (T := TX0) (N := 4) moX0_rowOf lkX8_160 rfl rfl (Nat.le_of_ble_eq_true rfl) ⟨by decide, by decide⟩ (Nat.le_of_ble_eq_true rfl) dX8_goodsTogether_5 rfl (c_rowOf jd1.2.1 hP (by omega) j.1 j.2.1 j.2.2.1 j.2.2.2.1 hc hs j.2.2.2.2) (fun v1 h1 q1 => ?_)
  obtain ⟨e1, k1, g1, n1, m1⟩ := q1
  subst e1
  refine r_ist2 rfl (by decide) dX8_goodsTogether_8 ?_
  refine r_iconst (v := (0 : Int32)) (by decide) dX8_goodsTogether_9 ?_
  refine r_ist3 rfl (by decide) dX8_goodsTogether_10 ?_
  refine r_iconst (v := nI 0) (by decide) dX8_goodsTogether_11 ?_
  refine r_ist4 rfl (by decide) dX8_goodsTogether_12 ?_
  exact loop _ k1 g1 n1 (n + 1) 0 (by omega) (by omega)

set_option maxRecDepth 100000 in
set_option maxHeartbeats 400000 in
theorem c_bestPlaced {g : GG} {n : Nat} {h : Hp} (j : JI g h 2 n) : R g mX8_bestPlaced 0 [some (.ref (ad g 0)), none, none] [] h (Ri fun v h' => v = bpF (eH h 3 n) n (bell n) ∧ KeepB h h' ∧ GC h' 2 n) := by
  have hn6 := j.2.1
  have hbl := bell_at j.1 hn6
  have hb2 := bell_le hn6
  have loop : ∀ (m i : Nat) (h1 : Hp) (x : Int32), i ≤ bell n → bell n < i + m → x = bpF (eH h 3 n) n i → KeepB h h1 → GC h1 2 n → PS h1 59 n (rwN n i) → R g mX8_bestPlaced 18 [some (.ref (ad g 0)), some (.int x), some (.int (nI i))] [] h1 (Ri fun v h' => v = bpF (eH h 3 n) n (bell n) ∧ KeepB h h' ∧ GC h' 2 n) := by
    intro m
    induction m with
    | zero => intro i h1 x a b; omega
    | succ m ih =>
      intro i h1 x a b e1 k1 g1 s1
      subst e1
      have e1 : bpF (eH h 3 n) n i = bpF (eH h 3 n) n i := rfl
      have eE : eH h1 3 n = eH h 3 n := eH_keep (fun q a b => k1 q (by omega) (by omega))
      have j1 : JI g h1 2 n := ⟨j.1, j.2.1, by rw [k1 _ (by omega) (by omega)]; exact j.2.2.1, by show EOK (eH h1 3 n); rw [eE]; exact j.2.2.2.1, g1⟩
      refine r_iload_n rfl dX8_bestPlaced_18 ?_
      refine r_PARTINGS fsX8_157 dX8_bestPlaced_19 ?_
      refine r_aload_n rfl dX8_bestPlaced_22 ?_
      refine r_getR foX8_23 rfl rfl dX8_bestPlaced_23 ?_
      refine r_getI foX8_73 rfl rfl dX8_bestPlaced_26 ?_
      rw [k1 3 (by omega) (by omega), show h 3 0 = nI n from j.2.2.1]
      refine r_irn (by decide) (by decide) rfl hbl.2 (by omega) dX8_bestPlaced_29 ?_
      rw [hbl.1]
      refine r_icmp_ge 59 dX8_bestPlaced_30 (by decide) (fun c_30 => ?_) (fun c_30 => ?_)
      · refine r_iload_n rfl dX8_bestPlaced_59 ?_
        refine ret_i dX8_bestPlaced_60 rfl ?_
        have e : i = bell n := by have := ge_y (by omega) (by omega) c_30; omega
        exact ⟨by rw [e1, e], k1, g1⟩
      · have hlk : i < bell n := ge_n (by omega) c_30
        refine r_iload_n rfl dX8_bestPlaced_33 ?_
        refine r_aload_n rfl dX8_bestPlaced_34 ?_
        refine r_aload_n rfl dX8_bestPlaced_35 ?_
        refine r_getR foX8_64 rfl rfl dX8_bestPlaced_36 ?_
        refine r_cV1i (T := TX8) (N := 10) moX8_goodsTogether lkX8_149 rfl rfl (Nat.le_of_ble_eq_true rfl) ⟨by decide, by decide⟩ (Nat.le_of_ble_eq_true rfl) dX8_bestPlaced_39 rfl (c_goodsTogether pa59 (by omega) j1 (Can_rw n i) s1) (fun v1 h1 q1 => ?_)
        obtain ⟨e1, kx, gx⟩ := q1
        subst e1
        rw [eE]
        refine r_max lkX8_171 ⟨by decide, Nat.le_of_ble_eq_true rfl⟩ dX8_bestPlaced_42 ?_
        refine r_ist1 rfl (by decide) dX8_bestPlaced_45 ?_
        refine r_aload_n rfl dX8_bestPlaced_46 ?_
        refine r_getR foX8_64 rfl rfl dX8_bestPlaced_47 ?_
        refine r_cV0v (T := TX6) (N := 4) moX6_advance lkX8_176 rfl rfl (Nat.le_of_ble_eq_true rfl) ⟨by decide, by decide⟩ (Nat.le_of_ble_eq_true rfl) dX8_bestPlaced_50 rfl (c_advance pa59 j.2.1 (Can_rw n i) (s1.keep (fun q a b => kx q (by omega)))) (fun h2 q2 => ?_)
        obtain ⟨ky, sy⟩ := q2
        first | refine r_incN2 rfl (by decide) dX8_bestPlaced_53 ?_ | refine r_incP2 rfl (by decide) dX8_bestPlaced_53 ?_
        refine r_goto 18 dX8_bestPlaced_56 (by decide) ?_
        exact ih (i + 1) _ _ (by omega) (by omega) rfl (fun q a b => by rw [ky q (by omega) (by omega) (by omega), kx q (by omega)]; exact k1 q a b) (gx.keep (fun q a b => ky q (by omega) (by omega) (by omega))) sy
  refine r_iconst (v := (0 : Int32)) (by decide) dX8_bestPlaced_0 ?_
  refine r_ist1 rfl (by decide) dX8_bestPlaced_1 ?_
  refine r_aload_n rfl dX8_bestPlaced_2 ?_
  refine r_getR foX8_64 rfl rfl dX8_bestPlaced_3 ?_
  refine r_aload_n rfl dX8_bestPlaced_6 ?_
  refine r_getR foX8_23 rfl rfl dX8_bestPlaced_7 ?_
  refine r_getI foX8_73 rfl rfl dX8_bestPlaced_10 ?_
  rw [show h 3 0 = nI n from j.2.2.1]
  refine r_cV1v (T := TX6) (N := 4) moX6_putAllTogether lkX8_168 rfl rfl (Nat.le_of_ble_eq_true rfl) ⟨by decide, by decide⟩ (Nat.le_of_ble_eq_true rfl) dX8_bestPlaced_13 rfl (c_putAllTogether pa59 j.2.1) (fun h1 q1 => ?_)
  obtain ⟨ky, sy⟩ := q1
  refine r_iconst (v := nI 0) (by decide) dX8_bestPlaced_16 ?_
  refine r_ist2 rfl (by decide) dX8_bestPlaced_17 ?_
  exact loop (bell n + 1) 0 _ _ (by omega) (by omega) rfl (fun q a b => ky q (by omega) (by omega) (by omega)) (j.2.2.2.2.keep (fun q a b => ky q (by omega) (by omega) (by omega))) sy

set_option maxRecDepth 100000 in
set_option maxHeartbeats 400000 in
theorem c_all {g : GG} {n m b : Nat} {x : Int32} {h : Hp} {c : Nat → Nat} (I : CI g h n c m b) : R g mX8_all 0 [some (.ref (ad g 0)), some (.int x)] [] h (Ri fun v h' => v = (if x = nI 0 then sgF (eH h 3 n) (lab c) n else if x = nI 1 then bpF (eH h 3 n) n (bell n) else if x = nI 2 then nI (bell n) else -2) ∧ CP g h h' n c m b (eH h 3 n) (h 55)) := by
  have hn6 := I.1.2.1
  refine r_iload_n rfl dX8_all_0 ?_
  by_cases t_0 : x = nI 0
  · refine r_tsIn 28 dX8_all_1 (by rw [t_0]; decide) (by rw [t_0]; decide) (by rw [t_0]; rfl) (by decide) ?_
    refine r_aload_n rfl dX8_all_28 ?_
    refine r_aload_n rfl dX8_all_29 ?_
    refine r_getR foX8_60 rfl rfl dX8_all_30 ?_
    refine r_cV1i (T := TX8) (N := 10) moX8_goodsTogether lkX8_149 rfl rfl (Nat.le_of_ble_eq_true rfl) ⟨by decide, by decide⟩ (Nat.le_of_ble_eq_true rfl) dX8_all_33 rfl (c_goodsTogether pa56 (by omega) I.1 I.2.2.2.1 I.2.2.2.2.1) (fun v1 h1 q1 => ?_)
    obtain ⟨e1, kx, gx⟩ := q1
    subst e1
    refine ret_i dX8_all_36 rfl ?_
    exact ⟨by rw [if_pos t_0], CP.jud I (fun q a _ _ => kx q (by omega)) gx (I.2.1.keep (kx _ (by omega)) (kx _ (by omega)) (by rw [kx _ (by omega)]) (eH_keep (fun q a b => kx q (by omega))))⟩
  ·
    by_cases t_1 : x = nI 1
    · refine r_tsIn 37 dX8_all_1 (by rw [t_1]; decide) (by rw [t_1]; decide) (by rw [t_1]; rfl) (by decide) ?_
      refine r_aload_n rfl dX8_all_37 ?_
      refine r_cV0i (T := TX8) (N := 10) moX8_bestPlaced lkX8_153 rfl rfl (Nat.le_of_ble_eq_true rfl) ⟨by decide, by decide⟩ (Nat.le_of_ble_eq_true rfl) dX8_all_38 rfl (c_bestPlaced I.1) (fun v2 h2 q2 => ?_)
      obtain ⟨e2, kx, gx⟩ := q2
      subst e2
      refine ret_i dX8_all_41 rfl ?_
      exact ⟨by rw [if_neg t_0, if_pos t_1], CP.jud I (fun q a b d => kx q (by omega) (by omega)) gx (I.2.1.keep (kx _ (by omega) (by omega)) (kx _ (by omega) (by omega)) (by rw [kx _ (by omega) (by omega)]) (eH_keep (fun q a b => kx q (by omega) (by omega))))⟩
    ·
      by_cases t_2 : x = nI 2
      · refine r_tsIn 42 dX8_all_1 (by rw [t_2]; decide) (by rw [t_2]; decide) (by rw [t_2]; rfl) (by decide) ?_
        refine r_PARTINGS fsX8_157 dX8_all_42 ?_
        refine r_aload_n rfl dX8_all_45 ?_
        refine r_getR foX8_23 rfl rfl dX8_all_46 ?_
        refine r_getI foX8_73 rfl rfl dX8_all_49 ?_
        rw [show h 3 0 = nI n from I.1.2.2.1]
        refine r_irn (by decide) (by decide) rfl (bell_at I.1.1 hn6).2 (by omega) dX8_all_52 ?_
        rw [(bell_at I.1.1 hn6).1]
        refine ret_i dX8_all_53 rfl ?_
        exact ⟨by rw [if_neg t_0, if_neg t_1, if_pos t_2], CP.scr I (fun _ _ _ => rfl)⟩
      · refine r_tsOut 54 dX8_all_1 (by have := tsOut (x := x) 2 (by decide) (fun i hi => by rcases (show i = 0 ∨ i = 1 ∨ i = 2 by omega) with rfl | rfl | rfl <;> assumption); omega) (by decide) ?_
        refine r_bipush (v := (-2 : Int32)) (by decide) dX8_all_54 ?_
        refine ret_i dX8_all_56 rfl ?_
        exact ⟨by rw [if_neg t_0, if_neg t_1, if_neg t_2], CP.scr I (fun _ _ _ => rfl)⟩

set_option maxRecDepth 100000 in
set_option maxHeartbeats 400000 in
theorem c_breaks {g : GG} {n m b : Nat} {x : Int32} {h : Hp} {c : Nat → Nat} (I : CI g h n c m b) : R g mX8_breaks 0 [some (.ref (ad g 0)), some (.int x)] [] h (Ri fun v h' => (isL 3 x = 0 ∧ v = -2 ∧ h' = h) ∨ ∃ k, k < 3 ∧ x = nI k ∧ v = brk (eH h 3 n) (lab c) (mx c n) k ∧ CP g h h' n c m b (eH h 3 n) (h 55)) := by
  refine r_iload_n rfl dX8_breaks_0 ?_
  refine r_cS1i moX8_isRest lkX8_179 (Nat.le_of_ble_eq_true rfl) ⟨by decide, by decide⟩ (Nat.le_of_ble_eq_true rfl) dX8_breaks_1 rfl (c_isRest (n := 0)) (fun v1 h1 q1 => ?_)
  obtain ⟨e1, f1⟩ := q1
  subst f1
  rw [e1]
  refine r_if_eq 26 dX8_breaks_4 (by decide) (fun c_4 => ?_) (fun c_4 => ?_)
  · refine r_bipush (v := (-2 : Int32)) (by decide) dX8_breaks_26 ?_
    refine ret_i dX8_breaks_28 rfl ?_
    first
      | exact Or.inl ⟨c_4, rfl, rfl⟩
      | exact Or.inr ⟨k, hk, rfl, rfl, CP.jud I (fun q a b d => kx q (by omega) (by omega) (by omega)) gx vx⟩
  · obtain ⟨k, hk, rfl⟩ := isL_y (by omega) c_4
    refine r_aload_n rfl dX8_breaks_7 ?_
    refine r_getR foX8_32 rfl rfl dX8_breaks_8 ?_
    refine r_aload_n rfl dX8_breaks_11 ?_
    refine r_getR foX8_10 rfl rfl dX8_breaks_12 ?_
    refine r_iload_n rfl dX8_breaks_15 ?_
    refine r_aload_n rfl dX8_breaks_16 ?_
    refine r_getR foX8_60 rfl rfl dX8_breaks_17 ?_
    refine r_cV3i (T := TX7) (N := 2) moX7_firstBreaker lkX8_182 rfl rfl (Nat.le_of_ble_eq_true rfl) ⟨by decide, by decide⟩ (Nat.le_of_ble_eq_true rfl) dX8_breaks_20 rfl (c_firstBreaker ve39 jd1 pa56 (Or.inl (by omega)) (Or.inl (by omega)) I.1 I.2.2.2.1 I.2.2.2.2.1 hk I.2.1) (fun v2 h2 q2 => ?_)
    obtain ⟨e2, kx, gx, vx⟩ := q2
    subst e2
    refine r_goto 28 dX8_breaks_23 (by decide) ?_
    refine ret_i dX8_breaks_28 rfl ?_
    first
      | exact Or.inl ⟨c_4, rfl, rfl⟩
      | exact Or.inr ⟨k, hk, rfl, rfl, CP.jud I (fun q a b d => kx q (by omega) (by omega) (by omega)) gx vx⟩

