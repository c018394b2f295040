def stB (E : Ec) (r : Nat → Int32) : Int32 := if staV E r = -6 then 1 else 0
def tsB (E : Ec) (r : Nat → Int32) (k : Nat) (st x : Int32) : Bool := decide (¬ fitV (nI 1) x = 0 ∧ ¬ stB (setE E 1 k x) r = st)
theorem ts_y {E : Ec} {r : Nat → Int32} {k : Nat} {st x a : Int32} (hf : ¬ fitV (nI 1) x = 0) (hs : stB (setE E 1 k x) r = a) (h : ¬ a = st) : (if tsB E r k st x = true then (1 : Int32) else 0) = 1 := by
  rw [if_pos]
  rw [tsB, decide_eq_true_eq, hs]
  exact ⟨hf, h⟩
theorem ts_n {E : Ec} {r : Nat → Int32} {k : Nat} {st x a : Int32} (hs : stB (setE E 1 k x) r = a) (h : a = st) : (if tsB E r k st x = true then (1 : Int32) else 0) = 0 := by
  rw [if_neg]
  rw [tsB, decide_eq_true_eq, hs]
  exact fun q => q.2 h
/-- the nearest other cost that turns the stay: d steps from f on -/
def egF (E : Ec) (r : Nat → Int32) (k : Nat) (st : Int32) : Nat → Nat → Int32
  | 0, _ => -6
  | d + 1, f => if tsB E r k st (eC E k - nI f) = true then eC E k - nI f else if tsB E r k st (eC E k + nI f) = true then eC E k + nI f else egF E r k st d (f + 1)

set_option maxRecDepth 100000 in
set_option maxHeartbeats 400000 in
theorem c_turnsStay {g : GG} {n m b k v : Nat} {x st : Int32} {h hh : Hp} {c : Nat → Nat} {E1 : Ec} (I : CI g h n c m b) (hk : k < n) (hv : v < 2 ^ 29) (hE1 : ∀ y, setE E1 1 k y = setE (eH h 3 n) 1 k y) (T : TR h hh n v E1) : R g mX8_turnsStay 0 [some (.ref (ad g 0)), some (.int (nI k)), some (.int x), some (.int st)] [] hh (Ri fun r h' => r = (if tsB (eH h 3 n) (lab c) k st x = true then 1 else 0) ∧ ∃ E2, (∀ y, setE E2 1 k y = setE (eH h 3 n) 1 k y) ∧ ∃ v2, v2 ≤ v + 1 ∧ TR h h' n v2 E2) := by
  have hn6 := I.1.2.1
  refine r_iconst (v := nI 1) (by decide) dX8_turnsStay_0 ?_
  refine r_iload_n rfl dX8_turnsStay_1 ?_
  refine r_cS2i moX3_fits lkX8_67 (Nat.le_of_ble_eq_true rfl) ⟨by decide, by decide⟩ (Nat.le_of_ble_eq_true rfl) dX8_turnsStay_2 rfl c_fits (fun v21 h21 q21 => ?_)
  obtain ⟨e21, f21⟩ := q21
  subst f21
  rw [e21]
  refine r_if_ne 10 dX8_turnsStay_5 (by decide) (fun c_5 => ?_) (fun c_5 => ?_)
  · refine r_aload_n rfl dX8_turnsStay_10 ?_
    refine r_getR foX8_16 rfl rfl dX8_turnsStay_11 ?_
    refine r_getR foX8_19 rfl rfl dX8_turnsStay_14 ?_
    refine r_iconst (v := nI 1) (by decide) dX8_turnsStay_17 ?_
    refine r_iload_n rfl dX8_turnsStay_18 ?_
    refine r_iload_n rfl dX8_turnsStay_19 ?_
    refine r_cV3v (T := TX3) (N := 8) moX3_put lkX8_92 rfl rfl (Nat.le_of_ble_eq_true rfl) ⟨by decide, by decide⟩ (Nat.le_of_ble_eq_true rfl) dX8_turnsStay_20 rfl (c_put la22 (by omega) (by omega)) (fun h22 q22 => ?_)
    obtain ⟨T2, G2⟩ := TR_put (k := k) (x := x) hn6 hv T q22
    rw [hE1] at T2
    refine r_aload_n rfl dX8_turnsStay_23 ?_
    refine r_getR foX8_16 rfl rfl dX8_turnsStay_24 ?_
    refine r_aload_n rfl dX8_turnsStay_27 ?_
    refine r_getR foX8_60 rfl rfl dX8_turnsStay_28 ?_
    refine r_cV1i (T := TX2) (N := 3) moX2_stayBreaker lkX8_205 rfl rfl (Nat.le_of_ble_eq_true rfl) ⟨by decide, by decide⟩ (Nat.le_of_ble_eq_true rfl) dX8_turnsStay_31 rfl (c_stayBreaker jd2 pa56 (Or.inl (by omega)) (T2.JI I.1.1 hn6 G2 (EOK.set I.1.2.2.2.1 hk (by omega) c_5)) I.2.2.2.1 (I.2.2.2.2.1.keep (fun q a b => T2.1 q (by omega)))) (fun v23 h23 q23 => ?_)
    obtain ⟨ea, kx, gx⟩ := q23
    rw [staV_eq (E' := setE (eH h 3 n) 1 k x) T2.2.2.2.2 (fun _ _ => rfl)] at ea
    subst ea
    have T3 := T2.J kx gx
    refine r_bipush (v := (-6 : Int32)) (by decide) dX8_turnsStay_34 ?_
    refine r_icmp_ne 43 dX8_turnsStay_36 (by decide) (fun c_36 => ?_) (fun c_36 => ?_)
    · refine r_iconst (v := (0 : Int32)) (by decide) dX8_turnsStay_43 ?_
      refine r_iload_n rfl dX8_turnsStay_44 ?_
      refine r_icmp_eq 52 dX8_turnsStay_45 (by decide) (fun c_45 => ?_) (fun c_45 => ?_)
      · refine r_iconst (v := (0 : Int32)) (by decide) dX8_turnsStay_52 ?_
        refine ret_z dX8_turnsStay_53 rfl (by decide) ?_
        refine ⟨?_, setE (eH h 3 n) 1 k x, fun y => setE_2 _ _ _ _, v + 1, by omega, T3⟩
        first
          | exact (ts_y c_5 (if_pos c_36) c_45).symm
          | exact (ts_y c_5 (if_neg c_36) c_45).symm
          | exact (ts_n (if_pos c_36) c_45).symm
          | exact (ts_n (if_neg c_36) c_45).symm
      · refine r_iconst (v := (1 : Int32)) (by decide) dX8_turnsStay_48 ?_
        refine r_goto 53 dX8_turnsStay_49 (by decide) ?_
        refine ret_z dX8_turnsStay_53 rfl (by decide) ?_
        refine ⟨?_, setE (eH h 3 n) 1 k x, fun y => setE_2 _ _ _ _, v + 1, by omega, T3⟩
        first
          | exact (ts_y c_5 (if_pos c_36) c_45).symm
          | exact (ts_y c_5 (if_neg c_36) c_45).symm
          | exact (ts_n (if_pos c_36) c_45).symm
          | exact (ts_n (if_neg c_36) c_45).symm
    · refine r_iconst (v := (1 : Int32)) (by decide) dX8_turnsStay_39 ?_
      refine r_goto 44 dX8_turnsStay_40 (by decide) ?_
      refine r_iload_n rfl dX8_turnsStay_44 ?_
      refine r_icmp_eq 52 dX8_turnsStay_45 (by decide) (fun c_45 => ?_) (fun c_45 => ?_)
      · refine r_iconst (v := (0 : Int32)) (by decide) dX8_turnsStay_52 ?_
        refine ret_z dX8_turnsStay_53 rfl (by decide) ?_
        refine ⟨?_, setE (eH h 3 n) 1 k x, fun y => setE_2 _ _ _ _, v + 1, by omega, T3⟩
        first
          | exact (ts_y c_5 (if_pos c_36) c_45).symm
          | exact (ts_y c_5 (if_neg c_36) c_45).symm
          | exact (ts_n (if_pos c_36) c_45).symm
          | exact (ts_n (if_neg c_36) c_45).symm
      · refine r_iconst (v := (1 : Int32)) (by decide) dX8_turnsStay_48 ?_
        refine r_goto 53 dX8_turnsStay_49 (by decide) ?_
        refine ret_z dX8_turnsStay_53 rfl (by decide) ?_
        refine ⟨?_, setE (eH h 3 n) 1 k x, fun y => setE_2 _ _ _ _, v + 1, by omega, T3⟩
        first
          | exact (ts_y c_5 (if_pos c_36) c_45).symm
          | exact (ts_y c_5 (if_neg c_36) c_45).symm
          | exact (ts_n (if_pos c_36) c_45).symm
          | exact (ts_n (if_neg c_36) c_45).symm
  · refine r_iconst (v := (0 : Int32)) (by decide) dX8_turnsStay_8 ?_
    refine ret_z dX8_turnsStay_9 rfl (by decide) ?_
    exact ⟨by rw [if_neg (by simp [tsB, c_5])], E1, hE1, v, by omega, T⟩

set_option maxRecDepth 100000 in
set_option maxHeartbeats 400000 in
theorem edge_loop {g : GG} {n m b k : Nat} {h : Hp} {c : Nat → Nat} (I : CI g h n c m b) (hk : k < n) (hb : b < 2 ^ 28) : ∀ (z : Nat) (hh : Hp) (d f v : Nat) (E1 : Ec), f + d = 99 → d < z → 1 ≤ f → v ≤ b + 1 + 2 * (f - 1) → (∀ y, setE E1 1 k y = setE (eH h 3 n) 1 k y) → TR h hh n v E1 → R g mX8_edge 59 [some (.ref (ad g 0)), some (.int (nI k)), some (.int (stB (eH h 3 n) (lab c))), some (.int (eC (eH h 3 n) k)), some (.int (nI f))] [] hh (Ri fun r h' => r = egF (eH h 3 n) (lab c) k (stB (eH h 3 n) (lab c)) d f ∧ CP g h h' n c m (b + 200) (eH h 3 n) (h 55)) := by
  have hn6 := I.1.2.1
  intro z
  induction z with
  | zero => intro hh d f v E1 a b; omega
  | succ z ih =>
    intro hh d f v E1 a b hf1 hv hE1 T
    refine r_iload rfl dX8_edge_59 ?_
    refine r_bipush (v := nI 98) (by decide) dX8_edge_61 ?_
    refine r_icmp_gt 108 dX8_edge_63 (by decide) (fun c_63 => ?_) (fun c_63 => ?_)
    · refine r_bipush (v := (-6 : Int32)) (by decide) dX8_edge_108 ?_
      refine ret_i dX8_edge_110 rfl ?_
      have hf : d = 0 := by
        have := (nI_ltI (by omega) (by omega)).mp c_63
        omega
      subst hf
      exact ⟨rfl, CP.tri I T (by omega) (by omega)⟩
    · have hf : f ≤ 98 := by
        rcases Nat.lt_or_ge 98 f with q | q
        · exact absurd (nI_lt q (by omega)) c_63
        · exact q
      obtain ⟨d, rfl⟩ : ∃ d', d = d' + 1 := ⟨d - 1, by omega⟩
      refine r_aload_n rfl dX8_edge_66 ?_
      refine r_iload_n rfl dX8_edge_67 ?_
      refine r_iload_n rfl dX8_edge_68 ?_
      refine r_iload rfl dX8_edge_69 ?_
      refine r_isub dX8_edge_71 ?_
      refine r_iload_n rfl dX8_edge_72 ?_
      refine r_cV3i (T := TX8) (N := 10) moX8_turnsStay lkX8_237 rfl rfl (Nat.le_of_ble_eq_true rfl) ⟨by decide, by decide⟩ (Nat.le_of_ble_eq_true rfl) dX8_edge_73 rfl (c_turnsStay I hk (by omega) hE1 T) (fun v21 h21 q21 => ?_)
      obtain ⟨er, E2, hE2, v2, hv2, T2⟩ := q21
      subst er
      refine r_if_eq 84 dX8_edge_76 (by decide) (fun c_76 => ?_) (fun c_76 => ?_)
      · refine r_aload_n rfl dX8_edge_84 ?_
        refine r_iload_n rfl dX8_edge_85 ?_
        refine r_iload_n rfl dX8_edge_86 ?_
        refine r_iload rfl dX8_edge_87 ?_
        refine r_iadd dX8_edge_89 ?_
        refine r_iload_n rfl dX8_edge_90 ?_
        refine r_cV3i (T := TX8) (N := 10) moX8_turnsStay lkX8_237 rfl rfl (Nat.le_of_ble_eq_true rfl) ⟨by decide, by decide⟩ (Nat.le_of_ble_eq_true rfl) dX8_edge_91 rfl (c_turnsStay I hk (by omega) hE2 T2) (fun v22 h22 q22 => ?_)
        obtain ⟨er, E3, hE3, v3, hv3, T3⟩ := q22
        subst er
        refine r_if_eq 102 dX8_edge_94 (by decide) (fun c_94 => ?_) (fun c_94 => ?_)
        · first | refine r_incN4 rfl (by decide) dX8_edge_102 ?_ | refine r_incP4 rfl (by decide) dX8_edge_102 ?_
          refine r_goto 59 dX8_edge_105 (by decide) ?_
          refine Ri.imp (ih _ d (f + 1) v3 E3 (by omega) (by omega) (by omega) (by omega) hE3 T3) (fun r h' q => ⟨?_, q.2⟩)
          have n1 : ¬ tsB (eH h 3 n) (lab c) k (stB (eH h 3 n) (lab c)) (eC (eH h 3 n) k - nI f) = true := fun z => by rw [if_pos z] at c_76; exact absurd c_76 (by decide)
          have n2 : ¬ tsB (eH h 3 n) (lab c) k (stB (eH h 3 n) (lab c)) (eC (eH h 3 n) k + nI f) = true := fun z => by rw [if_pos z] at c_94; exact absurd c_94 (by decide)
          rw [q.1, egF, if_neg n1, if_neg n2]
        · refine r_iload_n rfl dX8_edge_97 ?_
          refine r_iload rfl dX8_edge_98 ?_
          refine r_iadd dX8_edge_100 ?_
          refine ret_i dX8_edge_101 rfl ?_
          have n1 : ¬ tsB (eH h 3 n) (lab c) k (stB (eH h 3 n) (lab c)) (eC (eH h 3 n) k - nI f) = true := fun z => by rw [if_pos z] at c_76; exact absurd c_76 (by decide)
          have n2 : tsB (eH h 3 n) (lab c) k (stB (eH h 3 n) (lab c)) (eC (eH h 3 n) k + nI f) = true := Decidable.byContradiction fun z => c_94 (if_neg z)
          exact ⟨by rw [egF, if_neg n1, if_pos n2], CP.tri I T3 (by omega) (by omega)⟩
      · refine r_iload_n rfl dX8_edge_79 ?_
        refine r_iload rfl dX8_edge_80 ?_
        refine r_isub dX8_edge_82 ?_
        refine ret_i dX8_edge_83 rfl ?_
        have n1 : tsB (eH h 3 n) (lab c) k (stB (eH h 3 n) (lab c)) (eC (eH h 3 n) k - nI f) = true := Decidable.byContradiction fun z => c_76 (if_neg z)
        exact ⟨by rw [egF, if_pos n1], CP.tri I T2 (by omega) (by omega)⟩

set_option maxRecDepth 100000 in
set_option maxHeartbeats 400000 in
theorem c_edgek {g : GG} {n m b k : Nat} {h : Hp} {c : Nat → Nat} (I : CI g h n c m b) (hk : k < n) (hb : b < 2 ^ 28) : R g mX8_edge 0 [some (.ref (ad g 0)), some (.int (nI k)), none, none, none] [] h (Ri fun r h' => r = egF (eH h 3 n) (lab c) k (stB (eH h 3 n) (lab c)) 98 1 ∧ CP g h h' n c m (b + 200) (eH h 3 n) (h 55)) := by
  have hn6 := I.1.2.1
  have h0 : h 3 0 = nI n := I.1.2.2.1
  obtain ⟨v0, ev, ev2⟩ := I.2.2.2.2.2.2.2
  have fin : ∀ (hj : Hp) {h1 : Hp} {st : Int32}, CI g hj n c m b → eH hj 3 n = (eH h 3 n) → hj 55 = h 55 → (∀ q, 62 ≤ q → hj q = h q) → st = stB (eH h 3 n) (lab c) → TR hj h1 n (v0 + 1) (eH hj 3 n) → R g mX8_edge 59 [some (.ref (ad g 0)), some (.int (nI k)), some (.int st), some (.int (eC (eH h 3 n) k)), some (.int (nI 1))] [] h1 (Ri fun r h' => r = egF (eH h 3 n) (lab c) k (stB (eH h 3 n) (lab c)) 98 1 ∧ CP g h h' n c m (b + 200) (eH h 3 n) (h 55)) := by
    intro hj h1 st Ij eE es ek est T
    subst est
    rw [← eE]
    refine Ri.imp (edge_loop Ij hk hb 99 h1 98 1 (v0 + 1) _ (by omega) (by omega) (by omega) (by omega) (fun y => rfl) T) (fun r h' q => ⟨q.1, ?_⟩)
    obtain ⟨p1, p2, p3, p4⟩ := q.2
    exact ⟨fun q a => (p1 q a).trans (ek q a), p2, p3, p4.trans es⟩
  refine r_aload_n rfl dX8_edge_0 ?_
  refine r_iload_n rfl dX8_edge_1 ?_
  refine r_cV1i (T := TX8) (N := 10) moX8_isLand lkX8_84 rfl rfl (Nat.le_of_ble_eq_true rfl) ⟨by decide, by decide⟩ (Nat.le_of_ble_eq_true rfl) dX8_edge_2 rfl (c_isLand (n := n) h0) (fun v1 h1 q1 => ?_)
  obtain ⟨e1, f1⟩ := q1
  subst f1
  rw [e1]
  refine r_if_ne 10 dX8_edge_5 (by decide) (fun c_5 => ?_) (fun c_5 => ?_)
  · refine r_aload_n rfl dX8_edge_10 ?_
    refine r_getR foX8_10 rfl rfl dX8_edge_11 ?_
    refine r_aload_n rfl dX8_edge_14 ?_
    refine r_getR foX8_60 rfl rfl dX8_edge_15 ?_
    refine r_cV1i (T := TX2) (N := 3) moX2_stayBreaker lkX8_205 rfl rfl (Nat.le_of_ble_eq_true rfl) ⟨by decide, by decide⟩ (Nat.le_of_ble_eq_true rfl) dX8_edge_18 rfl (c_stayBreaker jd1 pa56 (Or.inl (by omega)) I.1 I.2.2.2.1 I.2.2.2.2.1) (fun v2 h2 q2 => ?_)
    obtain ⟨ea, kx, gx⟩ := q2
    subst ea
    have cp := CP.judg I (fun q a _ => kx q (by omega)) gx
    have kh := kx
    refine r_bipush (v := (-6 : Int32)) (by decide) dX8_edge_21 ?_
    refine r_icmp_ne 30 dX8_edge_23 (by decide) (fun c_23 => ?_) (fun c_23 => ?_)
    · refine r_iconst (v := (0 : Int32)) (by decide) dX8_edge_30 ?_
      refine r_ist2 rfl (by decide) dX8_edge_31 ?_
      refine r_aload_n rfl dX8_edge_32 ?_
      refine r_getR foX8_23 rfl rfl dX8_edge_33 ?_
      refine r_getR foX8_234 rfl rfl dX8_edge_36 ?_
      refine r_iload_n rfl dX8_edge_39 ?_
      refine r_ild rfl rfl (by omega) (by decide) dX8_edge_40 ?_
      rw [show h2 5 k = eC (eH h 3 n) k by rw [kh 5 (by omega)]; rfl]
      refine r_ist3 rfl (by decide) dX8_edge_41 ?_
      refine r_aload_n rfl dX8_edge_42 ?_
      refine r_getR foX8_16 rfl rfl dX8_edge_43 ?_
      refine r_getR foX8_19 rfl rfl dX8_edge_46 ?_
      refine r_aload_n rfl dX8_edge_49 ?_
      refine r_getR foX8_23 rfl rfl dX8_edge_50 ?_
      refine r_cV1v (T := TX3) (N := 8) moX3_copy lkX8_201 rfl rfl (Nat.le_of_ble_eq_true rfl) ⟨by decide, by decide⟩ (Nat.le_of_ble_eq_true rfl) dX8_edge_53 rfl (c_copyL la22 la3 (by omega)) (fun h3 q3 => ?_)
      have T := TR_copy hn6 cp.2.1.1.2.2.1 cp.2.1.2.2.1 (by rw [kh _ (by omega)]; exact ev) (by omega) q3
      refine r_iconst (v := nI 1) (by decide) dX8_edge_56 ?_
      refine r_ist4 rfl (by decide) dX8_edge_57 ?_
      first
        | exact fin _ cp.2.1 cp.2.2.1 cp.2.2.2 cp.1 (by rw [stB, if_pos c_23]) T
        | exact fin _ cp.2.1 cp.2.2.1 cp.2.2.2 cp.1 (by rw [stB, if_neg c_23]) T
    · refine r_iconst (v := (1 : Int32)) (by decide) dX8_edge_26 ?_
      refine r_goto 31 dX8_edge_27 (by decide) ?_
      refine r_ist2 rfl (by decide) dX8_edge_31 ?_
      refine r_aload_n rfl dX8_edge_32 ?_
      refine r_getR foX8_23 rfl rfl dX8_edge_33 ?_
      refine r_getR foX8_234 rfl rfl dX8_edge_36 ?_
      refine r_iload_n rfl dX8_edge_39 ?_
      refine r_ild rfl rfl (by omega) (by decide) dX8_edge_40 ?_
      rw [show h2 5 k = eC (eH h 3 n) k by rw [kh 5 (by omega)]; rfl]
      refine r_ist3 rfl (by decide) dX8_edge_41 ?_
      refine r_aload_n rfl dX8_edge_42 ?_
      refine r_getR foX8_16 rfl rfl dX8_edge_43 ?_
      refine r_getR foX8_19 rfl rfl dX8_edge_46 ?_
      refine r_aload_n rfl dX8_edge_49 ?_
      refine r_getR foX8_23 rfl rfl dX8_edge_50 ?_
      refine r_cV1v (T := TX3) (N := 8) moX3_copy lkX8_201 rfl rfl (Nat.le_of_ble_eq_true rfl) ⟨by decide, by decide⟩ (Nat.le_of_ble_eq_true rfl) dX8_edge_53 rfl (c_copyL la22 la3 (by omega)) (fun h4 q4 => ?_)
      have T := TR_copy hn6 cp.2.1.1.2.2.1 cp.2.1.2.2.1 (by rw [kh _ (by omega)]; exact ev) (by omega) q4
      refine r_iconst (v := nI 1) (by decide) dX8_edge_56 ?_
      refine r_ist4 rfl (by decide) dX8_edge_57 ?_
      first
        | exact fin _ cp.2.1 cp.2.2.1 cp.2.2.2 cp.1 (by rw [stB, if_pos c_23]) T
        | exact fin _ cp.2.1 cp.2.2.1 cp.2.2.2 cp.1 (by rw [stB, if_neg c_23]) T
  · refine r_iconst (v := (-1 : Int32)) (by decide) dX8_edge_8 ?_
    refine ret_i dX8_edge_9 rfl ?_
    exact absurd (c_5.symm.trans (isL_k (by omega) hk)) (by decide)

set_option maxRecDepth 100000 in
set_option maxHeartbeats 400000 in
theorem c_edge {g : GG} {n m b : Nat} {x : Int32} {h : Hp} {c : Nat → Nat} (I : CI g h n c m b) (hb : b < 2 ^ 28) : R g mX8_edge 0 [some (.ref (ad g 0)), some (.int x), none, none, none] [] h (Ri fun v h' => (isL n x = 0 ∧ v = -1 ∧ h' = h) ∨ ∃ k, k < n ∧ x = nI k ∧ v = egF (eH h 3 n) (lab c) k (stB (eH h 3 n) (lab c)) 98 1 ∧ CP g h h' n c m (b + 200) (eH h 3 n) (h 55)) := by
  have hn6 := I.1.2.1
  have h0 : h 3 0 = nI n := I.1.2.2.1
  by_cases hx : isL n x = 0
  · have hz : True := trivial
    refine r_aload_n rfl dX8_edge_0 ?_
    refine r_iload_n rfl dX8_edge_1 ?_
    refine r_cV1i (T := TX8) (N := 10) moX8_isLand lkX8_84 rfl rfl (Nat.le_of_ble_eq_true rfl) ⟨by decide, by decide⟩ (Nat.le_of_ble_eq_true rfl) dX8_edge_2 rfl (c_isLand (n := n) h0) (fun v1 h1 q1 => ?_)
    obtain ⟨e1, f1⟩ := q1
    subst f1
    rw [e1]
    refine r_if_ne 10 dX8_edge_5 (by decide) (fun c_5 => ?_) (fun c_5 => ?_)
    · exact absurd hx c_5
    · refine r_iconst (v := (-1 : Int32)) (by decide) dX8_edge_8 ?_
      refine ret_i dX8_edge_9 rfl ?_
      exact Or.inl ⟨c_5, rfl, rfl⟩
  · obtain ⟨k, hk, rfl⟩ := isL_y (by omega) hx
    exact Ri.imp (c_edgek I hk hb) (fun v h' q => Or.inr ⟨k, hk, rfl, q⟩)

