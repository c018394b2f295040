theorem EcEq.trans {E E' E'' : Ec} (h : EcEq E E') (k : EcEq E' E'') : EcEq E E'' := ⟨h.1.trans k.1, fun l hl => by
  obtain ⟨a, b, c, d⟩ := h.2.1 l hl
  obtain ⟨a', b', c', d'⟩ := k.2.1 l (by rw [← h.1]; exact hl)
  exact ⟨a.trans a', b.trans b', c.trans c', d.trans d'⟩, h.2.2.1.trans k.2.2.1, h.2.2.2.trans k.2.2.2⟩
theorem EOK.eq {E E' : Ec} (h : EcEq E E') (k : EOK E') : EOK E := by
  obtain ⟨k1, k2, k3, k4⟩ := k
  refine ⟨by rw [h.1]; exact k1, fun l hl => ?_, by rw [h.2.2.1]; exact k3, by rw [h.2.2.2]; exact k4⟩
  obtain ⟨a, b, c, d⟩ := h.2.1 l hl
  rw [a, b, c, d]
  exact k2 l (by rw [← h.1]; exact hl)
theorem upd_cong {f f' : Nat → Int32} {k l : Nat} {x : Int32} (h : f l = f' l) : upd f k x l = upd f' k x l := by
  by_cases e : l = k
  · subst e; rw [upd_eq, upd_eq]
  · rw [upd_ne e, upd_ne e]; exact h
theorem setE_eq {E E' : Ec} {i k : Nat} {x : Int32} (h : EcEq E E') : EcEq (setE E i k x) (setE E' i k x) := by
  refine ⟨h.1, fun l hl => ?_, h.2.2.1, h.2.2.2⟩
  obtain ⟨a, b, c, d⟩ := h.2.1 l hl
  refine ⟨?_, ?_, ?_, ?_⟩
  · show (if i = 0 then upd (eW E) k x else eW E) l = (if i = 0 then upd (eW E') k x else eW E') l
    split
    · exact upd_cong a
    · exact a
  · show (if i = 1 then upd (eC E) k x else eC E) l = (if i = 1 then upd (eC E') k x else eC E') l
    split
    · exact upd_cong b
    · exact b
  · show (if i = 2 then upd (eG E) k x else eG E) l = (if i = 2 then upd (eG E') k x else eG E') l
    split
    · exact upd_cong c
    · exact c
  · show (if i = 3 then upd (eT E) k x else eT E) l = (if i = 3 then upd (eT E') k x else eT E') l
    split
    · exact upd_cong d
    · exact d
theorem setE_2 (E : Ec) (k : Nat) (x y : Int32) : setE (setE E 1 k x) 1 k y = setE E 1 k y := by
  show (eN E, eW E, upd (upd (eC E) k x) k y, eG E, eT E, eWa E, eSh E) = (eN E, eW E, upd (eC E) k y, eG E, eT E, eWa E, eSh E)
  have : upd (upd (eC E) k x) k y = upd (eC E) k y := by
    funext j
    by_cases e : j = k
    · subst e; rw [upd_eq, upd_eq]
    · rw [upd_ne e, upd_ne e, upd_ne e]
  rw [this]
theorem setE_0 (E : Ec) (k : Nat) : setE E 1 k (eC E k) = E := by
  show (eN E, eW E, upd (eC E) k (eC E k), eG E, eT E, eWa E, eSh E) = E
  have : upd (eC E) k (eC E k) = eC E := by
    funext j
    by_cases e : j = k
    · subst e; rw [upd_eq]
    · rw [upd_ne e]
  rw [this]
  rfl
theorem ruE_eq {E E' : Ec} {x : Int32} (h : EcEq E E') : EcEq (ruE E 1 x) (ruE E' 1 x) := ⟨h.1, h.2.1, h.2.2.1, rfl⟩
/-- the other judge's lands are E', its version is v; nothing else was written but its own cells -/
def TR (h hh : Hp) (n v : Nat) (E : Ec) : Prop := (∀ q, ¬ (22 ≤ q ∧ q ≤ 38) → hh q = h q) ∧ RB hh 21 ∧ hh 22 3 = nI v ∧ hh 22 0 = nI n ∧ EcEq (eH hh 22 n) E
theorem TR_copy {h h1 : Hp} {n v : Nat} (hn : n ≤ 6) (h0 : h 3 0 = nI n) (hr : RB h 21) (hv : h 22 3 = nI v) (hv2 : v < 2 ^ 29) (H : (∀ q, ¬ (22 ≤ q ∧ q ≤ 22 + 4) → h1 q = h q) ∧ h1 22 0 = h 3 0 ∧ h1 22 1 = h 3 1 ∧ h1 22 2 = h 3 2 ∧ h1 22 3 = h 22 3 + 1 ∧ ∀ j, j < 6 → h1 (22 + 1) j = h (3 + 1) j ∧ h1 (22 + 2) j = h (3 + 2) j ∧ h1 (22 + 3) j = h (3 + 3) j ∧ h1 (22 + 4) j = h (3 + 4) j) : TR h h1 n (v + 1) (eH h 3 n) := by
  obtain ⟨a1, a2, a3, a4, a5, a6⟩ := H
  refine ⟨fun q a => a1 q (by omega), (hr.bump (n := 0) (by omega) hv hv2 a5 (a1 _ (by omega))).rb, by rw [a5, hv]; exact nI_1 v, by rw [a2]; exact h0, rfl, fun l hl => ?_, a3, a4⟩
  exact a6 l (by have : l < n := hl; omega)
theorem TR_put {h hh h2 : Hp} {n v k : Nat} {E : Ec} {x : Int32} (hn : n ≤ 6) (hv2 : v < 2 ^ 29) (T : TR h hh n v E) (e : h2 = hset (hset hh (22 + (1 + 1)) k x) 22 3 (hset hh (22 + (1 + 1)) k x 22 3 + 1)) : TR h h2 n (v + 1) (setE E 1 k x) ∧ GC h2 21 n := by
  obtain ⟨a1, a2, a3, a4, a5⟩ := T
  have hk : ∀ q, ¬ q = 22 → ¬ q = 24 → h2 q = hh q := fun q a b => by rw [e, hset_ne a, hset_ne (by omega)]
  have e3 : h2 22 3 = hh 22 3 + 1 := by rw [e, hset_same, upd_eq, hset_ne (by omega)]
  have eo : ∀ i, ¬ i = 3 → h2 22 i = hh 22 i := fun i hi => by rw [e, hset_same, upd_ne hi, hset_ne (by omega)]
  have e24 : h2 24 = upd (hh 24) k x := by rw [e, hset_ne (by omega)]; exact hset_same _ _ _ _
  have gc : GC h2 21 n := a2.bump hn a3 hv2 e3 (hk _ (by omega) (by omega))
  refine ⟨⟨fun q a => by rw [hk q (by omega) (by omega)]; exact a1 q a, gc.rb, by rw [e3, a3]; exact nI_1 v, by rw [eo 0 (by omega)]; exact a4, ?_⟩, gc⟩
  have eE : eH h2 22 n = setE (eH hh 22 n) 1 k x := by
    show (n, h2 23, h2 24, h2 25, h2 26, h2 22 1, h2 22 2) = (n, hh 23, upd (hh 24) k x, hh 25, hh 26, hh 22 1, hh 22 2)
    rw [hk 23 (by omega) (by omega), e24, hk 25 (by omega) (by omega), hk 26 (by omega) (by omega), eo 1 (by omega), eo 2 (by omega)]
  rw [eE]
  exact setE_eq a5
theorem TR_rule {h hh h2 : Hp} {n v : Nat} {E : Ec} {x : Int32} (hn : n ≤ 6) (hv2 : v < 2 ^ 29) (T : TR h hh n v E) (e : h2 = hset (hset hh 22 2 x) 22 3 (hset hh 22 2 x 22 3 + 1)) : TR h h2 n (v + 1) (ruE E 1 x) ∧ GC h2 21 n := by
  obtain ⟨a1, a2, a3, a4, a5⟩ := T
  have hk : ∀ q, ¬ q = 22 → h2 q = hh q := fun q a => by rw [e, hset_ne a, hset_ne a]
  have e3 : h2 22 3 = hh 22 3 + 1 := by rw [e, hset_same, upd_eq, hset_same, upd_ne (by omega)]
  have eo : ∀ i, ¬ i = 3 → ¬ i = 2 → h2 22 i = hh 22 i := fun i hi hj => by rw [e, hset_same, upd_ne hi, hset_same, upd_ne hj]
  have e2 : h2 22 2 = x := by rw [e, hset_same, upd_ne (by omega), hset_same, upd_eq]
  have gc : GC h2 21 n := a2.bump hn a3 hv2 e3 (hk _ (by omega))
  refine ⟨⟨fun q a => by rw [hk q (by omega)]; exact a1 q a, gc.rb, by rw [e3, a3]; exact nI_1 v, by rw [eo 0 (by omega) (by omega)]; exact a4, ?_⟩, gc⟩
  have eE : eH h2 22 n = ruE (eH hh 22 n) 1 x := by
    show (n, h2 23, h2 24, h2 25, h2 26, h2 22 1, h2 22 2) = (n, hh 23, hh 24, hh 25, hh 26, hh 22 1, x)
    rw [hk 23 (by omega), hk 24 (by omega), hk 25 (by omega), hk 26 (by omega), eo 1 (by omega) (by omega), e2]
  rw [eE]
  exact ruE_eq a5
theorem TR.JI {g : GG} {h hh : Hp} {n v : Nat} {E : Ec} (hro : ROv g) (hn : n ≤ 6) (T : TR h hh n v E) (gc : GC hh 21 n) (hE : EOK E) : JI g hh 21 n := ⟨hro, hn, T.2.2.2.1, EOK.eq T.2.2.2.2 hE, gc⟩
theorem TR.J {h hh h' : Hp} {n v : Nat} {E : Ec} (T : TR h hh n v E) (k : KeepJ 21 hh h') (gc : GC h' 21 n) : TR h h' n v E := ⟨fun q a => by rw [k q (by omega)]; exact T.1 q a, gc.rb, by rw [k _ (by omega)]; exact T.2.2.1, by rw [k _ (by omega)]; exact T.2.2.2.1, by rw [show eH h' 22 n = eH hh 22 n from k.eH]; exact T.2.2.2.2⟩
theorem CP.tri {g : GG} {h hh : Hp} {n m b b' v : Nat} {c : Nat → Nat} {E : Ec} (I : CI g h n c m b) (T : TR h hh n v E) (hv : v ≤ b') (hb : b ≤ b') : CP g h hh n c m b' (eH h 3 n) (h 55) := by
  have I2 := I
  obtain ⟨i1, i2, i3, i4, i5, i6, i7, i8⟩ := I
  have hk := T.1
  refine ⟨fun q a => hk q (by omega), CI.obs I2 (fun q a b => hk q (by omega)) (fun q a b => hk q (by omega)) (i1.2.2.2.2.keep (fun q a b => hk q (by omega))) (i2.keep (hk _ (by omega)) (hk _ (by omega)) (by rw [hk _ (by omega)]) (eH_keep (fun q a b => hk q (by omega)))) T.2.1 hb ⟨v, T.2.2.1, hv⟩, eH_keep (fun q a b => hk q (by omega)), hk 55 (by omega)⟩
/-- the rules of shares below s by which the parting is at stay, as bits -/
def ruF (E : Ec) (r : Nat → Int32) : Nat → Int32
  | 0 => 0
  | s + 1 => if staV (ruE E 1 (nI s)) r = -6 then ruF E r s ||| (1 <<< (nI s &&& 31)) else ruF E r s

set_option maxRecDepth 100000 in
set_option maxHeartbeats 400000 in
theorem c_rules {g : GG} {n m b : Nat} {h : Hp} {c : Nat → Nat} (I : CI g h n c m b) (hb : b < 2 ^ 28) : R g mX8_rules 0 [some (.ref (ad g 0)), none, none] [] h (Ri fun v h' => v = ruF (eH h 3 n) (lab c) 3 ∧ CP g h h' n c m (b + 4) (eH h 3 n) (h 55)) := by
  have hn6 := I.1.2.1
  have h0 : h 3 0 = nI n := I.1.2.2.1
  obtain ⟨v0, ev, ev2⟩ := I.2.2.2.2.2.2.2
  have loop : ∀ (z s : Nat) (hh : Hp) (x : Int32), s ≤ 3 → 3 < s + z → x = ruF (eH h 3 n) (lab c) s → ∀ (E1 : Ec), (∀ x, ruE E1 1 x = ruE (eH h 3 n) 1 x) → v0 + 1 + s ≤ b + 4 → TR h hh n (v0 + 1 + s) E1 → R g mX8_rules 18 [some (.ref (ad g 0)), some (.int x), some (.int (nI s))] [] hh (Ri fun v h' => v = ruF (eH h 3 n) (lab c) 3 ∧ CP g h h' n c m (b + 4) (eH h 3 n) (h 55)) := by
    intro z
    induction z with
    | zero => intro s hh x a b; omega
    | succ z ih =>
      intro s hh x a b ex E1 hE1 hv T
      subst ex
      refine r_iload_n rfl dX8_rules_18 ?_
      refine r_iconst (v := nI 2) (by decide) dX8_rules_19 ?_
      refine r_icmp_gt 62 dX8_rules_20 (by decide) (fun c_20 => ?_) (fun c_20 => ?_)
      · refine r_iload_n rfl dX8_rules_62 ?_
        refine ret_i dX8_rules_63 rfl ?_
        have e : s = 3 := by
          rcases Nat.lt_or_ge s 3 with q | q
          · exact absurd c_20 (nI_nlt (by omega) (by omega))
          · omega
        subst e
        exact ⟨rfl, CP.tri I T (by omega) (by omega)⟩
      · have hs : s < 3 := by
          rcases Nat.lt_or_ge s 3 with q | q
          · exact q
          · exact absurd (nI_lt (by omega) (by omega)) c_20
        refine r_aload_n rfl dX8_rules_23 ?_
        refine r_getR foX8_16 rfl rfl dX8_rules_24 ?_
        refine r_getR foX8_19 rfl rfl dX8_rules_27 ?_
        refine r_iload_n rfl dX8_rules_30 ?_
        refine r_cV1v (T := TX3) (N := 8) moX3_putShares lkX8_106 rfl rfl (Nat.le_of_ble_eq_true rfl) ⟨by decide, by decide⟩ (Nat.le_of_ble_eq_true rfl) dX8_rules_31 rfl (c_putShares la22) (fun h21 q21 => ?_)
        obtain ⟨T2, G2⟩ := TR_rule (x := nI s) hn6 (by omega) T q21
        rw [hE1] at T2
        refine r_aload_n rfl dX8_rules_34 ?_
        refine r_getR foX8_16 rfl rfl dX8_rules_35 ?_
        refine r_aload_n rfl dX8_rules_38 ?_
        refine r_getR foX8_60 rfl rfl dX8_rules_39 ?_
        refine r_cV1i (T := TX2) (N := 3) moX2_stayBreaker lkX8_205 rfl rfl (Nat.le_of_ble_eq_true rfl) ⟨by decide, by decide⟩ (Nat.le_of_ble_eq_true rfl) dX8_rules_42 rfl (c_stayBreaker jd2 pa56 (Or.inl (by omega)) (T2.JI I.1.1 hn6 G2 (EOK.rule I.1.2.2.2.1 ⟨s, rfl, by omega, by omega⟩)) I.2.2.2.1 (I.2.2.2.2.1.keep (fun q a b => T2.1 q (by omega)))) (fun v22 h22 q22 => ?_)
        obtain ⟨ea, kx, gx⟩ := q22
        rw [staV_eq (E' := ruE (eH h 3 n) 1 (nI s)) (T2.2.2.2.2) (fun _ _ => rfl)] at ea
        subst ea
        have T3 := T2.J kx gx
        refine r_bipush (v := (-6 : Int32)) (by decide) dX8_rules_45 ?_
        refine r_icmp_ne 56 dX8_rules_47 (by decide) (fun c_47 => ?_) (fun c_47 => ?_)
        · first | refine r_incN2 rfl (by decide) dX8_rules_56 ?_ | refine r_incP2 rfl (by decide) dX8_rules_56 ?_
          refine r_goto 18 dX8_rules_59 (by decide) ?_
          first
            | exact ih (s + 1) _ _ (by omega) (by omega) (by rw [ruF, if_neg c_47]) (ruE (eH h 3 n) 1 (nI s)) (fun x => rfl) (by omega) T3
            | exact ih (s + 1) _ _ (by omega) (by omega) (by rw [ruF, if_pos c_47]) (ruE (eH h 3 n) 1 (nI s)) (fun x => rfl) (by omega) T3
        · refine r_iload_n rfl dX8_rules_50 ?_
          refine r_iconst (v := (1 : Int32)) (by decide) dX8_rules_51 ?_
          refine r_iload_n rfl dX8_rules_52 ?_
          refine r_ishl dX8_rules_53 ?_
          refine r_ior dX8_rules_54 ?_
          refine r_ist1 rfl (by decide) dX8_rules_55 ?_
          first | refine r_incN2 rfl (by decide) dX8_rules_56 ?_ | refine r_incP2 rfl (by decide) dX8_rules_56 ?_
          refine r_goto 18 dX8_rules_59 (by decide) ?_
          first
            | exact ih (s + 1) _ _ (by omega) (by omega) (by rw [ruF, if_neg c_47]) (ruE (eH h 3 n) 1 (nI s)) (fun x => rfl) (by omega) T3
            | exact ih (s + 1) _ _ (by omega) (by omega) (by rw [ruF, if_pos c_47]) (ruE (eH h 3 n) 1 (nI s)) (fun x => rfl) (by omega) T3
  refine r_iconst (v := (0 : Int32)) (by decide) dX8_rules_0 ?_
  refine r_ist1 rfl (by decide) dX8_rules_1 ?_
  refine r_aload_n rfl dX8_rules_2 ?_
  refine r_getR foX8_16 rfl rfl dX8_rules_3 ?_
  refine r_getR foX8_19 rfl rfl dX8_rules_6 ?_
  refine r_aload_n rfl dX8_rules_9 ?_
  refine r_getR foX8_23 rfl rfl dX8_rules_10 ?_
  refine r_cV1v (T := TX3) (N := 8) moX3_copy lkX8_201 rfl rfl (Nat.le_of_ble_eq_true rfl) ⟨by decide, by decide⟩ (Nat.le_of_ble_eq_true rfl) dX8_rules_13 rfl (c_copyL la22 la3 (by omega)) (fun h1 q1 => ?_)
  have T := TR_copy hn6 h0 I.2.2.1 ev (by omega) q1
  refine r_iconst (v := nI 0) (by decide) dX8_rules_16 ?_
  refine r_ist2 rfl (by decide) dX8_rules_17 ?_
  exact loop 4 0 _ _ (by omega) (by omega) rfl (eH h 3 n) (fun x => rfl) (by omega) T

