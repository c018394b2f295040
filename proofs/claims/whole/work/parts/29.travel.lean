set_option maxRecDepth 100000 in
set_option maxHeartbeats 400000 in
theorem c_step {g : GG} {Y n x : Nat} {gl : Int32} {h : Hp} {c : Nat → Nat} (hY : JouAt Y) (hn : n ≤ 6) (hs : PS h (Y + 1) n c) (hxn : x < n) (hx : h Y 4 = nI x) (hg : h Y 5 = gl) : R g mX1_step 0 [some (.ref (ad g Y))] [] h (Rv fun h' => (∀ q, ¬ q = Y → ¬ (Y < q ∧ q ≤ Y + 3) → h' q = h q) ∧ (∀ i, ¬ i = 3 → h' Y i = h Y i) ∧ h' Y 3 = nI (bh n x) ∧ ∃ c', CanOf n (upd (lab c) x gl) c' ∧ PS h' (Y + 1) n c') := by
  refine r_aload_n rfl dX1_step_0 ?_
  refine r_getI foX1_66 hY.1 rfl dX1_step_1 ?_
  rw [hg]
  refine r_iconst (v := (-1 : Int32)) (by decide) dX1_step_4 ?_
  refine r_icmp_ne 22 dX1_step_5 (by decide) (fun c_5 => ?_) (fun c_5 => ?_)
  · refine r_aload_n rfl dX1_step_22 ?_
    refine r_getR foX1_12 hY.1 rfl dX1_step_23 ?_
    refine r_aload_n rfl dX1_step_26 ?_
    refine r_getI foX1_54 hY.1 rfl dX1_step_27 ?_
    rw [hx]
    refine r_aload_n rfl dX1_step_30 ?_
    refine r_getI foX1_66 hY.1 rfl dX1_step_31 ?_
    rw [hg]
    refine r_cV2v (T := TX6) (N := 4) moX6_move lkX1_77 hY.2.1.1 rfl (Nat.le_of_ble_eq_true rfl) ⟨by decide, by decide⟩ (Nat.le_of_ble_eq_true rfl) dX1_step_34 rfl (c_move (n := n) (u := gl) hY.2.1 hn (by omega) hs.1) (fun h1 q1 => ?_)
    obtain ⟨k1, c1, hc1, s1⟩ := q1
    have kY : h1 Y = h Y := k1 Y (by omega) (by omega) (by omega)
    refine r_aload_n rfl dX1_step_37 ?_
    refine r_aload_n rfl dX1_step_38 ?_
    refine r_aload_n rfl dX1_step_39 ?_
    refine r_getI foX1_54 hY.1 rfl dX1_step_40 ?_
    rw [kY, hx]
    refine r_cV1i (T := TX1) (N := 7) moX1_behind lkX1_69 hY.1 rfl (Nat.le_of_ble_eq_true rfl) ⟨by decide, by decide⟩ (Nat.le_of_ble_eq_true rfl) dX1_step_43 rfl (c_behind hY hn (by omega) s1) (fun v2 h2 q2 => ?_)
    obtain ⟨e3, e4⟩ := q2
    subst e4
    rw [e3]
    refine r_putI fpX1_26 hY.1 rfl dX1_step_46 ?_
    refine ret_v dX1_step_49 rfl ?_
    refine ⟨fun q a b => by rw [hset_ne a]; exact k1 q (by omega) (by omega) (by omega), fun i hi => by rw [hset_same, upd_ne hi, kY], by rw [hset_same, upd_eq], c1, ?_, s1.keep (fun q a b => hset_ne (by omega))⟩
    first
      | exact hc1.congr (fun i hi => by rw [c_5]; exact upd_lab hs.2.2 hi)
      | exact hc1.congr (fun i hi => upd_lab hs.2.2 hi)
  · refine r_aload_n rfl dX1_step_8 ?_
    refine r_getR foX1_12 hY.1 rfl dX1_step_9 ?_
    refine r_aload_n rfl dX1_step_12 ?_
    refine r_getI foX1_54 hY.1 rfl dX1_step_13 ?_
    rw [hx]
    refine r_cV1v (T := TX6) (N := 4) moX6_leave lkX1_73 hY.2.1.1 rfl (Nat.le_of_ble_eq_true rfl) ⟨by decide, by decide⟩ (Nat.le_of_ble_eq_true rfl) dX1_step_16 rfl (c_leave (n := n) hY.2.1 hn (by omega) hs.1) (fun h3 q3 => ?_)
    obtain ⟨k1, c1, hc1, s1⟩ := q3
    have kY : h3 Y = h Y := k1 Y (by omega) (by omega) (by omega)
    refine r_goto 37 dX1_step_19 (by decide) ?_
    refine r_aload_n rfl dX1_step_37 ?_
    refine r_aload_n rfl dX1_step_38 ?_
    refine r_aload_n rfl dX1_step_39 ?_
    refine r_getI foX1_54 hY.1 rfl dX1_step_40 ?_
    rw [kY, hx]
    refine r_cV1i (T := TX1) (N := 7) moX1_behind lkX1_69 hY.1 rfl (Nat.le_of_ble_eq_true rfl) ⟨by decide, by decide⟩ (Nat.le_of_ble_eq_true rfl) dX1_step_43 rfl (c_behind hY hn (by omega) s1) (fun v4 h4 q4 => ?_)
    obtain ⟨e3, e4⟩ := q4
    subst e4
    rw [e3]
    refine r_putI fpX1_26 hY.1 rfl dX1_step_46 ?_
    refine ret_v dX1_step_49 rfl ?_
    refine ⟨fun q a b => by rw [hset_ne a]; exact k1 q (by omega) (by omega) (by omega), fun i hi => by rw [hset_same, upd_ne hi, kY], by rw [hset_same, upd_eq], c1, ?_, s1.keep (fun q a b => hset_ne (by omega))⟩
    first
      | exact hc1.congr (fun i hi => by rw [c_5]; exact upd_lab hs.2.2 hi)
      | exact hc1.congr (fun i hi => upd_lab hs.2.2 hi)

/-! goings one after another -/
def StpT (E : Ec) (n : Nat) (c : Nat → Nat) (x : Nat) (c' : Nat → Nat) (x' : Nat) : Prop := ∃ l gl, fgF E (lab c) (mx c n) n x = some (l, gl) ∧ l < n ∧ CanOf n (upd (lab c) l gl) c' ∧ x' = bh n l
def RunT (E : Ec) (n : Nat) (cs : Nat → Nat → Nat) (ns : Nat → Nat) (K : Nat) : Prop := (∀ i, i ≤ K → Can n (cs i) ∧ ns i < n) ∧ (∀ i, i < K → StpT E n (cs i) (ns i) (cs (i + 1)) (ns (i + 1))) ∧ ∀ i, i < K → ∀ j, j < i → ¬ wh n (cs j) (ns j) = wh n (cs i) (ns i)
def EndT (E : Ec) (n : Nat) (cs : Nat → Nat → Nat) (ns : Nat → Nat) (K : Nat) (ring : Int32) : Prop := (∃ b, b < K ∧ wh n (cs b) (ns b) = wh n (cs K) (ns K) ∧ (∀ j, j < b → ¬ wh n (cs j) (ns j) = wh n (cs K) (ns K)) ∧ ring = nI K - nI b) ∨ ((∀ j, j < K → ¬ wh n (cs j) (ns j) = wh n (cs K) (ns K)) ∧ ((fgF E (lab (cs K)) (mx (cs K) n) n (ns K) = none ∧ ring = 0) ∨ (K = 500 ∧ (∃ z, fgF E (lab (cs K)) (mx (cs K) n) n (ns K) = some z) ∧ ring = -1)))
def TP (E : Ec) (n Y : Nat) (c0 : Nat → Nat) (x0 : Nat) (h' : Hp) : Prop := ∃ K cs ns, K ≤ 500 ∧ cs 0 = c0 ∧ ns 0 = x0 ∧ RunT E n cs ns K ∧ h' Y 1 = nI K ∧ PS h' (Y + 1) n (cs K) ∧ EndT E n cs ns K (h' Y 2)
def sx {α : Type} (f : Nat → α) (k : Nat) (x : α) : Nat → α := fun i => if i = k then x else f i
theorem sx_eq {α : Type} (f : Nat → α) (k : Nat) (x : α) : sx f k x k = x := by simp [sx]
theorem sx_ne {α : Type} {f : Nat → α} {k i : Nat} {x : α} (h : ¬ i = k) : sx f k x i = f i := by simp [sx, h]
theorem RunT.more {E : Ec} {n K : Nat} {cs : Nat → Nat → Nat} {ns : Nat → Nat} {c' : Nat → Nat} {x' : Nat} (H : RunT E n cs ns K) (hnew : ∀ j, j < K → ¬ wh n (cs j) (ns j) = wh n (cs K) (ns K)) (hs : StpT E n (cs K) (ns K) c' x') (hc : Can n c') (hx : x' < n) : RunT E n (sx cs (K + 1) c') (sx ns (K + 1) x') (K + 1) := by
  refine ⟨fun i hi => ?_, fun i hi => ?_, fun i hi j hj => ?_⟩
  · by_cases e : i = K + 1
    · subst e; rw [sx_eq, sx_eq]; exact ⟨hc, hx⟩
    · rw [sx_ne e, sx_ne e]; exact H.1 i (by omega)
  · by_cases e : i = K
    · subst e; rw [sx_ne (by omega), sx_ne (by omega), sx_eq, sx_eq]; exact hs
    · rw [sx_ne (by omega), sx_ne (by omega), sx_ne (by omega), sx_ne (by omega)]; exact H.2.1 i (by omega)
  · rw [sx_ne (by omega), sx_ne (by omega), sx_ne (by omega), sx_ne (by omega)]
    by_cases e : i = K
    · subst e; exact hnew j hj
    · exact H.2.2 i (by omega) j hj
def KeepT (Y G : Nat) (h h' : Hp) : Prop := ∀ q, ¬ (G + 6 < q ∧ q ≤ G + 17) → ¬ (Y ≤ q ∧ q ≤ Y + 4) → h' q = h q
theorem wh_lt {n : Nat} {c : Nat → Nat} {x : Nat} (hn : n ≤ 6) (hc : Can n c) (hx : x < n) : wh n c x < 2 ^ 31 := by
  have := plc_lt hn hc
  rw [wh]; omega

set_option maxRecDepth 100000 in
set_option maxHeartbeats 2000000 in
theorem c_travel {g : GG} {Y J G P n x0 : Nat} {h : Hp} {c : Nat → Nat} (hY : JouAt Y) (hJ : JudgeAt J G) (hP : PartAt P) (hYG : G + 18 ≤ Y ∨ Y + 5 ≤ G) (hYP : Y + 5 ≤ P ∨ P + 3 ≤ Y) (hd : G + 18 ≤ P ∨ P + 3 ≤ G) (j : JI g h G n) (hc : Can n c) (hs : PS h P n c) (hx0 : x0 < n) : R g mX1_travel 0 [some (.ref (ad g Y)), some (.ref (ad g J)), some (.ref (ad g P)), some (.int (nI x0)), none, none] [] h (Rv fun h' => KeepT Y G h h' ∧ GC h' G n ∧ TP (eH h (G + 1) n) n Y c x0 h') := by
  have hn := j.2.1
  have hro := j.1
  have fin : ∀ (h0 : Hp) {z : Option Value}, KeepT Y G h h0 → GC h0 G n → TP (eH h (G + 1) n) n Y c x0 h0 → ∀ K, K = 500 → R g mX1_travel 21 [some (.ref (ad g Y)), some (.ref (ad g J)), some (.ref (ad g P)), some (.int (nI x0)), some (.int (nI (K + 1))), z] [] h0 (Rv fun h' => KeepT Y G h h' ∧ GC h' G n ∧ TP (eH h (G + 1) n) n Y c x0 h') := by
    intro h0 z k0 gc0 tp K hK
    subst hK
    refine r_iload rfl dX1_travel_21 ?_
    refine r_sipush (v := nI 500) (by decide) dX1_travel_23 ?_
    refine r_icmp_gt 105 dX1_travel_26 (by decide) (fun c_26 => ?_) (fun c_26 => ?_)
    · refine ret_v dX1_travel_105 rfl ?_
      exact ⟨k0, gc0, tp⟩
    · exact absurd (nI_lt (by omega) (by omega)) c_26
  have loop : ∀ (m K : Nat) (h0 : Hp) (z : Option Value) (cs : Nat → Nat → Nat) (ns : Nat → Nat), K ≤ 500 → 500 < K + m → cs 0 = c → ns 0 = x0 → RunT (eH h (G + 1) n) n cs ns K → KeepT Y G h h0 → GC h0 G n → PS h0 (Y + 1) n (cs K) → h0 Y 3 = nI (ns K) → h0 Y 2 = -1 → (∀ i, i < K → h0 (Y + 4) i = nI (wh n (cs i) (ns i))) → R g mX1_travel 21 [some (.ref (ad g Y)), some (.ref (ad g J)), some (.ref (ad g P)), some (.int (nI x0)), some (.int (nI K)), z] [] h0 (Rv fun h' => KeepT Y G h h' ∧ GC h' G n ∧ TP (eH h (G + 1) n) n Y c x0 h') := by
    intro m
    induction m with
    | zero => intro K h0 z cs ns a b; omega
    | succ m ih =>
      intro K h0 z cs ns hK b hcs hns H k0 gc0 sK xK rK seen
      have hcK := (H.1 K (Nat.le_refl _)).1
      have hxK := (H.1 K (Nat.le_refl _)).2
      refine r_iload rfl dX1_travel_21 ?_
      refine r_sipush (v := nI 500) (by decide) dX1_travel_23 ?_
      refine r_icmp_gt 105 dX1_travel_26 (by decide) (fun c_26 => ?_) (fun c_26 => ?_)
      · refine ret_v dX1_travel_105 rfl ?_
        exact absurd c_26 (nI_nlt (by omega) (by omega))
      · refine r_aload_n rfl dX1_travel_29 ?_
        refine r_iload rfl dX1_travel_30 ?_
        refine r_putI fpX1_33 hY.1 rfl dX1_travel_32 ?_
        refine r_aload_n rfl dX1_travel_35 ?_
        refine r_aload_n rfl dX1_travel_36 ?_
        refine r_cV0i (T := TX1) (N := 7) moX1_where lkX1_36 hY.1 rfl (Nat.le_of_ble_eq_true rfl) ⟨by decide, by decide⟩ (Nat.le_of_ble_eq_true rfl) dX1_travel_37 rfl (c_where hY hn hcK (sK.keep (fun q a b => hset_ne (by omega))) hro (by rw [hset_same, upd_ne (by omega)]; exact xK)) (fun v1 h1 q1 => ?_)
        obtain ⟨e1, e1v⟩ := q1
        subst e1v
        rw [e1]
        refine r_iload rfl dX1_travel_40 ?_
        refine r_cV2i (T := TX1) (N := 7) moX1_firstSeen lkX1_40 hY.1 rfl (Nat.le_of_ble_eq_true rfl) ⟨by decide, by decide⟩ (Nat.le_of_ble_eq_true rfl) dX1_travel_42 rfl (c_firstSeen (ws := fun i => wh n (cs i) (ns i)) hY (by omega) (fun i hi => by rw [hset_ne (by omega)]; exact seen i hi) (fun i hi => wh_lt hn (H.1 i (by omega)).1 (H.1 i (by omega)).2) (wh_lt hn hcK hxK)) (fun v2 h2 q2 => ?_)
        obtain ⟨e2, hfs⟩ := q2
        rw [e2]
        refine r_ist5 rfl (by decide) dX1_travel_45 ?_
        refine r_iload rfl dX1_travel_47 ?_
        refine r_if_lt 62 dX1_travel_49 (by decide) (fun c_49 => ?_) (fun c_49 => ?_)
        · have hnew : ∀ i, i < K → ¬ wh n (cs i) (ns i) = wh n (cs K) (ns K) := by
            rcases hfs with ⟨b, hb1, hb2, hb3, hb4⟩ | ⟨hn1, hn2⟩
            · exact absurd (by rw [← hb4]; exact c_49) (nI_pos (n := b) (by omega))
            · exact hn1
          refine r_aload_n rfl dX1_travel_62 ?_
          refine r_getR foX1_18 hY.1 rfl dX1_travel_63 ?_
          refine r_iload rfl dX1_travel_66 ?_
          refine r_aload_n rfl dX1_travel_68 ?_
          refine r_cV0i (T := TX1) (N := 7) moX1_where lkX1_36 hY.1 rfl (Nat.le_of_ble_eq_true rfl) ⟨by decide, by decide⟩ (Nat.le_of_ble_eq_true rfl) dX1_travel_69 rfl (c_where hY hn hcK (sK.keep (fun q a b => hset_ne (by omega))) hro (by rw [hset_same, upd_ne (by omega)]; exact xK)) (fun v3 h3 q3 => ?_)
          obtain ⟨e3, e3v⟩ := q3
          subst e3v
          rw [e3]
          refine r_ias hY.2.2 rfl (by omega) (by decide) dX1_travel_72 ?_
          have kB : KeepT Y G h (hset (hset h0 Y 1 (nI K)) (Y + 4) K (nI (wh n (cs K) (ns K)))) := fun q a b => by rw [hset_ne (by omega), hset_ne (by omega)]; exact k0 q a b
          have eB : eH (hset (hset h0 Y 1 (nI K)) (Y + 4) K (nI (wh n (cs K) (ns K)))) (G + 1) n = eH h (G + 1) n := eH_keep (fun q a b => kB q (by omega) (by omega))
          have jB : JI g (hset (hset h0 Y 1 (nI K)) (Y + 4) K (nI (wh n (cs K) (ns K)))) G n := ⟨hro, hn, by rw [kB _ (by omega) (by omega)]; exact j.2.2.1, by rw [eB]; exact j.2.2.2.1, gc0.keep (fun q a b => by rw [hset_ne (by omega), hset_ne (by omega)])⟩
          have sB : PS (hset (hset h0 Y 1 (nI K)) (Y + 4) K (nI (wh n (cs K) (ns K)))) (Y + 1) n (cs K) := sK.keep (fun q a b => by rw [hset_ne (by omega), hset_ne (by omega)])
          have xB : hset (hset h0 Y 1 (nI K)) (Y + 4) K (nI (wh n (cs K) (ns K))) Y 3 = nI (ns K) := by rw [hset_ne (by omega), hset_same, upd_ne (by omega)]; exact xK
          have gB : hset (hset h0 Y 1 (nI K)) (Y + 4) K (nI (wh n (cs K) (ns K))) Y 1 = nI K := by rw [hset_ne (by omega), hset_same, upd_eq]
          have rB : hset (hset h0 Y 1 (nI K)) (Y + 4) K (nI (wh n (cs K) (ns K))) Y 2 = -1 := by rw [hset_ne (by omega), hset_same, upd_ne (by omega)]; exact rK
          refine r_aload_n rfl dX1_travel_73 ?_
          refine r_aload_n rfl dX1_travel_74 ?_
          refine r_cV1i (T := TX1) (N := 7) moX1_findGoer lkX1_44 hY.1 rfl (Nat.le_of_ble_eq_true rfl) ⟨by decide, by decide⟩ (Nat.le_of_ble_eq_true rfl) dX1_travel_75 rfl (c_findGoer hY hJ hYG jB hcK sB hxK xB) (fun v4 h4 q4 => ?_)
          obtain ⟨k4, g4, r4⟩ := q4
          rw [eB] at r4
          refine r_if_ne 87 dX1_travel_78 (by decide) (fun c_78 => ?_) (fun c_78 => ?_)
          · obtain ⟨l4, gl4, hl1, hl2, hl4, hl5⟩ : ∃ l gl, fgF (eH h (G + 1) n) (lab (cs K)) (mx (cs K) n) n (ns K) = some (l, gl) ∧ l < n ∧ h4 Y 4 = nI l ∧ h4 Y 5 = gl := by
              rcases r4 with ⟨hf, hv⟩ | ⟨l4, gl4, hl1, hl2, hl3, hl4, hl5⟩
              · exact absurd hv c_78
              · exact ⟨l4, gl4, hl1, hl2, hl4, hl5⟩
            refine r_iload rfl dX1_travel_87 ?_
            refine r_sipush (v := nI 500) (by decide) dX1_travel_89 ?_
            refine r_icmp_ge 99 dX1_travel_92 (by decide) (fun c_92 => ?_) (fun c_92 => ?_)
            · first | refine r_incN4 rfl (by decide) dX1_travel_99 ?_ | refine r_incP4 rfl (by decide) dX1_travel_99 ?_
              refine r_goto 21 dX1_travel_102 (by decide) ?_
              first
                | (have hK5 : K < 500 := ge_n (by omega) c_92
                   refine ih (K + 1) _ _ (sx cs (K + 1) c5) (sx ns (K + 1) (bh n l4)) (by omega) (by omega) (by rw [sx_ne (by omega)]; exact hcs) (by rw [sx_ne (by omega)]; exact hns) (H.more hnew ⟨l4, gl4, hl1, hl2, hc5, rfl⟩ hc5.1 (bh_lt hl2)) (fun q a b => ?_) ?_ (by rw [sx_eq]; exact s5) (by rw [sx_eq]; exact n5) ?_ (fun i hi => ?_)
                   · rw [k5 q (by omega) (by omega), k4.1 q a (by omega)]; exact kB q a b
                   · exact g4.keep (fun q a b => k5 q (by omega) (by omega))
                   · rw [m5 2 (by omega), k4.2 2 (by omega) (by omega)]; exact rB
                   · rw [k5 _ (by omega) (by omega), k4.1 _ (by omega) (by omega), hset_same]
                     by_cases e : i = K
                     · subst e; rw [upd_eq, sx_ne (by omega), sx_ne (by omega)]
                     · rw [upd_ne e, sx_ne (by omega), sx_ne (by omega), hset_ne (by omega)]; exact seen i (by omega))
                | (refine fin _ (fun q a b => ?_) g4 ⟨K, cs, ns, hK, hcs, hns, H, ?_, k4.PS hYG sB, Or.inr ⟨hnew, Or.inr ⟨by have := ge_y (by omega) (by omega) c_92; omega, ⟨_, hl1⟩, ?_⟩⟩⟩ K (by have := ge_y (by omega) (by omega) c_92; omega)
                   · rw [k4.1 q a (by omega)]; exact kB q a b
                   · rw [k4.2 1 (by omega) (by omega)]; exact gB
                   · rw [k4.2 2 (by omega) (by omega)]; exact rB)
            · refine r_aload_n rfl dX1_travel_95 ?_
              refine r_cV0v (T := TX1) (N := 7) moX1_step lkX1_48 hY.1 rfl (Nat.le_of_ble_eq_true rfl) ⟨by decide, by decide⟩ (Nat.le_of_ble_eq_true rfl) dX1_travel_96 rfl (c_step hY hn (k4.PS hYG sB) hl2 hl4 hl5) (fun h5 q5 => ?_)
              obtain ⟨k5, m5, n5, c5, hc5, s5⟩ := q5
              first | refine r_incN4 rfl (by decide) dX1_travel_99 ?_ | refine r_incP4 rfl (by decide) dX1_travel_99 ?_
              refine r_goto 21 dX1_travel_102 (by decide) ?_
              first
                | (have hK5 : K < 500 := ge_n (by omega) c_92
                   refine ih (K + 1) _ _ (sx cs (K + 1) c5) (sx ns (K + 1) (bh n l4)) (by omega) (by omega) (by rw [sx_ne (by omega)]; exact hcs) (by rw [sx_ne (by omega)]; exact hns) (H.more hnew ⟨l4, gl4, hl1, hl2, hc5, rfl⟩ hc5.1 (bh_lt hl2)) (fun q a b => ?_) ?_ (by rw [sx_eq]; exact s5) (by rw [sx_eq]; exact n5) ?_ (fun i hi => ?_)
                   · rw [k5 q (by omega) (by omega), k4.1 q a (by omega)]; exact kB q a b
                   · exact g4.keep (fun q a b => k5 q (by omega) (by omega))
                   · rw [m5 2 (by omega), k4.2 2 (by omega) (by omega)]; exact rB
                   · rw [k5 _ (by omega) (by omega), k4.1 _ (by omega) (by omega), hset_same]
                     by_cases e : i = K
                     · subst e; rw [upd_eq, sx_ne (by omega), sx_ne (by omega)]
                     · rw [upd_ne e, sx_ne (by omega), sx_ne (by omega), hset_ne (by omega)]; exact seen i (by omega))
                | (refine fin _ (fun q a b => ?_) g4 ⟨K, cs, ns, hK, hcs, hns, H, ?_, k4.PS hYG sB, Or.inr ⟨hnew, Or.inr ⟨by have := ge_y (by omega) (by omega) c_92; omega, ⟨_, hl1⟩, ?_⟩⟩⟩ K (by have := ge_y (by omega) (by omega) c_92; omega)
                   · rw [k4.1 q a (by omega)]; exact kB q a b
                   · rw [k4.2 1 (by omega) (by omega)]; exact gB
                   · rw [k4.2 2 (by omega) (by omega)]; exact rB)
          · refine r_aload_n rfl dX1_travel_81 ?_
            refine r_iconst (v := (0 : Int32)) (by decide) dX1_travel_82 ?_
            refine r_putI fpX1_30 hY.1 rfl dX1_travel_83 ?_
            refine ret_v dX1_travel_86 rfl ?_
            refine ⟨fun q a b => ?_, g4.keep (fun q a b => hset_ne (by omega)), K, cs, ns, hK, hcs, hns, H, ?_, (k4.PS hYG sB).keep (fun q a b => hset_ne (by omega)), ?_⟩
            · rw [hset_ne (by omega), k4.1 q a (by omega)]; exact kB q a b
            · rw [hset_same, upd_ne (by omega), k4.2 1 (by omega) (by omega)]; exact gB
            · rcases r4 with ⟨hf, hv⟩ | ⟨l4, gl4, hl1, hl2, hl3, hl4, hl5⟩
              · exact Or.inr ⟨hnew, Or.inl ⟨hf, by rw [hset_same, upd_eq]⟩⟩
              · exact absurd (hl3.symm.trans c_78) (by decide)
        · refine r_aload_n rfl dX1_travel_52 ?_
          skip
          refine r_iload rfl dX1_travel_53 ?_
          refine r_iload rfl dX1_travel_55 ?_
          refine r_isub dX1_travel_57 ?_
          refine r_putI fpX1_30 hY.1 rfl dX1_travel_58 ?_
          refine ret_v dX1_travel_61 rfl ?_
          refine ⟨fun q a b => ?_, gc0.keep (fun q a b => by rw [hset_ne (by omega), hset_ne (by omega)]), K, cs, ns, hK, hcs, hns, H, ?_, sK.keep (fun q a b => by rw [hset_ne (by omega), hset_ne (by omega)]), ?_⟩
          · rw [hset_ne (by omega), hset_ne (by omega)]; exact k0 q a b
          · rw [hset_same, upd_ne (by omega), hset_same, upd_eq]
          · rcases hfs with ⟨b, hb1, hb2, hb3, hb4⟩ | ⟨hn1, hn2⟩
            · exact Or.inl ⟨b, hb1, hb2, hb3, by rw [hset_same, upd_eq, hb4]⟩
            · exact absurd (by rw [hn2]; decide) c_49
  refine r_aload_n rfl dX1_travel_0 ?_
  refine r_getR foX1_12 hY.1 rfl dX1_travel_1 ?_
  refine r_aload_n rfl dX1_travel_4 ?_
  refine r_cV1v (T := TX6) (N := 4) moX6_copy lkX1_22 hY.2.1.1 rfl (Nat.le_of_ble_eq_true rfl) ⟨by decide, by decide⟩ (Nat.le_of_ble_eq_true rfl) dX1_travel_5 rfl (c_copyP (n := n) (c := c) hY.2.1 hP (by omega) hn hs) (fun h1 q1 => ?_)
  obtain ⟨kc, sc⟩ := q1
  refine r_aload_n rfl dX1_travel_8 ?_
  refine r_iload_n rfl dX1_travel_9 ?_
  refine r_putI fpX1_26 hY.1 rfl dX1_travel_10 ?_
  refine r_aload_n rfl dX1_travel_13 ?_
  refine r_iconst (v := (-1 : Int32)) (by decide) dX1_travel_14 ?_
  refine r_putI fpX1_30 hY.1 rfl dX1_travel_15 ?_
  refine r_iconst (v := nI 0) (by decide) dX1_travel_18 ?_
  refine r_ist4 rfl (by decide) dX1_travel_19 ?_
  refine loop 502 0 _ _ (fun _ => c) (fun _ => x0) (by omega) (by omega) rfl rfl ⟨fun i hi => ⟨hc, hx0⟩, fun i hi => by omega, fun i hi => by omega⟩ (fun q a b => ?_) ?_ (sc.keep (fun q a b => by rw [hset_ne (by omega), hset_ne (by omega)])) ?_ ?_ (fun i hi => by omega)
  · rw [hset_ne (by omega), hset_ne (by omega)]; exact kc q (by omega) (by omega) (by omega)
  · exact j.2.2.2.2.keep (fun q a b => by rw [hset_ne (by omega), hset_ne (by omega)]; exact kc q (by omega) (by omega) (by omega))
  · rw [hset_same, upd_ne (by omega), hset_same, upd_eq]
  · rw [hset_same, upd_eq]

