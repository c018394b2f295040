def JudgeAt (J G : Nat) : Prop := shl[J]? = some (.inr (2, [some G, some (G + 1), some (G + 15)])) ∧ GoodAt G ∧ PartAt (G + 15)
def JI (g : GG) (h : Hp) (G n : Nat) : Prop := ROv g ∧ n ≤ 6 ∧ h (G + 1) 0 = nI n ∧ EOK (eH h (G + 1) n) ∧ GC h G n
abbrev lab (c : Nat → Nat) : Nat → Int32 := fun j => nI (c j)
theorem GC.keep {h h' : Hp} {G n : Nat} (H : GC h G n) (hk : ∀ q, G ≤ q → q < G + 15 → h' q = h q) : GC h' G n := by
  obtain ⟨ver, g1, g2, g3, g4, g5⟩ := H
  have e := eH_keep (h := h) (h1 := h') (L := G + 1) (n := n) (fun q a b => hk q (by omega) (by omega))
  refine ⟨ver, by rw [hk (G + 1) (by omega) (by omega)]; exact g1, g2, g3, fun p hp => by rw [hk (G + 13) (by omega) (by omega)]; exact g4 p hp, fun c hc he l hl => ?_⟩
  rw [hk (G + 13) (by omega) (by omega)] at he
  rw [hk (G + 14) (by omega) (by omega), e]
  exact g5 c hc he l hl
theorem JI.keep {g : GG} {h h' : Hp} {G n : Nat} (j : JI g h G n) (hk : ∀ q, G ≤ q → q < G + 15 → h' q = h q) : JI g h' G n := by
  obtain ⟨a, b, c, d, e⟩ := j
  exact ⟨a, b, by rw [hk _ (by omega) (by omega)]; exact c, by rw [eH_keep (h := h) (fun q a b => hk q (by omega) (by omega))]; exact d, e.keep hk⟩
theorem JI.row {g : GG} {h h' : Hp} {G n : Nat} (j : JI g h G n) (hk : KeepG G h h') (hg : GC h' G n) : JI g h' G n := by
  obtain ⟨a, b, c, d, e⟩ := j
  exact ⟨a, b, by rw [hk _ (by omega)]; exact c, by rw [hk.eH]; exact d, hg⟩
theorem PS.keep {h h' : Hp} {P n : Nat} {c : Nat → Nat} (s : PS h P n c) (hk : ∀ q, P ≤ q → q < P + 2 → h' q = h q) : PS h' P n c := by
  obtain ⟨a, b, d⟩ := s
  exact ⟨by rw [hk P (by omega) (by omega)]; exact a, by rw [hk P (by omega) (by omega)]; exact b, fun l hl => by rw [hk (P + 1) (by omega) (by omega)]; exact d l hl⟩
theorem good_can {E : Ec} {r : Nat → Int32} {c : Nat → Nat} {l : Nat} (hn : eN E ≤ 6) (h : CanOf (eN E) r c) (hl : l < eN E) : goodS E (lab c) l = goodS E r l :=
  goodS_pat (EcEq.refl E) (fun i j a b => by rw [← h.2 i j a b]; exact nI_eq (by have := h.1.le a; omega) (by have := h.1.le b; omega)) hl
theorem good_canH {h : Hp} {L n : Nat} {r : Nat → Int32} {c : Nat → Nat} {l : Nat} (hn : n ≤ 6) (hc : CanOf n r c) (hl : l < n) : goodS (eH h L n) (lab c) l = goodS (eH h L n) r l := good_can (E := eH h L n) hn hc hl
def KeepJ (G : Nat) (h h' : Hp) : Prop := ∀ q, ¬ (G + 6 < q ∧ q ≤ G + 17) → h' q = h q
theorem KeepJ.refl {G : Nat} {h : Hp} : KeepJ G h h := fun _ _ => rfl
theorem KeepJ.trans {G : Nat} {h h1 h2 : Hp} (a : KeepJ G h h1) (b : KeepJ G h1 h2) : KeepJ G h h2 := fun q x => (b q x).trans (a q x)
theorem KeepJ.eH {G n : Nat} {h h' : Hp} (H : KeepJ G h h') : eH h' (G + 1) n = eH h (G + 1) n := eH_keep (fun q a b => H q (by omega))
theorem KeepJ.PS {G P n : Nat} {h h' : Hp} {c : Nat → Nat} (H : KeepJ G h h') (hd : G + 18 ≤ P ∨ P + 3 ≤ G) (s : PS h P n c) : PS h' P n c := s.keep (fun q a b => H q (by omega))
theorem KeepJ.JI {g : GG} {G n : Nat} {h h' : Hp} (H : KeepJ G h h') (j : JI g h G n) (k : GC h' G n) : JI g h' G n := ⟨j.1, j.2.1, by rw [H _ (by omega)]; exact j.2.2.1, by rw [H.eH]; exact j.2.2.2.1, k⟩
/-! goods behind a leaving, a going, a gathering -/
def gLv (E : Ec) (r : Nat → Int32) (k : Nat) : Int32 := goodS E (upd r k (-1)) k - goodS E r k
abbrev nLess (E : Ec) (r : Nat → Int32) (k : Nat) (u : Int32) : Prop := ∀ l, l < eN E → r l = u → goodS E r l ≤ goodS E (upd r k u) l
def gJ (E : Ec) (r : Nat → Int32) (k : Nat) (u : Int32) : Int32 := if nLess E r k u then goodS E (upd r k u) k - goodS E r k else 0
abbrev gath (r : Nat → Int32) (s : Int32) : Nat → Int32 := fun j => if bt s j then -1 else r j
abbrev allG (E : Ec) (r : Nat → Int32) (s : Int32) : Prop := ∀ l, l < eN E → bt s l → goodS E r l < goodS E (gath r s) l

theorem upd_lab {f : Nat → Int32} {c : Nat → Nat} {n k i : Nat} {x : Int32} (h : ∀ l, l < n → f l = nI (c l)) (hi : i < n) : upd f k x i = upd (lab c) k x i := by
  by_cases e : i = k
  · subst e; rw [upd_eq, upd_eq]
  · rw [upd_ne e, upd_ne e]; exact h i hi
theorem gath_lab {f : Nat → Int32} {c : Nat → Nat} {n i : Nat} {s : Int32} (h : ∀ l, l < n → f l = nI (c l)) (hi : i < n) : (if bt s i then -1 else f i) = gath (lab c) s i := by
  show _ = if bt s i then -1 else nI (c i)
  rw [h i hi]

set_option maxRecDepth 100000 in
set_option maxHeartbeats 4000000 in
theorem c_gainByLeaving {g : GG} {J G P n k : Nat} {h : Hp} {c : Nat → Nat} (hJ : JudgeAt J G) (hP : PartAt P) (hd : G + 18 ≤ P ∨ P + 3 ≤ G) (j : JI g h G n) (hc : Can n c) (hs : PS h P n c) (hk : k < n) : R g mX2_gainByLeaving 0 [some (.ref (ad g J)), some (.ref (ad g P)), some (.int (nI k))] [] h (Ri fun v h' => v = gLv (eH h (G + 1) n) (lab c) k ∧ KeepJ G h h' ∧ GC h' G n) := by
  refine r_aload_n rfl dX2_gainByLeaving_0 ?_
  refine r_getR foX2_26 hJ.1 rfl dX2_gainByLeaving_1 ?_
  refine r_aload_n rfl dX2_gainByLeaving_4 ?_
  refine r_cV1v (T := TX6) (N := 4) moX6_copy lkX2_30 hJ.2.2.1 rfl (Nat.le_of_ble_eq_true rfl) ⟨by decide, by decide⟩ (Nat.le_of_ble_eq_true rfl) dX2_gainByLeaving_5 rfl (c_copyP (n := n) (c := c) hJ.2.2 hP (by omega) j.2.1 hs) (fun h1 q1 => ?_)
  obtain ⟨k1, s1⟩ := q1
  refine r_aload_n rfl dX2_gainByLeaving_8 ?_
  refine r_getR foX2_26 hJ.1 rfl dX2_gainByLeaving_9 ?_
  refine r_iload_n rfl dX2_gainByLeaving_12 ?_
  refine r_cV1v (T := TX6) (N := 4) moX6_leave lkX2_34 hJ.2.2.1 rfl (Nat.le_of_ble_eq_true rfl) ⟨by decide, by decide⟩ (Nat.le_of_ble_eq_true rfl) dX2_gainByLeaving_13 rfl (c_leave (n := n) hJ.2.2 j.2.1 (by have := j.2.1; omega) s1.1) (fun h2 q2 => ?_)
  obtain ⟨k2, c2, hc2, s2⟩ := q2
  have hc2 : CanOf n (upd (lab c) k (-1)) c2 := hc2.congr (fun i hi => upd_lab s1.2.2 hi)
  have j2 : JI g h2 G n := j.keep (fun q a b => by rw [k2 q (by omega) (by omega) (by omega), k1 q (by omega) (by omega) (by omega)])
  have sp : PS h2 P n c := hs.keep (fun q a b => by rw [k2 q (by omega) (by omega) (by omega), k1 q (by omega) (by omega) (by omega)])
  refine r_aload_n rfl dX2_gainByLeaving_16 ?_
  refine r_getR foX2_12 hJ.1 rfl dX2_gainByLeaving_17 ?_
  refine r_aload_n rfl dX2_gainByLeaving_20 ?_
  refine r_getR foX2_12 hJ.1 rfl dX2_gainByLeaving_21 ?_
  refine r_aload_n rfl dX2_gainByLeaving_24 ?_
  refine r_getR foX2_26 hJ.1 rfl dX2_gainByLeaving_25 ?_
  refine r_cV1i (T := TX0) (N := 4) moX0_rowOf lkX2_38 hJ.2.1.1 rfl (Nat.le_of_ble_eq_true rfl) ⟨by decide, by decide⟩ (Nat.le_of_ble_eq_true rfl) dX2_gainByLeaving_28 rfl (c_rowOf hJ.2.1 hJ.2.2 (Or.inl (by omega)) j2.1 j2.2.1 j2.2.2.1 j2.2.2.2.1 hc2.1 s2 j2.2.2.2.2) (fun v3 h3 q3 => ?_)
  obtain ⟨e3, k3, g3, n3, m3⟩ := q3
  subst e3
  have j3 := j2.row k3 g3
  have sp3 : PS h3 P n c := sp.keep (fun q a b => k3 q (by omega))
  refine r_iload_n rfl dX2_gainByLeaving_31 ?_
  refine r_cV2i (T := TX0) (N := 4) moX0_at lkX2_42 hJ.2.1.1 rfl (Nat.le_of_ble_eq_true rfl) ⟨by decide, by decide⟩ (Nat.le_of_ble_eq_true rfl) dX2_gainByLeaving_32 rfl (c_at hJ.2.1 (plc_lt j.2.1 hc2.1) (by have := j.2.1; omega)) (fun v4 h4 q4 => ?_)
  obtain ⟨e4, f4⟩ := q4
  rw [e4, f4, g3.val hc2.1 n3 hk]
  refine r_aload_n rfl dX2_gainByLeaving_35 ?_
  refine r_getR foX2_12 hJ.1 rfl dX2_gainByLeaving_36 ?_
  refine r_aload_n rfl dX2_gainByLeaving_39 ?_
  refine r_getR foX2_12 hJ.1 rfl dX2_gainByLeaving_40 ?_
  refine r_aload_n rfl dX2_gainByLeaving_43 ?_
  refine r_cV1i (T := TX0) (N := 4) moX0_rowOf lkX2_38 hJ.2.1.1 rfl (Nat.le_of_ble_eq_true rfl) ⟨by decide, by decide⟩ (Nat.le_of_ble_eq_true rfl) dX2_gainByLeaving_44 rfl (c_rowOf hJ.2.1 hP (by omega) j3.1 j3.2.1 j3.2.2.1 j3.2.2.2.1 hc sp3 j3.2.2.2.2) (fun v5 h5 q5 => ?_)
  obtain ⟨e5, k5, g5, n5, m5⟩ := q5
  subst e5
  refine r_iload_n rfl dX2_gainByLeaving_47 ?_
  refine r_cV2i (T := TX0) (N := 4) moX0_at lkX2_42 hJ.2.1.1 rfl (Nat.le_of_ble_eq_true rfl) ⟨by decide, by decide⟩ (Nat.le_of_ble_eq_true rfl) dX2_gainByLeaving_48 rfl (c_at hJ.2.1 (plc_lt j.2.1 hc) (by have := j.2.1; omega)) (fun v6 h6 q6 => ?_)
  obtain ⟨e6, f6⟩ := q6
  rw [e6, f6, g5.val hc n5 hk]
  refine r_isub dX2_gainByLeaving_51 ?_
  refine ret_i dX2_gainByLeaving_52 rfl ?_
  have eE3 : eH h3 (G + 1) n = eH h (G + 1) n := eH_keep (fun q a b => by rw [k3 q (by omega), k2 q (by omega) (by omega) (by omega), k1 q (by omega) (by omega) (by omega)])
  have eE5 : eH h5 (G + 1) n = eH h (G + 1) n := by rw [k5.eH, eE3]
  refine ⟨?_, fun q a => ?_, g5⟩
  · rw [eE3, eE5, gLv, good_canH j.2.1 hc2 hk]
  · rw [k5 q (by omega), k3 q (by omega), k2 q (by omega) (by omega) (by omega), k1 q (by omega) (by omega) (by omega)]

set_option maxRecDepth 100000 in
set_option maxHeartbeats 4000000 in
theorem c_goodGathered {g : GG} {J G P n k : Nat} {s : Int32} {h : Hp} {c : Nat → Nat} (hJ : JudgeAt J G) (hP : PartAt P) (hd : G + 18 ≤ P ∨ P + 3 ≤ G) (j : JI g h G n) (hc : Can n c) (hs : PS h P n c) (hk : k < n) : R g mX2_goodGathered 0 [some (.ref (ad g J)), some (.ref (ad g P)), some (.int s), some (.int (nI k))] [] h (Ri fun v h' => v = goodS (eH h (G + 1) n) (gath (lab c) s) k ∧ KeepJ G h h' ∧ GC h' G n) := by
  refine r_aload_n rfl dX2_goodGathered_0 ?_
  refine r_getR foX2_26 hJ.1 rfl dX2_goodGathered_1 ?_
  refine r_aload_n rfl dX2_goodGathered_4 ?_
  refine r_cV1v (T := TX6) (N := 4) moX6_copy lkX2_30 hJ.2.2.1 rfl (Nat.le_of_ble_eq_true rfl) ⟨by decide, by decide⟩ (Nat.le_of_ble_eq_true rfl) dX2_goodGathered_5 rfl (c_copyP (n := n) (c := c) hJ.2.2 hP (by omega) j.2.1 hs) (fun h1 q1 => ?_)
  obtain ⟨k1, s1⟩ := q1
  refine r_aload_n rfl dX2_goodGathered_8 ?_
  refine r_getR foX2_26 hJ.1 rfl dX2_goodGathered_9 ?_
  refine r_iload_n rfl dX2_goodGathered_12 ?_
  refine r_cV1v (T := TX6) (N := 4) moX6_gather lkX2_60 hJ.2.2.1 rfl (Nat.le_of_ble_eq_true rfl) ⟨by decide, by decide⟩ (Nat.le_of_ble_eq_true rfl) dX2_goodGathered_13 rfl (c_gather (n := n) (s := s) hJ.2.2 j.2.1 s1.1) (fun h2 q2 => ?_)
  obtain ⟨k2, c2, hc2, s2⟩ := q2
  have hc2 : CanOf n (gath (lab c) s) c2 := hc2.congr (fun i hi => gath_lab s1.2.2 hi)
  have j2 : JI g h2 G n := j.keep (fun q a b => by rw [k2 q (by omega) (by omega) (by omega), k1 q (by omega) (by omega) (by omega)])
  have sp : PS h2 P n c := hs.keep (fun q a b => by rw [k2 q (by omega) (by omega) (by omega), k1 q (by omega) (by omega) (by omega)])
  refine r_aload_n rfl dX2_goodGathered_16 ?_
  refine r_getR foX2_12 hJ.1 rfl dX2_goodGathered_17 ?_
  refine r_aload_n rfl dX2_goodGathered_20 ?_
  refine r_getR foX2_12 hJ.1 rfl dX2_goodGathered_21 ?_
  refine r_aload_n rfl dX2_goodGathered_24 ?_
  refine r_getR foX2_26 hJ.1 rfl dX2_goodGathered_25 ?_
  refine r_cV1i (T := TX0) (N := 4) moX0_rowOf lkX2_38 hJ.2.1.1 rfl (Nat.le_of_ble_eq_true rfl) ⟨by decide, by decide⟩ (Nat.le_of_ble_eq_true rfl) dX2_goodGathered_28 rfl (c_rowOf hJ.2.1 hJ.2.2 (Or.inl (by omega)) j2.1 j2.2.1 j2.2.2.1 j2.2.2.2.1 hc2.1 s2 j2.2.2.2.2) (fun v3 h3 q3 => ?_)
  obtain ⟨e3, k3, g3, n3, m3⟩ := q3
  subst e3
  refine r_iload_n rfl dX2_goodGathered_31 ?_
  refine r_cV2i (T := TX0) (N := 4) moX0_at lkX2_42 hJ.2.1.1 rfl (Nat.le_of_ble_eq_true rfl) ⟨by decide, by decide⟩ (Nat.le_of_ble_eq_true rfl) dX2_goodGathered_32 rfl (c_at hJ.2.1 (plc_lt j.2.1 hc2.1) (by have := j.2.1; omega)) (fun v4 h4 q4 => ?_)
  obtain ⟨e4, f4⟩ := q4
  rw [e4, f4, g3.val hc2.1 n3 hk]
  refine ret_i dX2_goodGathered_35 rfl ?_
  have eE3 : eH h3 (G + 1) n = eH h (G + 1) n := eH_keep (fun q a b => by rw [k3 q (by omega), k2 q (by omega) (by omega) (by omega), k1 q (by omega) (by omega) (by omega)])
  refine ⟨?_, fun q a => ?_, g3⟩
  · rw [eE3, good_canH j.2.1 hc2 hk]
  · rw [k3 q (by omega), k2 q (by omega) (by omega) (by omega), k1 q (by omega) (by omega) (by omega)]

set_option maxRecDepth 100000 in
set_option maxHeartbeats 4000000 in
theorem c_wouldAllGain {g : GG} {J G P n : Nat} {s : Int32} {h : Hp} {c : Nat → Nat} (hJ : JudgeAt J G) (hP : PartAt P) (hd : G + 18 ≤ P ∨ P + 3 ≤ G) (j : JI g h G n) (hc : Can n c) (hs : PS h P n c) : R g mX2_wouldAllGain 0 [some (.ref (ad g J)), some (.ref (ad g P)), some (.int s), none, none, none] [] h (Ri fun v h' => v = (if allG (eH h (G + 1) n) (lab c) s then 1 else 0) ∧ KeepJ G h h' ∧ GC h' G n) := by
  have loop : ∀ (h5 : Hp) (c2 : Nat → Nat), CanOf n (gath (lab c) s) c2 → KeepJ G h h5 → GC h5 G n → Kn h5 G n c → Kn h5 G n c2 → ∀ (m l : Nat), l ≤ n → n < l + m → (∀ i, i < l → bt s i → goodS (eH h (G + 1) n) (lab c) i < goodS (eH h (G + 1) n) (gath (lab c) s) i) → R g mX2_wouldAllGain 41 [some (.ref (ad g J)), some (.ref (ad g P)), some (.int s), some (.int (nI (plc n c n * 6))), some (.int (nI (plc n c2 n * 6))), some (.int (nI l))] [] h5 (Ri fun v h' => v = (if allG (eH h (G + 1) n) (lab c) s then 1 else 0) ∧ KeepJ G h h' ∧ GC h' G n) := by
    intro h5 c2 hc2 k5 g5 m5 n5 m
    have hn6 := j.2.1
    induction m with
    | zero => intro l a b; omega
    | succ m ih =>
      intro l a b hinv
      refine r_iload rfl dX2_wouldAllGain_41 ?_
      refine r_aload_n rfl dX2_wouldAllGain_43 ?_
      refine r_getR foX2_22 hJ.1 rfl dX2_wouldAllGain_44 ?_
      refine r_getI foX2_50 hJ.2.1.2.1.1 rfl dX2_wouldAllGain_47 ?_
      refine r_icmp_ge 95 dX2_wouldAllGain_50 (by decide) (fun c_50 => ?_) (fun c_50 => ?_)
      · refine r_iconst (v := (1 : Int32)) (by decide) dX2_wouldAllGain_95 ?_
        refine ret_z dX2_wouldAllGain_96 rfl (by decide) ?_
        rw [k5 (G + 1) (by omega), j.2.2.1] at c_50
        have e : l = n := by have := ge_y (by have := j.2.1; omega) (by have := j.2.1; omega) c_50; omega
        subst e
        exact ⟨(if_pos hinv).symm, k5, g5⟩
      · rw [k5 (G + 1) (by omega), j.2.2.1] at c_50
        have hlk : l < n := ge_n (by have := j.2.1; omega) c_50
        refine r_iload_n rfl dX2_wouldAllGain_53 ?_
        refine r_iload rfl dX2_wouldAllGain_54 ?_
        refine r_ishr dX2_wouldAllGain_56 ?_
        refine r_iconst (v := (1 : Int32)) (by decide) dX2_wouldAllGain_57 ?_
        refine r_iand dX2_wouldAllGain_58 ?_
        refine r_iconst (v := (1 : Int32)) (by decide) dX2_wouldAllGain_59 ?_
        refine r_icmp_ne 89 dX2_wouldAllGain_60 (by decide) (fun c_60 => ?_) (fun c_60 => ?_)
        · first | refine r_incN5 rfl (by decide) dX2_wouldAllGain_89 ?_ | refine r_incP5 rfl (by decide) dX2_wouldAllGain_89 ?_
          refine r_goto 41 dX2_wouldAllGain_92 (by decide) ?_
          refine ih (l + 1) (by omega) (by omega) (fun i hi => ?_)
          by_cases e : i = l
          · subst e
            first
              | (rw [k5.eH, good_canH j.2.1 hc2 hlk] at c_84; exact fun _ => c_84)
              | exact fun q => absurd q c_60
          · exact hinv i (by omega)
        · refine r_aload_n rfl dX2_wouldAllGain_63 ?_
          refine r_getR foX2_12 hJ.1 rfl dX2_wouldAllGain_64 ?_
          refine r_iload rfl dX2_wouldAllGain_67 ?_
          refine r_iload rfl dX2_wouldAllGain_69 ?_
          refine r_cV2i (T := TX0) (N := 4) moX0_at lkX2_42 hJ.2.1.1 rfl (Nat.le_of_ble_eq_true rfl) ⟨by decide, by decide⟩ (Nat.le_of_ble_eq_true rfl) dX2_wouldAllGain_71 rfl (c_at hJ.2.1 (plc_lt j.2.1 hc2.1) (by have := j.2.1; omega)) (fun v1 h1 q1 => ?_)
          obtain ⟨e1, f1⟩ := q1
          rw [e1, f1, g5.val hc2.1 n5 hlk]
          refine r_aload_n rfl dX2_wouldAllGain_74 ?_
          refine r_getR foX2_12 hJ.1 rfl dX2_wouldAllGain_75 ?_
          refine r_iload_n rfl dX2_wouldAllGain_78 ?_
          refine r_iload rfl dX2_wouldAllGain_79 ?_
          refine r_cV2i (T := TX0) (N := 4) moX0_at lkX2_42 hJ.2.1.1 rfl (Nat.le_of_ble_eq_true rfl) ⟨by decide, by decide⟩ (Nat.le_of_ble_eq_true rfl) dX2_wouldAllGain_81 rfl (c_at hJ.2.1 (plc_lt j.2.1 hc) (by have := j.2.1; omega)) (fun v2 h2 q2 => ?_)
          obtain ⟨e2, f2⟩ := q2
          rw [e2, f2, g5.val hc m5 hlk]
          refine r_icmp_gt 89 dX2_wouldAllGain_84 (by decide) (fun c_84 => ?_) (fun c_84 => ?_)
          · first | refine r_incN5 rfl (by decide) dX2_wouldAllGain_89 ?_ | refine r_incP5 rfl (by decide) dX2_wouldAllGain_89 ?_
            refine r_goto 41 dX2_wouldAllGain_92 (by decide) ?_
            refine ih (l + 1) (by omega) (by omega) (fun i hi => ?_)
            by_cases e : i = l
            · subst e
              first
                | (rw [k5.eH, good_canH j.2.1 hc2 hlk] at c_84; exact fun _ => c_84)
                | exact fun q => absurd q c_60
            · exact hinv i (by omega)
          · refine r_iconst (v := (0 : Int32)) (by decide) dX2_wouldAllGain_87 ?_
            refine ret_z dX2_wouldAllGain_88 rfl (by decide) ?_
            refine ⟨(if_neg (fun q => ?_)).symm, k5, g5⟩
            rw [k5.eH, good_canH j.2.1 hc2 hlk] at c_84
            exact c_84 (q l hlk (Decidable.byContradiction fun z => by first | exact z c_60 | exact c_60 z))
  refine r_aload_n rfl dX2_wouldAllGain_0 ?_
  refine r_getR foX2_26 hJ.1 rfl dX2_wouldAllGain_1 ?_
  refine r_aload_n rfl dX2_wouldAllGain_4 ?_
  refine r_cV1v (T := TX6) (N := 4) moX6_copy lkX2_30 hJ.2.2.1 rfl (Nat.le_of_ble_eq_true rfl) ⟨by decide, by decide⟩ (Nat.le_of_ble_eq_true rfl) dX2_wouldAllGain_5 rfl (c_copyP (n := n) (c := c) hJ.2.2 hP (by omega) j.2.1 hs) (fun h1 q1 => ?_)
  obtain ⟨k1, s1⟩ := q1
  refine r_aload_n rfl dX2_wouldAllGain_8 ?_
  refine r_getR foX2_26 hJ.1 rfl dX2_wouldAllGain_9 ?_
  refine r_iload_n rfl dX2_wouldAllGain_12 ?_
  refine r_cV1v (T := TX6) (N := 4) moX6_gather lkX2_60 hJ.2.2.1 rfl (Nat.le_of_ble_eq_true rfl) ⟨by decide, by decide⟩ (Nat.le_of_ble_eq_true rfl) dX2_wouldAllGain_13 rfl (c_gather (n := n) (s := s) hJ.2.2 j.2.1 s1.1) (fun h2 q2 => ?_)
  obtain ⟨k2, c2, hc2, s2⟩ := q2
  have hc2 : CanOf n (gath (lab c) s) c2 := hc2.congr (fun i hi => gath_lab s1.2.2 hi)
  have j2 : JI g h2 G n := j.keep (fun q a b => by rw [k2 q (by omega) (by omega) (by omega), k1 q (by omega) (by omega) (by omega)])
  have sp : PS h2 P n c := hs.keep (fun q a b => by rw [k2 q (by omega) (by omega) (by omega), k1 q (by omega) (by omega) (by omega)])
  refine r_aload_n rfl dX2_wouldAllGain_16 ?_
  refine r_getR foX2_12 hJ.1 rfl dX2_wouldAllGain_17 ?_
  refine r_aload_n rfl dX2_wouldAllGain_20 ?_
  refine r_cV1i (T := TX0) (N := 4) moX0_rowOf lkX2_38 hJ.2.1.1 rfl (Nat.le_of_ble_eq_true rfl) ⟨by decide, by decide⟩ (Nat.le_of_ble_eq_true rfl) dX2_wouldAllGain_21 rfl (c_rowOf hJ.2.1 hP (by omega) j2.1 j2.2.1 j2.2.2.1 j2.2.2.2.1 hc sp j2.2.2.2.2) (fun v3 h3 q3 => ?_)
  obtain ⟨e3, k3, g3, n3, m3⟩ := q3
  subst e3
  have j3 := j2.row k3 g3
  have s3 : PS h3 (G + 15) n c2 := s2.keep (fun q a b => k3 q (by omega))
  refine r_ist3 rfl (by decide) dX2_wouldAllGain_24 ?_
  refine r_aload_n rfl dX2_wouldAllGain_25 ?_
  refine r_getR foX2_12 hJ.1 rfl dX2_wouldAllGain_26 ?_
  refine r_aload_n rfl dX2_wouldAllGain_29 ?_
  refine r_getR foX2_26 hJ.1 rfl dX2_wouldAllGain_30 ?_
  refine r_cV1i (T := TX0) (N := 4) moX0_rowOf lkX2_38 hJ.2.1.1 rfl (Nat.le_of_ble_eq_true rfl) ⟨by decide, by decide⟩ (Nat.le_of_ble_eq_true rfl) dX2_wouldAllGain_33 rfl (c_rowOf hJ.2.1 hJ.2.2 (Or.inl (by omega)) j3.1 j3.2.1 j3.2.2.1 j3.2.2.2.1 hc2.1 s3 j3.2.2.2.2) (fun v4 h4 q4 => ?_)
  obtain ⟨e4, k4, g4, n4, m4⟩ := q4
  subst e4
  refine r_ist4 rfl (by decide) dX2_wouldAllGain_36 ?_
  refine r_iconst (v := nI 0) (by decide) dX2_wouldAllGain_38 ?_
  refine r_ist5 rfl (by decide) dX2_wouldAllGain_39 ?_
  refine loop h4 c2 hc2 (fun q a => ?_) g4 (m4 c hc n3) n4 (n + 1) 0 (by omega) (by omega) (fun i hi => by omega)
  rw [k4 q (by omega), k3 q (by omega), k2 q (by omega) (by omega) (by omega), k1 q (by omega) (by omega) (by omega)]

set_option maxRecDepth 100000 in
set_option maxHeartbeats 4000000 in
theorem c_gainByJoining {g : GG} {J G P n : Nat} {k : Nat} {u : Int32} {h : Hp} {c : Nat → Nat} (hJ : JudgeAt J G) (hP : PartAt P) (hd : G + 18 ≤ P ∨ P + 3 ≤ G) (j : JI g h G n) (hc : Can n c) (hs : PS h P n c) (hk : k < n) : R g mX2_gainByJoining 0 [some (.ref (ad g J)), some (.ref (ad g P)), some (.int (nI k)), some (.int u), none, none, none] [] h (Ri fun v h' => v = gJ (eH h (G + 1) n) (lab c) k u ∧ KeepJ G h h' ∧ GC h' G n) := by
  have loop : ∀ (h5 : Hp) (c2 : Nat → Nat), CanOf n (upd (lab c) k u) c2 → KeepJ G h h5 → GC h5 G n → Kn h5 G n c → Kn h5 G n c2 → ∀ (m l : Nat), l ≤ n → n < l + m → (∀ i, i < l → lab c i = u → goodS (eH h (G + 1) n) (lab c) i ≤ goodS (eH h (G + 1) n) (upd (lab c) k u) i) → R g mX2_gainByJoining 43 [some (.ref (ad g J)), some (.ref (ad g P)), some (.int (nI k)), some (.int u), some (.int (nI (plc n c n * 6))), some (.int (nI (plc n c2 n * 6))), some (.int (nI l))] [] h5 (Ri fun v h' => v = gJ (eH h (G + 1) n) (lab c) k u ∧ KeepJ G h h' ∧ GC h' G n) := by
    intro h5 c2 hc2 k5 g5 m5 n5 m
    have hn6 := j.2.1
    induction m with
    | zero => intro l a b; omega
    | succ m ih =>
      intro l a b hinv
      refine r_iload rfl dX2_gainByJoining_43 ?_
      refine r_aload_n rfl dX2_gainByJoining_45 ?_
      refine r_getR foX2_22 hJ.1 rfl dX2_gainByJoining_46 ?_
      refine r_getI foX2_50 hJ.2.1.2.1.1 rfl dX2_gainByJoining_49 ?_
      refine r_icmp_ge 99 dX2_gainByJoining_52 (by decide) (fun c_52 => ?_) (fun c_52 => ?_)
      · rw [k5 (G + 1) (by omega), j.2.2.1] at c_52
        have e : l = n := by have := ge_y (by have := j.2.1; omega) (by have := j.2.1; omega) c_52; omega
        subst e
        have hlk : k < l := hk
        refine r_aload_n rfl dX2_gainByJoining_99 ?_
        refine r_getR foX2_12 hJ.1 rfl dX2_gainByJoining_100 ?_
        refine r_iload rfl dX2_gainByJoining_103 ?_
        refine r_iload_n rfl dX2_gainByJoining_105 ?_
        refine r_cV2i (T := TX0) (N := 4) moX0_at lkX2_42 hJ.2.1.1 rfl (Nat.le_of_ble_eq_true rfl) ⟨by decide, by decide⟩ (Nat.le_of_ble_eq_true rfl) dX2_gainByJoining_106 rfl (c_at hJ.2.1 (plc_lt j.2.1 hc2.1) (by have := j.2.1; omega)) (fun v1 h1 q1 => ?_)
        obtain ⟨e1, f1⟩ := q1
        rw [e1, f1, g5.val hc2.1 n5 hlk]
        refine r_aload_n rfl dX2_gainByJoining_109 ?_
        refine r_getR foX2_12 hJ.1 rfl dX2_gainByJoining_110 ?_
        refine r_iload rfl dX2_gainByJoining_113 ?_
        refine r_iload_n rfl dX2_gainByJoining_115 ?_
        refine r_cV2i (T := TX0) (N := 4) moX0_at lkX2_42 hJ.2.1.1 rfl (Nat.le_of_ble_eq_true rfl) ⟨by decide, by decide⟩ (Nat.le_of_ble_eq_true rfl) dX2_gainByJoining_116 rfl (c_at hJ.2.1 (plc_lt j.2.1 hc) (by have := j.2.1; omega)) (fun v2 h2 q2 => ?_)
        obtain ⟨e2, f2⟩ := q2
        rw [e2, f2, g5.val hc m5 hlk]
        refine r_isub dX2_gainByJoining_119 ?_
        refine ret_i dX2_gainByJoining_120 rfl ?_
        refine ⟨?_, k5, g5⟩
        rw [k5.eH, good_canH j.2.1 hc2 hlk, gJ, if_pos (show nLess (eH h (G + 1) l) (lab c) k u from hinv)]
      · rw [k5 (G + 1) (by omega), j.2.2.1] at c_52
        have hlk : l < n := ge_n (by have := j.2.1; omega) c_52
        refine r_aload_n rfl dX2_gainByJoining_55 ?_
        refine r_getR foX2_56 hP.1 rfl dX2_gainByJoining_56 ?_
        refine r_iload rfl dX2_gainByJoining_59 ?_
        refine r_ild hP.2.1 rfl (by omega) (by decide) dX2_gainByJoining_61 ?_
        rw [(k5.PS hd hs).2.2 l hlk]
        refine r_iload_n rfl dX2_gainByJoining_62 ?_
        refine r_icmp_ne 93 dX2_gainByJoining_63 (by decide) (fun c_63 => ?_) (fun c_63 => ?_)
        · first | refine r_incN6 rfl (by decide) dX2_gainByJoining_93 ?_ | refine r_incP6 rfl (by decide) dX2_gainByJoining_93 ?_
          refine r_goto 43 dX2_gainByJoining_96 (by decide) ?_
          refine ih (l + 1) (by omega) (by omega) (fun i hi => ?_)
          by_cases e : i = l
          · subst e
            first
              | (rw [k5.eH, good_canH j.2.1 hc2 hlk] at c_88; exact fun _ => c_88)
              | exact fun q => absurd q c_63
          · exact hinv i (by omega)
        · refine r_aload_n rfl dX2_gainByJoining_66 ?_
          refine r_getR foX2_12 hJ.1 rfl dX2_gainByJoining_67 ?_
          refine r_iload rfl dX2_gainByJoining_70 ?_
          refine r_iload rfl dX2_gainByJoining_72 ?_
          refine r_cV2i (T := TX0) (N := 4) moX0_at lkX2_42 hJ.2.1.1 rfl (Nat.le_of_ble_eq_true rfl) ⟨by decide, by decide⟩ (Nat.le_of_ble_eq_true rfl) dX2_gainByJoining_74 rfl (c_at hJ.2.1 (plc_lt j.2.1 hc2.1) (by have := j.2.1; omega)) (fun v3 h3 q3 => ?_)
          obtain ⟨e3, f3⟩ := q3
          rw [e3, f3, g5.val hc2.1 n5 hlk]
          refine r_aload_n rfl dX2_gainByJoining_77 ?_
          refine r_getR foX2_12 hJ.1 rfl dX2_gainByJoining_78 ?_
          refine r_iload rfl dX2_gainByJoining_81 ?_
          refine r_iload rfl dX2_gainByJoining_83 ?_
          refine r_cV2i (T := TX0) (N := 4) moX0_at lkX2_42 hJ.2.1.1 rfl (Nat.le_of_ble_eq_true rfl) ⟨by decide, by decide⟩ (Nat.le_of_ble_eq_true rfl) dX2_gainByJoining_85 rfl (c_at hJ.2.1 (plc_lt j.2.1 hc) (by have := j.2.1; omega)) (fun v4 h4 q4 => ?_)
          obtain ⟨e4, f4⟩ := q4
          rw [e4, f4, g5.val hc m5 hlk]
          refine r_icmp_ge 93 dX2_gainByJoining_88 (by decide) (fun c_88 => ?_) (fun c_88 => ?_)
          · first | refine r_incN6 rfl (by decide) dX2_gainByJoining_93 ?_ | refine r_incP6 rfl (by decide) dX2_gainByJoining_93 ?_
            refine r_goto 43 dX2_gainByJoining_96 (by decide) ?_
            refine ih (l + 1) (by omega) (by omega) (fun i hi => ?_)
            by_cases e : i = l
            · subst e
              first
                | (rw [k5.eH, good_canH j.2.1 hc2 hlk] at c_88; exact fun _ => c_88)
                | exact fun q => absurd q c_63
            · exact hinv i (by omega)
          · refine r_iconst (v := (0 : Int32)) (by decide) dX2_gainByJoining_91 ?_
            refine ret_i dX2_gainByJoining_92 rfl ?_
            refine ⟨(if_neg (fun q => ?_)).symm, k5, g5⟩
            rw [k5.eH, good_canH j.2.1 hc2 hlk] at c_88
            exact c_88 (q l hlk (Decidable.byContradiction fun z => by first | exact z c_63 | exact c_63 z))
  refine r_aload_n rfl dX2_gainByJoining_0 ?_
  refine r_getR foX2_26 hJ.1 rfl dX2_gainByJoining_1 ?_
  refine r_aload_n rfl dX2_gainByJoining_4 ?_
  refine r_cV1v (T := TX6) (N := 4) moX6_copy lkX2_30 hJ.2.2.1 rfl (Nat.le_of_ble_eq_true rfl) ⟨by decide, by decide⟩ (Nat.le_of_ble_eq_true rfl) dX2_gainByJoining_5 rfl (c_copyP (n := n) (c := c) hJ.2.2 hP (by omega) j.2.1 hs) (fun h1 q1 => ?_)
  obtain ⟨k1, s1⟩ := q1
  refine r_aload_n rfl dX2_gainByJoining_8 ?_
  refine r_getR foX2_26 hJ.1 rfl dX2_gainByJoining_9 ?_
  refine r_iload_n rfl dX2_gainByJoining_12 ?_
  refine r_iload_n rfl dX2_gainByJoining_13 ?_
  refine r_cV2v (T := TX6) (N := 4) moX6_move lkX2_46 hJ.2.2.1 rfl (Nat.le_of_ble_eq_true rfl) ⟨by decide, by decide⟩ (Nat.le_of_ble_eq_true rfl) dX2_gainByJoining_14 rfl (c_move (n := n) (u := u) hJ.2.2 j.2.1 (by have := j.2.1; omega) s1.1) (fun h2 q2 => ?_)
  obtain ⟨k2, c2, hc2, s2⟩ := q2
  have hc2 : CanOf n (upd (lab c) k u) c2 := hc2.congr (fun i hi => upd_lab s1.2.2 hi)
  have j2 : JI g h2 G n := j.keep (fun q a b => by rw [k2 q (by omega) (by omega) (by omega), k1 q (by omega) (by omega) (by omega)])
  have sp : PS h2 P n c := hs.keep (fun q a b => by rw [k2 q (by omega) (by omega) (by omega), k1 q (by omega) (by omega) (by omega)])
  refine r_aload_n rfl dX2_gainByJoining_17 ?_
  refine r_getR foX2_12 hJ.1 rfl dX2_gainByJoining_18 ?_
  refine r_aload_n rfl dX2_gainByJoining_21 ?_
  refine r_cV1i (T := TX0) (N := 4) moX0_rowOf lkX2_38 hJ.2.1.1 rfl (Nat.le_of_ble_eq_true rfl) ⟨by decide, by decide⟩ (Nat.le_of_ble_eq_true rfl) dX2_gainByJoining_22 rfl (c_rowOf hJ.2.1 hP (by omega) j2.1 j2.2.1 j2.2.2.1 j2.2.2.2.1 hc sp j2.2.2.2.2) (fun v3 h3 q3 => ?_)
  obtain ⟨e3, k3, g3, n3, m3⟩ := q3
  subst e3
  have j3 := j2.row k3 g3
  have s3 : PS h3 (G + 15) n c2 := s2.keep (fun q a b => k3 q (by omega))
  refine r_ist4 rfl (by decide) dX2_gainByJoining_25 ?_
  refine r_aload_n rfl dX2_gainByJoining_27 ?_
  refine r_getR foX2_12 hJ.1 rfl dX2_gainByJoining_28 ?_
  refine r_aload_n rfl dX2_gainByJoining_31 ?_
  refine r_getR foX2_26 hJ.1 rfl dX2_gainByJoining_32 ?_
  refine r_cV1i (T := TX0) (N := 4) moX0_rowOf lkX2_38 hJ.2.1.1 rfl (Nat.le_of_ble_eq_true rfl) ⟨by decide, by decide⟩ (Nat.le_of_ble_eq_true rfl) dX2_gainByJoining_35 rfl (c_rowOf hJ.2.1 hJ.2.2 (Or.inl (by omega)) j3.1 j3.2.1 j3.2.2.1 j3.2.2.2.1 hc2.1 s3 j3.2.2.2.2) (fun v4 h4 q4 => ?_)
  obtain ⟨e4, k4, g4, n4, m4⟩ := q4
  subst e4
  refine r_ist5 rfl (by decide) dX2_gainByJoining_38 ?_
  refine r_iconst (v := nI 0) (by decide) dX2_gainByJoining_40 ?_
  refine r_ist6 rfl (by decide) dX2_gainByJoining_41 ?_
  refine loop h4 c2 hc2 (fun q a => ?_) g4 (m4 c hc n3) n4 (n + 1) 0 (by omega) (by omega) (fun i hi => by omega)
  rw [k4 q (by omega), k3 q (by omega), k2 q (by omega) (by omega) (by omega), k1 q (by omega) (by omega) (by omega)]

