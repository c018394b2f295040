/-- partings at rest: d from k on, f found so far; how many, or the land's union in the i-th -/
def rsF (p : Nat → Bool) (i : Int32) (val : Nat → Int32) : Nat → Nat → Nat → Int32
  | 0, _, f => if i = -1 then nI f else -6
  | d + 1, k, f => if p k = true then (if nI f = i then val k else rsF p i val d (k + 1) (f + 1)) else rsF p i val d (k + 1) f
def rsP (E : Ec) (n rest k : Nat) : Bool := decide (brk E (lab (rwN n k)) (mx (rwN n k) n) rest = -6)
def KeepO (h h' : Hp) : Prop := ∀ q, ¬ (8 < q ∧ q ≤ 19) → ¬ (40 ≤ q ∧ q ≤ 41) → ¬ (59 ≤ q ∧ q ≤ 61) → h' q = h q

set_option maxRecDepth 100000 in
set_option maxHeartbeats 400000 in
theorem c_rests {g : GG} {n m b : Nat} {y i x : Int32} {h : Hp} {c : Nat → Nat} (I : CI g h n c m b) : R g mX8_rests 0 [some (.ref (ad g 0)), some (.int y), some (.int i), some (.int x), none, none] [] h (Ri fun v h' => (¬ i = -1 ∧ isL n x = 0 ∧ v = -1 ∧ h' = h) ∨ ((i = -1 ∨ ¬ isL n x = 0) ∧ isL 3 y = 0 ∧ v = -2 ∧ h' = h) ∨ ∃ rest, rest < 3 ∧ y = nI rest ∧ (i = -1 ∨ ¬ isL n x = 0) ∧ v = rsF (rsP (eH h 3 n) n rest) i (fun k => nI (rwN n k x.toNatClampNeg)) (bell n) 0 0 ∧ CP g h h' n c m b (eH h 3 n) (h 55)) := by
  have hn6 := I.1.2.1
  have h0 : h 3 0 = nI n := I.1.2.2.1
  have hbl := bell_at I.1.1 hn6
  have hb2 := bell_le hn6
  have loop : ∀ rest, rest < 3 → (i = -1 ∨ ¬ isL n x = 0) → ∀ (z : Nat) (h1 : Hp) (d k f : Nat), k + d = bell n → d < z → f ≤ k → KeepO h h1 → GC h1 2 n → VC h1 39 2 n → PS h1 59 n (rwN n k) → R g mX8_rests 45 [some (.ref (ad g 0)), some (.int (nI rest)), some (.int i), some (.int x), some (.int (nI f)), some (.int (nI k))] [] h1 (Ri fun v h' => v = rsF (rsP (eH h 3 n) n rest) i (fun k => nI (rwN n k x.toNatClampNeg)) d k f ∧ CP g h h' n c m b (eH h 3 n) (h 55)) := by
    intro rest hr hx z
    induction z with
    | zero => intro h1 d k f a b; omega
    | succ z ih =>
      intro h1 d k f a b hf k1 g1 v1 s1
      have eE : eH h1 3 n = eH h 3 n := eH_keep (fun q a b => k1 q (by omega) (by omega) (by omega))
      have j1 : JI g h1 2 n := ⟨I.1.1, hn6, by rw [k1 _ (by omega) (by omega) (by omega)]; exact h0, by show EOK (eH h1 3 n); rw [eE]; exact I.1.2.2.2.1, g1⟩
      refine r_iload rfl dX8_rests_45 ?_
      refine r_PARTINGS fsX8_157 dX8_rests_47 ?_
      refine r_aload_n rfl dX8_rests_50 ?_
      refine r_getR foX8_23 rfl rfl dX8_rests_51 ?_
      refine r_getI foX8_73 rfl rfl dX8_rests_54 ?_
      rw [k1 3 (by omega) (by omega) (by omega), h0]
      refine r_irn (by decide) (by decide) rfl hbl.2 (by omega) dX8_rests_57 ?_
      rw [hbl.1]
      refine r_icmp_ge 114 dX8_rests_58 (by decide) (fun c_58 => ?_) (fun c_58 => ?_)
      · have e : k = bell n := by have := ge_y (by omega) (by omega) c_58; omega
        obtain rfl : d = 0 := by omega
        refine r_iload_n rfl dX8_rests_114 ?_
        refine r_iconst (v := (-1 : Int32)) (by decide) dX8_rests_115 ?_
        refine r_icmp_ne 124 dX8_rests_116 (by decide) (fun c_116 => ?_) (fun c_116 => ?_)
        · refine r_bipush (v := (-6 : Int32)) (by decide) dX8_rests_124 ?_
          refine ret_i dX8_rests_126 rfl ?_
          refine ⟨?_, CP.jud I (fun q a b d => k1 q a (by omega) d) g1 v1⟩
          first
            | rw [rsF, if_pos c_116]
            | rw [rsF, if_neg c_116]
        · refine r_iload rfl dX8_rests_119 ?_
          refine r_goto 126 dX8_rests_121 (by decide) ?_
          refine ret_i dX8_rests_126 rfl ?_
          refine ⟨?_, CP.jud I (fun q a b d => k1 q a (by omega) d) g1 v1⟩
          first
            | rw [rsF, if_pos c_116]
            | rw [rsF, if_neg c_116]
      · have hlk : k < bell n := ge_n (by omega) c_58
        obtain ⟨d, rfl⟩ : ∃ d', d = d' + 1 := ⟨d - 1, by omega⟩
        refine r_aload_n rfl dX8_rests_61 ?_
        refine r_getR foX8_32 rfl rfl dX8_rests_62 ?_
        refine r_aload_n rfl dX8_rests_65 ?_
        refine r_getR foX8_10 rfl rfl dX8_rests_66 ?_
        refine r_iload_n rfl dX8_rests_69 ?_
        refine r_aload_n rfl dX8_rests_70 ?_
        refine r_getR foX8_64 rfl rfl dX8_rests_71 ?_
        refine r_cV3i (T := TX7) (N := 2) moX7_firstBreaker lkX8_182 rfl rfl (Nat.le_of_ble_eq_true rfl) ⟨by decide, by decide⟩ (Nat.le_of_ble_eq_true rfl) dX8_rests_74 rfl (c_firstBreaker ve39 jd1 pa59 (Or.inl (by omega)) (Or.inl (by omega)) j1 (Can_rw n k) s1 hr v1) (fun v21 h21 q21 => ?_)
        have h2e : True := trivial
        obtain ⟨e21, kx, gx, vx⟩ := q21
        rw [show eH h1 (2 + 1) n = eH h 3 n from eE] at e21
        subst e21
        refine r_bipush (v := (-6 : Int32)) (by decide) dX8_rests_77 ?_
        refine r_icmp_ne 101 dX8_rests_79 (by decide) (fun c_79 => ?_) (fun c_79 => ?_)
        · refine r_aload_n rfl dX8_rests_101 ?_
          refine r_getR foX8_64 rfl rfl dX8_rests_102 ?_
          refine r_cV0v (T := TX6) (N := 4) moX6_advance lkX8_176 rfl rfl (Nat.le_of_ble_eq_true rfl) ⟨by decide, by decide⟩ (Nat.le_of_ble_eq_true rfl) dX8_rests_105 rfl (c_advance pa59 hn6 (Can_rw n k) (s1.keep (fun q a b => kx q (by omega) (by omega) (by omega)))) (fun h22 q22 => ?_)
          obtain ⟨ky, sy⟩ := q22
          have kz : KeepO h h22 := fun q a b d => by rw [ky q (by omega) (by omega) (by omega), kx q (by omega) (by omega) (by omega)]; exact k1 q a b d
          have gz := gx.keep (fun q a b => ky q (by omega) (by omega) (by omega))
          have vz := vx.keep (ky _ (by omega) (by omega) (by omega)) (ky _ (by omega) (by omega) (by omega)) (by rw [ky _ (by omega) (by omega) (by omega)]) (eH_keep (fun q a b => ky q (by omega) (by omega) (by omega)))
          first | refine r_incN5 rfl (by decide) dX8_rests_108 ?_ | refine r_incP5 rfl (by decide) dX8_rests_108 ?_
          refine r_goto 45 dX8_rests_111 (by decide) ?_
          first
            | (refine Ri.imp (ih _ d (k + 1) (f + 1) (by omega) (by omega) (by omega) kz gz vz sy) (fun v h' q => ⟨?_, q.2⟩)
               rw [q.1, rsF, if_pos (by simpa [rsP] using c_79), if_neg c_85])
            | (refine Ri.imp (ih _ d (k + 1) f (by omega) (by omega) (by omega) kz gz vz sy) (fun v h' q => ⟨?_, q.2⟩)
               rw [q.1, rsF, if_neg (by simpa [rsP] using c_79)])
        · refine r_iload rfl dX8_rests_82 ?_
          refine r_iload_n rfl dX8_rests_84 ?_
          refine r_icmp_ne 98 dX8_rests_85 (by decide) (fun c_85 => ?_) (fun c_85 => ?_)
          · first | refine r_incN4 rfl (by decide) dX8_rests_98 ?_ | refine r_incP4 rfl (by decide) dX8_rests_98 ?_
            refine r_aload_n rfl dX8_rests_101 ?_
            refine r_getR foX8_64 rfl rfl dX8_rests_102 ?_
            refine r_cV0v (T := TX6) (N := 4) moX6_advance lkX8_176 rfl rfl (Nat.le_of_ble_eq_true rfl) ⟨by decide, by decide⟩ (Nat.le_of_ble_eq_true rfl) dX8_rests_105 rfl (c_advance pa59 hn6 (Can_rw n k) (s1.keep (fun q a b => kx q (by omega) (by omega) (by omega)))) (fun h23 q23 => ?_)
            obtain ⟨ky, sy⟩ := q23
            have kz : KeepO h h23 := fun q a b d => by rw [ky q (by omega) (by omega) (by omega), kx q (by omega) (by omega) (by omega)]; exact k1 q a b d
            have gz := gx.keep (fun q a b => ky q (by omega) (by omega) (by omega))
            have vz := vx.keep (ky _ (by omega) (by omega) (by omega)) (ky _ (by omega) (by omega) (by omega)) (by rw [ky _ (by omega) (by omega) (by omega)]) (eH_keep (fun q a b => ky q (by omega) (by omega) (by omega)))
            first | refine r_incN5 rfl (by decide) dX8_rests_108 ?_ | refine r_incP5 rfl (by decide) dX8_rests_108 ?_
            refine r_goto 45 dX8_rests_111 (by decide) ?_
            first
              | (refine Ri.imp (ih _ d (k + 1) (f + 1) (by omega) (by omega) (by omega) kz gz vz sy) (fun v h' q => ⟨?_, q.2⟩)
                 rw [q.1, rsF, if_pos (by simpa [rsP] using c_79), if_neg c_85])
              | (refine Ri.imp (ih _ d (k + 1) f (by omega) (by omega) (by omega) kz gz vz sy) (fun v h' q => ⟨?_, q.2⟩)
                 rw [q.1, rsF, if_neg (by simpa [rsP] using c_79)])
          · obtain ⟨kl, hkl, ekl⟩ : ∃ kl, kl < n ∧ x = nI kl := by
              rcases hx with q | q
              · rw [q] at c_85
                exact absurd (c_85 ▸ nI_pos' (n := f) (by omega) : (0 : Int32) ≤ -1) (by decide)
              · exact isL_y (by omega) q
            refine r_aload_n rfl dX8_rests_88 ?_
            refine r_getR foX8_64 rfl rfl dX8_rests_89 ?_
            refine r_getR foX8_123 rfl rfl dX8_rests_92 ?_
            refine r_iload_n rfl dX8_rests_95 ?_
            refine r_ild rfl ekl (by omega) (by decide) dX8_rests_96 ?_
            rw [show h21 (59 + 1) kl = nI (rwN n k kl) from (s1.keep (fun q a b => kx q (by omega) (by omega) (by omega))).2.2 kl hkl]
            refine ret_i dX8_rests_97 rfl ?_
            refine ⟨?_, CP.jud I (fun q a b d => by rw [kx q (by omega) (by omega) (by omega)]; exact k1 q a (by omega) d) gx vx⟩
            rw [rsF, if_pos (by simpa [rsP] using c_79), if_pos c_85, ekl, nI_clamp (by omega)]
  refine r_iload_n rfl dX8_rests_0 ?_
  refine r_iconst (v := (-1 : Int32)) (by decide) dX8_rests_1 ?_
  refine r_icmp_eq 15 dX8_rests_2 (by decide) (fun c_2 => ?_) (fun c_2 => ?_)
  · refine r_iload_n rfl dX8_rests_15 ?_
    refine r_cS1i moX8_isRest lkX8_179 (Nat.le_of_ble_eq_true rfl) ⟨by decide, by decide⟩ (Nat.le_of_ble_eq_true rfl) dX8_rests_16 rfl (c_isRest (n := 0)) (fun v1 h1 q1 => ?_)
    obtain ⟨e1, f1⟩ := q1
    subst f1
    rw [e1]
    refine r_if_ne 25 dX8_rests_19 (by decide) (fun c_19 => ?_) (fun c_19 => ?_)
    · obtain ⟨rest, hr, rfl⟩ := isL_y (by omega) c_19
      refine r_iconst (v := nI 0) (by decide) dX8_rests_25 ?_
      refine r_ist4 rfl (by decide) dX8_rests_26 ?_
      refine r_aload_n rfl dX8_rests_28 ?_
      refine r_getR foX8_64 rfl rfl dX8_rests_29 ?_
      refine r_aload_n rfl dX8_rests_32 ?_
      refine r_getR foX8_23 rfl rfl dX8_rests_33 ?_
      refine r_getI foX8_73 rfl rfl dX8_rests_36 ?_
      rw [h0]
      refine r_cV1v (T := TX6) (N := 4) moX6_putAllTogether lkX8_168 rfl rfl (Nat.le_of_ble_eq_true rfl) ⟨by decide, by decide⟩ (Nat.le_of_ble_eq_true rfl) dX8_rests_39 rfl (c_putAllTogether pa59 hn6) (fun h2 q2 => ?_)
      obtain ⟨ky, sy⟩ := q2
      refine r_iconst (v := nI 0) (by decide) dX8_rests_42 ?_
      refine r_ist5 rfl (by decide) dX8_rests_43 ?_
      have hx : i = -1 ∨ ¬ isL n x = 0 := by first | exact Or.inl c_2 | exact Or.inr c_10
      refine Ri.imp (loop rest hr hx (bell n + 1) _ (bell n) 0 0 (by omega) (by omega) (by omega) (fun q a b d => ky q (by omega) (by omega) (by omega)) (I.1.2.2.2.2.keep (fun q a b => ky q (by omega) (by omega) (by omega))) (I.2.1.keep (ky _ (by omega) (by omega) (by omega)) (ky _ (by omega) (by omega) (by omega)) (by rw [ky _ (by omega) (by omega) (by omega)]) (eH_keep (fun q a b => ky q (by omega) (by omega) (by omega)))) sy) (fun v h' q => Or.inr (Or.inr ⟨rest, hr, rfl, hx, q⟩))
    · refine r_bipush (v := (-2 : Int32)) (by decide) dX8_rests_22 ?_
      refine ret_i dX8_rests_24 rfl ?_
      exact Or.inr (Or.inl ⟨by first | exact Or.inl c_2 | exact Or.inr c_10, c_19, rfl, rfl⟩)
  · refine r_aload_n rfl dX8_rests_5 ?_
    refine r_iload_n rfl dX8_rests_6 ?_
    refine r_cV1i (T := TX8) (N := 10) moX8_isLand lkX8_84 rfl rfl (Nat.le_of_ble_eq_true rfl) ⟨by decide, by decide⟩ (Nat.le_of_ble_eq_true rfl) dX8_rests_7 rfl (c_isLand (n := n) h0) (fun v3 h3 q3 => ?_)
    obtain ⟨e3, f3⟩ := q3
    subst f3
    rw [e3]
    refine r_if_ne 15 dX8_rests_10 (by decide) (fun c_10 => ?_) (fun c_10 => ?_)
    · refine r_iload_n rfl dX8_rests_15 ?_
      refine r_cS1i moX8_isRest lkX8_179 (Nat.le_of_ble_eq_true rfl) ⟨by decide, by decide⟩ (Nat.le_of_ble_eq_true rfl) dX8_rests_16 rfl (c_isRest (n := 0)) (fun v4 h4 q4 => ?_)
      obtain ⟨e4, f4⟩ := q4
      subst f4
      rw [e4]
      refine r_if_ne 25 dX8_rests_19 (by decide) (fun c_19 => ?_) (fun c_19 => ?_)
      · obtain ⟨rest, hr, rfl⟩ := isL_y (by omega) c_19
        refine r_iconst (v := nI 0) (by decide) dX8_rests_25 ?_
        refine r_ist4 rfl (by decide) dX8_rests_26 ?_
        refine r_aload_n rfl dX8_rests_28 ?_
        refine r_getR foX8_64 rfl rfl dX8_rests_29 ?_
        refine r_aload_n rfl dX8_rests_32 ?_
        refine r_getR foX8_23 rfl rfl dX8_rests_33 ?_
        refine r_getI foX8_73 rfl rfl dX8_rests_36 ?_
        rw [h0]
        refine r_cV1v (T := TX6) (N := 4) moX6_putAllTogether lkX8_168 rfl rfl (Nat.le_of_ble_eq_true rfl) ⟨by decide, by decide⟩ (Nat.le_of_ble_eq_true rfl) dX8_rests_39 rfl (c_putAllTogether pa59 hn6) (fun h5 q5 => ?_)
        obtain ⟨ky, sy⟩ := q5
        refine r_iconst (v := nI 0) (by decide) dX8_rests_42 ?_
        refine r_ist5 rfl (by decide) dX8_rests_43 ?_
        have hx : i = -1 ∨ ¬ isL n x = 0 := by first | exact Or.inl c_2 | exact Or.inr c_10
        refine Ri.imp (loop rest hr hx (bell n + 1) _ (bell n) 0 0 (by omega) (by omega) (by omega) (fun q a b d => ky q (by omega) (by omega) (by omega)) (I.1.2.2.2.2.keep (fun q a b => ky q (by omega) (by omega) (by omega))) (I.2.1.keep (ky _ (by omega) (by omega) (by omega)) (ky _ (by omega) (by omega) (by omega)) (by rw [ky _ (by omega) (by omega) (by omega)]) (eH_keep (fun q a b => ky q (by omega) (by omega) (by omega)))) sy) (fun v h' q => Or.inr (Or.inr ⟨rest, hr, rfl, hx, q⟩))
      · refine r_bipush (v := (-2 : Int32)) (by decide) dX8_rests_22 ?_
        refine ret_i dX8_rests_24 rfl ?_
        exact Or.inr (Or.inl ⟨by first | exact Or.inl c_2 | exact Or.inr c_10, c_19, rfl, rfl⟩)
    · refine r_iconst (v := (-1 : Int32)) (by decide) dX8_rests_13 ?_
      refine ret_i dX8_rests_14 rfl ?_
      exact Or.inl ⟨c_2, c_10, rfl, rfl⟩

