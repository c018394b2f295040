def KM (h h' : Hp) : Prop := ∀ q, ¬ (68 ≤ q ∧ q ≤ 73) → ¬ q = 65 → h' q = h q
theorem KM.refl {h : Hp} : KM h h := fun _ _ _ => rfl
theorem KM.trans {h h1 h2 : Hp} (a : KM h h1) (b : KM h1 h2) : KM h h2 := fun q x y => (b q x y).trans (a q x y)
theorem KM.eM {h h1 : Hp} {n : Nat} (k : KM h h1) : eM h1 n = eM h n := eM_keep (k 63 (by omega) (by omega)) (k 62 (by omega) (by omega))
/-- what the reference's judge stands on: the lands, the row at A, its goods kept -/
def MJ (h : Hp) (A n : Nat) (c : Nat → Nat) : Prop := (shl[A]? = some (.inl 6) ∧ (A < 68 ∨ 75 < A ∨ A = 74) ∧ ¬ A = 65 ∧ ¬ A = 62 ∧ ¬ A = 63) ∧ n ≤ 6 ∧ h 62 1 = nI n ∧ EOK (eM h n) ∧ (∀ l, l < n → h A l = nI (c l)) ∧ (∀ l, l < n → c l < 7) ∧ ∀ l, l < n → h 75 l = goodS (eM h n) (h A) l
theorem MJ.keep {h h' : Hp} {A n : Nat} {c : Nat → Nat} (m : MJ h A n c) (k : KM h h') : MJ h' A n c := by
  obtain ⟨a, b, d, e, f, f2, i⟩ := m
  have eA : h' A = h A := k A (by omega) a.2.2.1
  exact ⟨a, b, by rw [k 62 (by omega) (by omega)]; exact d, by rw [k.eM]; exact e, by rw [eA]; exact f, f2, by rw [k.eM, eA, k 75 (by omega) (by omega)]; exact i⟩
theorem flagN {l : Nat} {p : Nat → Prop} (h : ∀ i, i < l → p i) (hl : p l) : ∀ i, i < l + 1 → p i := fun i hi => by
  by_cases e : i = l
  · subst e; exact hl
  · exact h i (by omega)

set_option maxRecDepth 100000 in
set_option maxHeartbeats 400000 in
theorem m_gainIn {g : GG} {A n k : Nat} {u : Int32} {h : Hp} {c : Nat → Nat} (M0 : MJ h A n c) (hk : k < n) : R g mX9_gainIn 0 [some (.ref (ad g 62)), some (.ref (ad g A)), some (.int (nI k)), some (.int u), none, none] [] h (Ri fun v h' => v = gJ (eM h n) (h A) k u ∧ KM h h') := by
  have hn := M0.2.1
  have hAd := M0.1.2.1
  have loop : ∀ (hh : Hp), KM h hh → (∀ j, j < n → hh 68 j = goodS (eM h n) (upd (h A) k u) j) → ∀ (v l : Nat) (x4 : Int32), l ≤ n → n < l + v → ((x4 = 1 ∧ (∀ i, i < l → (fun i => h A i = u → goodS (eM h n) (h A) i ≤ goodS (eM h n) (upd (h A) k u) i) i)) ∨ (x4 = 0 ∧ ¬ (∀ i, i < l → (fun i => h A i = u → goodS (eM h n) (h A) i ≤ goodS (eM h n) (upd (h A) k u) i) i))) → R g mX9_gainIn 30 [some (.ref (ad g 62)), some (.ref (ad g A)), some (.int (nI k)), some (.int u), some (.int x4), some (.int (nI l))] [] hh (Ri fun v h' => v = gJ (eM h n) (h A) k u ∧ KM h h') := by
    intro hh k1 G1 v
    induction v with
    | zero => intro l x4 a b; omega
    | succ v ih =>
      intro l x4 a b hx
      refine r_iload rfl dX9_gainIn_30 ?_
      refine r_aload_n rfl dX9_gainIn_32 ?_
      refine r_getI foX9_55 rfl rfl dX9_gainIn_33 ?_
      rw [k1 62 (by omega) (by omega), M0.2.2.1]
      refine r_icmp_ge 82 dX9_gainIn_36 (by decide) (fun c_36 => ?_) (fun c_36 => ?_)
      · have e : l = n := by have := ge_y (by omega) (by omega) c_36; omega
        subst e
        refine r_iload rfl dX9_gainIn_82 ?_
        refine r_if_eq 103 dX9_gainIn_84 (by decide) (fun c_84 => ?_) (fun c_84 => ?_)
        · refine r_iconst (v := (0 : Int32)) (by decide) dX9_gainIn_103 ?_
          refine ret_i dX9_gainIn_104 rfl ?_
          first
            | exact ⟨by rw [gJ, if_neg (show ¬ nLess (eM h l) (h A) k u from yes0 hx c_84)], k1⟩
            | exact ⟨by rw [gJ, if_pos (show nLess (eM h l) (h A) k u from no0 hx c_84)], k1⟩
        · refine r_aload_n rfl dX9_gainIn_87 ?_
          refine r_getR foX9_25 rfl rfl dX9_gainIn_88 ?_
          refine r_iload_n rfl dX9_gainIn_91 ?_
          refine r_ild rfl rfl (by omega) (by decide) dX9_gainIn_92 ?_
          rw [G1 k hk]
          refine r_aload_n rfl dX9_gainIn_93 ?_
          refine r_getR foX9_46 rfl rfl dX9_gainIn_94 ?_
          refine r_iload_n rfl dX9_gainIn_97 ?_
          refine r_ild rfl rfl (by omega) (by decide) dX9_gainIn_98 ?_
          rw [k1 75 (by omega) (by omega), M0.2.2.2.2.2.2 k hk]
          refine r_isub dX9_gainIn_99 ?_
          refine r_goto 104 dX9_gainIn_100 (by decide) ?_
          refine ret_i dX9_gainIn_104 rfl ?_
          first
            | exact ⟨by rw [gJ, if_neg (show ¬ nLess (eM h l) (h A) k u from yes0 hx c_84)], k1⟩
            | exact ⟨by rw [gJ, if_pos (show nLess (eM h l) (h A) k u from no0 hx c_84)], k1⟩
      · have hlk : l < n := ge_n (by omega) c_36
        refine r_iload rfl dX9_gainIn_39 ?_
        refine r_if_eq 73 dX9_gainIn_41 (by decide) (fun c_41 => ?_) (fun c_41 => ?_)
        · refine r_iconst (v := (0 : Int32)) (by decide) dX9_gainIn_73 ?_
          refine r_ist4 rfl (by decide) dX9_gainIn_74 ?_
          first | refine r_incN5 rfl (by decide) dX9_gainIn_76 ?_ | refine r_incP5 rfl (by decide) dX9_gainIn_76 ?_
          refine r_goto 30 dX9_gainIn_79 (by decide) ?_
          first
            | exact ih (l + 1) _ (by omega) (by omega) (Or.inr ⟨rfl, fun q => yes0 hx c_41 (fun i hi => q i (by omega))⟩)
            | exact ih (l + 1) _ (by omega) (by omega) (Or.inl ⟨rfl, flagN (no0 hx c_41) (fun q => absurd q c_49)⟩)
            | exact ih (l + 1) _ (by omega) (by omega) (Or.inr ⟨rfl, fun q => Int32.not_le.mpr c_66 (q l (by omega) c_49)⟩)
            | exact ih (l + 1) _ (by omega) (by omega) (Or.inl ⟨rfl, flagN (no0 hx c_41) (fun _ => Int32.not_lt.mp c_66)⟩)
        · refine r_aload_n rfl dX9_gainIn_44 ?_
          refine r_iload rfl dX9_gainIn_45 ?_
          refine r_ild M0.1.1 rfl (by omega) (by decide) dX9_gainIn_47 ?_
          rw [k1 A (by omega) M0.1.2.2.1]
          refine r_iload_n rfl dX9_gainIn_48 ?_
          refine r_icmp_ne 69 dX9_gainIn_49 (by decide) (fun c_49 => ?_) (fun c_49 => ?_)
          · refine r_iconst (v := (1 : Int32)) (by decide) dX9_gainIn_69 ?_
            refine r_goto 74 dX9_gainIn_70 (by decide) ?_
            refine r_ist4 rfl (by decide) dX9_gainIn_74 ?_
            first | refine r_incN5 rfl (by decide) dX9_gainIn_76 ?_ | refine r_incP5 rfl (by decide) dX9_gainIn_76 ?_
            refine r_goto 30 dX9_gainIn_79 (by decide) ?_
            first
              | exact ih (l + 1) _ (by omega) (by omega) (Or.inr ⟨rfl, fun q => yes0 hx c_41 (fun i hi => q i (by omega))⟩)
              | exact ih (l + 1) _ (by omega) (by omega) (Or.inl ⟨rfl, flagN (no0 hx c_41) (fun q => absurd q c_49)⟩)
              | exact ih (l + 1) _ (by omega) (by omega) (Or.inr ⟨rfl, fun q => Int32.not_le.mpr c_66 (q l (by omega) c_49)⟩)
              | exact ih (l + 1) _ (by omega) (by omega) (Or.inl ⟨rfl, flagN (no0 hx c_41) (fun _ => Int32.not_lt.mp c_66)⟩)
          · refine r_aload_n rfl dX9_gainIn_52 ?_
            refine r_getR foX9_25 rfl rfl dX9_gainIn_53 ?_
            refine r_iload rfl dX9_gainIn_56 ?_
            refine r_ild rfl rfl (by omega) (by decide) dX9_gainIn_58 ?_
            rw [G1 l hlk]
            refine r_aload_n rfl dX9_gainIn_59 ?_
            refine r_getR foX9_46 rfl rfl dX9_gainIn_60 ?_
            refine r_iload rfl dX9_gainIn_63 ?_
            refine r_ild rfl rfl (by omega) (by decide) dX9_gainIn_65 ?_
            rw [k1 75 (by omega) (by omega), M0.2.2.2.2.2.2 l hlk]
            refine r_icmp_lt 73 dX9_gainIn_66 (by decide) (fun c_66 => ?_) (fun c_66 => ?_)
            · refine r_iconst (v := (0 : Int32)) (by decide) dX9_gainIn_73 ?_
              refine r_ist4 rfl (by decide) dX9_gainIn_74 ?_
              first | refine r_incN5 rfl (by decide) dX9_gainIn_76 ?_ | refine r_incP5 rfl (by decide) dX9_gainIn_76 ?_
              refine r_goto 30 dX9_gainIn_79 (by decide) ?_
              first
                | exact ih (l + 1) _ (by omega) (by omega) (Or.inr ⟨rfl, fun q => yes0 hx c_41 (fun i hi => q i (by omega))⟩)
                | exact ih (l + 1) _ (by omega) (by omega) (Or.inl ⟨rfl, flagN (no0 hx c_41) (fun q => absurd q c_49)⟩)
                | exact ih (l + 1) _ (by omega) (by omega) (Or.inr ⟨rfl, fun q => Int32.not_le.mpr c_66 (q l (by omega) c_49)⟩)
                | exact ih (l + 1) _ (by omega) (by omega) (Or.inl ⟨rfl, flagN (no0 hx c_41) (fun _ => Int32.not_lt.mp c_66)⟩)
            · refine r_iconst (v := (1 : Int32)) (by decide) dX9_gainIn_69 ?_
              refine r_goto 74 dX9_gainIn_70 (by decide) ?_
              refine r_ist4 rfl (by decide) dX9_gainIn_74 ?_
              first | refine r_incN5 rfl (by decide) dX9_gainIn_76 ?_ | refine r_incP5 rfl (by decide) dX9_gainIn_76 ?_
              refine r_goto 30 dX9_gainIn_79 (by decide) ?_
              first
                | exact ih (l + 1) _ (by omega) (by omega) (Or.inr ⟨rfl, fun q => yes0 hx c_41 (fun i hi => q i (by omega))⟩)
                | exact ih (l + 1) _ (by omega) (by omega) (Or.inl ⟨rfl, flagN (no0 hx c_41) (fun q => absurd q c_49)⟩)
                | exact ih (l + 1) _ (by omega) (by omega) (Or.inr ⟨rfl, fun q => Int32.not_le.mpr c_66 (q l (by omega) c_49)⟩)
                | exact ih (l + 1) _ (by omega) (by omega) (Or.inl ⟨rfl, flagN (no0 hx c_41) (fun _ => Int32.not_lt.mp c_66)⟩)
  refine r_aload_n rfl dX9_gainIn_0 ?_
  refine r_aload_n rfl dX9_gainIn_1 ?_
  refine r_aload_n rfl dX9_gainIn_2 ?_
  refine r_getR foX9_16 rfl rfl dX9_gainIn_3 ?_
  refine r_cV2v (T := TX9) (N := 21) moX9_copy lkX9_128 rfl rfl (Nat.le_of_ble_eq_true rfl) ⟨by decide, by decide⟩ (Nat.le_of_ble_eq_true rfl) dX9_gainIn_6 rfl (m_copy M0.1.1 rfl M0.1.2.2.1) (fun h1 q1 => ?_)
  have q1 := q1
  refine r_aload_n rfl dX9_gainIn_9 ?_
  refine r_getR foX9_16 rfl rfl dX9_gainIn_10 ?_
  refine r_iload_n rfl dX9_gainIn_13 ?_
  refine r_iload_n rfl dX9_gainIn_14 ?_
  refine r_ias rfl rfl (by omega) (by decide) dX9_gainIn_15 ?_
  have eL : eM (hset h1 65 k u) n = eM h n := eM_keep (by rw [hset_ne (by omega), q1.1 63 (by omega)]) (by rw [hset_ne (by omega), q1.1 62 (by omega)])
  refine r_aload_n rfl dX9_gainIn_16 ?_
  refine r_aload_n rfl dX9_gainIn_17 ?_
  refine r_getR foX9_16 rfl rfl dX9_gainIn_18 ?_
  refine r_cV1v (T := TX9) (N := 21) moX9_findGoods lkX9_115 rfl rfl (Nat.le_of_ble_eq_true rfl) ⟨by decide, by decide⟩ (Nat.le_of_ble_eq_true rfl) dX9_gainIn_21 rfl (m_findGoods (n := n) (A := 65) rfl (by omega) hn (by rw [hset_ne (by omega), q1.1 62 (by omega)]; exact M0.2.2.1) (by rw [eL]; exact M0.2.2.2.1)) (fun h2 q2 => ?_)
  obtain ⟨kf, ff⟩ := q2
  rw [eL] at ff
  refine r_iconst (v := (1 : Int32)) (by decide) dX9_gainIn_24 ?_
  refine r_ist4 rfl (by decide) dX9_gainIn_25 ?_
  refine r_iconst (v := nI 0) (by decide) dX9_gainIn_27 ?_
  refine r_ist5 rfl (by decide) dX9_gainIn_28 ?_
  refine loop _ (fun q a b => by rw [kf q a, hset_ne b, q1.1 q b]) (fun j hj => ?_) (n + 1) 0 _ (by omega) (by omega) (Or.inl ⟨rfl, fun i hi => by omega⟩)
  rw [(ff j hj).1]
  refine good_eq (EcEq.refl _) (fun i hi => ?_) hj
  rw [hset_same]
  have hi6 : i < 6 := Nat.lt_of_lt_of_le hi hn
  exact upd_cong (q1.2.1 i hi6)

set_option maxRecDepth 100000 in
set_option maxHeartbeats 400000 in
theorem m_leaver {g : GG} {A n : Nat} {h : Hp} {c : Nat → Nat} (M0 : MJ h A n c) : R g mX9_leaver 0 [some (.ref (ad g 62)), some (.ref (ad g A)), none] [] h (Ri fun v h' => v = staV (eM h n) (h A) ∧ KM h h') := by
  have hn := M0.2.1
  have hAd := M0.1.2.1
  have loop : ∀ (z : Nat) (hh : Hp) (d l : Nat), l + d = n → d < z → KM h hh → R g mX9_leaver 2 [some (.ref (ad g 62)), some (.ref (ad g A)), some (.int (nI l))] [] hh (Ri fun v h' => v = inF (fun l => decide (¬ gLv (eM h n) (h A) l ≤ 0)) nI (-6) d l ∧ KM h h') := by
    intro z
    induction z with
    | zero => intro hh d l a b; omega
    | succ z ih =>
      intro hh d l a b k1
      have MK := M0.keep k1
      refine r_iload_n rfl dX9_leaver_2 ?_
      refine r_aload_n rfl dX9_leaver_3 ?_
      refine r_getI foX9_55 rfl rfl dX9_leaver_4 ?_
      rw [k1 62 (by omega) (by omega), M0.2.2.1]
      refine r_icmp_ge 27 dX9_leaver_7 (by decide) (fun c_7 => ?_) (fun c_7 => ?_)
      · refine r_bipush (v := (-6 : Int32)) (by decide) dX9_leaver_27 ?_
        refine ret_i dX9_leaver_29 rfl ?_
        have e9 : l = n := by have := ge_y (by omega) (by omega) c_7; omega
        obtain rfl : d = 0 := by omega
        exact ⟨rfl, k1⟩
      · have hlk : l < n := ge_n (by omega) c_7
        refine r_aload_n rfl dX9_leaver_10 ?_
        refine r_aload_n rfl dX9_leaver_11 ?_
        refine r_iload_n rfl dX9_leaver_12 ?_
        refine r_cV2i (T := TX9) (N := 21) moX9_gainApart lkX9_132 rfl rfl (Nat.le_of_ble_eq_true rfl) ⟨by decide, by decide⟩ (Nat.le_of_ble_eq_true rfl) dX9_leaver_13 rfl (m_gainApart (c := c) MK.1.1 ⟨MK.1.2.1, MK.1.2.2.1⟩ hn MK.2.2.1 MK.2.2.2.1 hlk MK.2.2.2.2.1 MK.2.2.2.2.2.1 MK.2.2.2.2.2.2) (fun v21 h21 q21 => ?_)
        obtain ⟨ea, kx⟩ := q21
        rw [k1.eM, k1 A (by omega) M0.1.2.2.1] at ea
        subst ea
        have kx := k1.trans kx
        refine r_if_le 21 dX9_leaver_16 (by decide) (fun c_16 => ?_) (fun c_16 => ?_)
        · first | refine r_incN2 rfl (by decide) dX9_leaver_21 ?_ | refine r_incP2 rfl (by decide) dX9_leaver_21 ?_
          refine r_goto 2 dX9_leaver_24 (by decide) ?_
          obtain ⟨d, rfl⟩ : ∃ d', d = d' + 1 := ⟨d - 1, by omega⟩
          refine Ri.imp (ih _ d (l + 1) (by omega) (by omega) kx) (fun v h' q => ⟨?_, q.2⟩)
          rw [q.1, inF, if_neg (by simpa using c_16)]
        · refine r_iload_n rfl dX9_leaver_19 ?_
          refine ret_i dX9_leaver_20 rfl ?_
          obtain ⟨d, rfl⟩ : ∃ d', d = d' + 1 := ⟨d - 1, by omega⟩
          exact ⟨by rw [inF, if_pos (by simpa using c_16)], kx⟩
  refine r_iconst (v := nI 0) (by decide) dX9_leaver_0 ?_
  refine r_ist2 rfl (by decide) dX9_leaver_1 ?_
  exact loop (n + 1) _ n 0 (by omega) (by omega) KM.refl

