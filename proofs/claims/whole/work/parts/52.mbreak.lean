theorem pat_g7 {n : Nat} {r : Nat → Int32} {s : Int32} (h7 : ∀ j, j < n → ¬ r j = 7) (h1 : ∀ j, j < n → ¬ r j = -1) : Pat n (fun j => if bt s j then 7 else r j) (gath r s) := by
  intro i j hi hj
  show (if bt s i then 7 else r i) = (if bt s j then 7 else r j) ↔ (if bt s i then -1 else r i) = (if bt s j then -1 else r j)
  by_cases bi : bt s i
  · by_cases bj : bt s j
    · rw [if_pos bi, if_pos bj, if_pos bi, if_pos bj]; simp
    · rw [if_pos bi, if_neg bj, if_pos bi, if_neg bj]
      exact ⟨fun q => absurd q.symm (h7 j hj), fun q => absurd q.symm (h1 j hj)⟩
  · by_cases bj : bt s j
    · rw [if_neg bi, if_pos bj, if_neg bi, if_pos bj]
      exact ⟨fun q => absurd q (h7 i hi), fun q => absurd q (h1 i hi)⟩
    · rw [if_neg bi, if_neg bj, if_neg bi, if_neg bj]

set_option maxRecDepth 100000 in
set_option maxHeartbeats 400000 in
theorem m_isBetter {g : GG} {A n s : Nat} {h : Hp} {c : Nat → Nat} (M0 : MJ h A n c) (hs0 : 0 < s) (hs : s < 2 ^ n) : R g mX9_isBetter 0 [some (.ref (ad g 62)), some (.ref (ad g A)), some (.int (nI s)), none, none] [] h (Ri fun v h' => v = (if allG (eM h n) (h A) (nI s) then 1 else 0) ∧ KM h h' ∧ (v = 1 → ∀ j, j < n → h' 68 j = goodS (eM h n) (gath (h A) (nI s)) j)) := by
  have hn := M0.2.1
  have hAd := M0.1.2.1
  have hp6 := pow6 hn
  have loop3 : ∀ (hh : Hp), KM h hh → (∀ j, j < n → hh 68 j = goodS (eM h n) (gath (h A) (nI s)) j) → ∀ (v l : Nat) (x3 : Int32), l ≤ n → n < l + v → ((x3 = 1 ∧ (∀ i, i < l → (fun i => bt (nI s) i → goodS (eM h n) (h A) i < goodS (eM h n) (gath (h A) (nI s)) i) i)) ∨ (x3 = 0 ∧ ¬ (∀ i, i < l → (fun i => bt (nI s) i → goodS (eM h n) (h A) i < goodS (eM h n) (gath (h A) (nI s)) i) i))) → R g mX9_isBetter 75 [some (.ref (ad g 62)), some (.ref (ad g A)), some (.int (nI s)), some (.int x3), some (.int (nI l))] [] hh (Ri fun v h' => v = (if allG (eM h n) (h A) (nI s) then 1 else 0) ∧ KM h h' ∧ (v = 1 → ∀ j, j < n → h' 68 j = goodS (eM h n) (gath (h A) (nI s)) j)) := by
    intro hh k1 G1 v
    induction v with
    | zero => intro l x3 a b; omega
    | succ v ih =>
      intro l x3 a b hx
      refine r_iload rfl dX9_isBetter_75 ?_
      refine r_aload_n rfl dX9_isBetter_77 ?_
      refine r_getI foX9_55 rfl rfl dX9_isBetter_78 ?_
      rw [k1 62 (by omega) (by omega), M0.2.2.1]
      refine r_icmp_ge 126 dX9_isBetter_81 (by decide) (fun c_81 => ?_) (fun c_81 => ?_)
      · have e : l = n := by have := ge_y (by omega) (by omega) c_81; omega
        subst e
        refine r_iload_n rfl dX9_isBetter_126 ?_
        rcases hx with ⟨hx, hy⟩ | ⟨hx, hy⟩
        · exact ret_z dX9_isBetter_127 rfl (Or.inr hx) ⟨by rw [hx, if_pos (show allG (eM h l) (h A) (nI s) from hy)], k1, fun _ => G1⟩
        · exact ret_z dX9_isBetter_127 rfl (Or.inl hx) ⟨by rw [hx, if_neg (show ¬ allG (eM h l) (h A) (nI s) from hy)], k1, fun _ => G1⟩
      · have hlk : l < n := ge_n (by omega) c_81
        refine r_iload_n rfl dX9_isBetter_84 ?_
        refine r_if_eq 118 dX9_isBetter_85 (by decide) (fun c_85 => ?_) (fun c_85 => ?_)
        · refine r_iconst (v := (0 : Int32)) (by decide) dX9_isBetter_118 ?_
          refine r_ist3 rfl (by decide) dX9_isBetter_119 ?_
          first | refine r_incN4 rfl (by decide) dX9_isBetter_120 ?_ | refine r_incP4 rfl (by decide) dX9_isBetter_120 ?_
          refine r_goto 75 dX9_isBetter_123 (by decide) ?_
          first
            | exact ih (l + 1) _ (by omega) (by omega) (Or.inr ⟨rfl, fun q => yes0 hx c_85 (fun i hi => q i (by omega))⟩)
            | exact ih (l + 1) _ (by omega) (by omega) (Or.inl ⟨rfl, flagN (no0 hx c_85) (fun q => absurd (c_94.symm.trans q) (by decide))⟩)
            | exact ih (l + 1) _ (by omega) (by omega) (Or.inr ⟨rfl, fun q => absurd (q l (by omega) (bt_01 s (by omega) l (by omega) c_94)) (Int32.not_lt.mpr c_111)⟩)
            | exact ih (l + 1) _ (by omega) (by omega) (Or.inl ⟨rfl, flagN (no0 hx c_85) (fun _ => Int32.not_le.mp c_111)⟩)
        · refine r_iload_n rfl dX9_isBetter_88 ?_
          refine r_iload rfl dX9_isBetter_89 ?_
          refine r_ishr dX9_isBetter_91 ?_
          refine r_iconst (v := (1 : Int32)) (by decide) dX9_isBetter_92 ?_
          refine r_iand dX9_isBetter_93 ?_
          refine r_if_eq 114 dX9_isBetter_94 (by decide) (fun c_94 => ?_) (fun c_94 => ?_)
          · refine r_iconst (v := (1 : Int32)) (by decide) dX9_isBetter_114 ?_
            refine r_goto 119 dX9_isBetter_115 (by decide) ?_
            refine r_ist3 rfl (by decide) dX9_isBetter_119 ?_
            first | refine r_incN4 rfl (by decide) dX9_isBetter_120 ?_ | refine r_incP4 rfl (by decide) dX9_isBetter_120 ?_
            refine r_goto 75 dX9_isBetter_123 (by decide) ?_
            first
              | exact ih (l + 1) _ (by omega) (by omega) (Or.inr ⟨rfl, fun q => yes0 hx c_85 (fun i hi => q i (by omega))⟩)
              | exact ih (l + 1) _ (by omega) (by omega) (Or.inl ⟨rfl, flagN (no0 hx c_85) (fun q => absurd (c_94.symm.trans q) (by decide))⟩)
              | exact ih (l + 1) _ (by omega) (by omega) (Or.inr ⟨rfl, fun q => absurd (q l (by omega) (bt_01 s (by omega) l (by omega) c_94)) (Int32.not_lt.mpr c_111)⟩)
              | exact ih (l + 1) _ (by omega) (by omega) (Or.inl ⟨rfl, flagN (no0 hx c_85) (fun _ => Int32.not_le.mp c_111)⟩)
          · refine r_aload_n rfl dX9_isBetter_97 ?_
            refine r_getR foX9_25 rfl rfl dX9_isBetter_98 ?_
            refine r_iload rfl dX9_isBetter_101 ?_
            refine r_ild rfl rfl (by omega) (by decide) dX9_isBetter_103 ?_
            rw [G1 l hlk]
            refine r_aload_n rfl dX9_isBetter_104 ?_
            refine r_getR foX9_46 rfl rfl dX9_isBetter_105 ?_
            refine r_iload rfl dX9_isBetter_108 ?_
            refine r_ild rfl rfl (by omega) (by decide) dX9_isBetter_110 ?_
            rw [k1 75 (by omega) (by omega), M0.2.2.2.2.2.2 l hlk]
            refine r_icmp_le 118 dX9_isBetter_111 (by decide) (fun c_111 => ?_) (fun c_111 => ?_)
            · refine r_iconst (v := (0 : Int32)) (by decide) dX9_isBetter_118 ?_
              refine r_ist3 rfl (by decide) dX9_isBetter_119 ?_
              first | refine r_incN4 rfl (by decide) dX9_isBetter_120 ?_ | refine r_incP4 rfl (by decide) dX9_isBetter_120 ?_
              refine r_goto 75 dX9_isBetter_123 (by decide) ?_
              first
                | exact ih (l + 1) _ (by omega) (by omega) (Or.inr ⟨rfl, fun q => yes0 hx c_85 (fun i hi => q i (by omega))⟩)
                | exact ih (l + 1) _ (by omega) (by omega) (Or.inl ⟨rfl, flagN (no0 hx c_85) (fun q => absurd (c_94.symm.trans q) (by decide))⟩)
                | exact ih (l + 1) _ (by omega) (by omega) (Or.inr ⟨rfl, fun q => absurd (q l (by omega) (bt_01 s (by omega) l (by omega) c_94)) (Int32.not_lt.mpr c_111)⟩)
                | exact ih (l + 1) _ (by omega) (by omega) (Or.inl ⟨rfl, flagN (no0 hx c_85) (fun _ => Int32.not_le.mp c_111)⟩)
            · refine r_iconst (v := (1 : Int32)) (by decide) dX9_isBetter_114 ?_
              refine r_goto 119 dX9_isBetter_115 (by decide) ?_
              refine r_ist3 rfl (by decide) dX9_isBetter_119 ?_
              first | refine r_incN4 rfl (by decide) dX9_isBetter_120 ?_ | refine r_incP4 rfl (by decide) dX9_isBetter_120 ?_
              refine r_goto 75 dX9_isBetter_123 (by decide) ?_
              first
                | exact ih (l + 1) _ (by omega) (by omega) (Or.inr ⟨rfl, fun q => yes0 hx c_85 (fun i hi => q i (by omega))⟩)
                | exact ih (l + 1) _ (by omega) (by omega) (Or.inl ⟨rfl, flagN (no0 hx c_85) (fun q => absurd (c_94.symm.trans q) (by decide))⟩)
                | exact ih (l + 1) _ (by omega) (by omega) (Or.inr ⟨rfl, fun q => absurd (q l (by omega) (bt_01 s (by omega) l (by omega) c_94)) (Int32.not_lt.mpr c_111)⟩)
                | exact ih (l + 1) _ (by omega) (by omega) (Or.inl ⟨rfl, flagN (no0 hx c_85) (fun _ => Int32.not_le.mp c_111)⟩)
  have loop2 : ∀ (h1 : Hp), S1 65 6 (h A) h h1 → ∀ (v l : Nat) (hh : Hp), l ≤ n → n < l + v → S1 65 l (fun j => if bt (nI s) j then 7 else h A j) h1 hh → R g mX9_isBetter 22 [some (.ref (ad g 62)), some (.ref (ad g A)), some (.int (nI s)), some (.int (nI l)), none] [] hh (Ri fun v h' => v = (if allG (eM h n) (h A) (nI s) then 1 else 0) ∧ KM h h' ∧ (v = 1 → ∀ j, j < n → h' 68 j = goodS (eM h n) (gath (h A) (nI s)) j)) := by
    intro h1 C v
    induction v with
    | zero => intro l hh a b; omega
    | succ v ih =>
      intro l hh a b H
      refine r_iload_n rfl dX9_isBetter_22 ?_
      refine r_aload_n rfl dX9_isBetter_23 ?_
      refine r_getI foX9_55 rfl rfl dX9_isBetter_24 ?_
      rw [H.1 62 (by omega), C.1 62 (by omega), M0.2.2.1]
      refine r_icmp_ge 62 dX9_isBetter_27 (by decide) (fun c_27 => ?_) (fun c_27 => ?_)
      · have e : l = n := by have := ge_y (by omega) (by omega) c_27; omega
        subst e
        have eL : eM hh l = eM h l := eM_keep (by rw [H.1 63 (by omega), C.1 63 (by omega)]) (by rw [H.1 62 (by omega), C.1 62 (by omega)])
        refine r_aload_n rfl dX9_isBetter_62 ?_
        refine r_aload_n rfl dX9_isBetter_63 ?_
        refine r_getR foX9_16 rfl rfl dX9_isBetter_64 ?_
        refine r_cV1v (T := TX9) (N := 21) moX9_findGoods lkX9_115 rfl rfl (Nat.le_of_ble_eq_true rfl) ⟨by decide, by decide⟩ (Nat.le_of_ble_eq_true rfl) dX9_isBetter_67 rfl (m_findGoods (n := l) (A := 65) rfl (by omega) hn (by rw [H.1 62 (by omega), C.1 62 (by omega)]; exact M0.2.2.1) (by rw [eL]; exact M0.2.2.2.1)) (fun h21 q21 => ?_)
        obtain ⟨kf, ff⟩ := q21
        rw [eL] at ff
        refine r_iconst (v := (1 : Int32)) (by decide) dX9_isBetter_70 ?_
        refine r_ist3 rfl (by decide) dX9_isBetter_71 ?_
        refine r_iconst (v := nI 0) (by decide) dX9_isBetter_72 ?_
        refine r_ist4 rfl (by decide) dX9_isBetter_73 ?_
        refine loop3 _ (fun q a b => by rw [kf q a, H.1 q b, C.1 q b]) (fun j hj => ?_) (l + 1) 0 _ (by omega) (by omega) (Or.inl ⟨rfl, fun i hi => by omega⟩)
        rw [(ff j hj).1]
        refine goodS_pat (EcEq.refl _) (Pat.trans (r' := (fun j => if bt (nI s) j then 7 else h A j)) (Pat.of_eq (fun i hi => H.2.1 i hi)) (pat_g7 (fun i hi => by rw [M0.2.2.2.2.1 i hi]; exact nI_7 (M0.2.2.2.2.2.1 i hi)) (fun i hi => by rw [M0.2.2.2.2.1 i hi]; exact nI_m1 (by have := M0.2.2.2.2.2.1 i hi; omega)))) hj
      · have hlk : l < n := ge_n (by omega) c_27
        refine r_aload_n rfl dX9_isBetter_30 ?_
        refine r_getR foX9_16 rfl rfl dX9_isBetter_31 ?_
        refine r_iload_n rfl dX9_isBetter_34 ?_
        refine r_iload_n rfl dX9_isBetter_35 ?_
        refine r_iload_n rfl dX9_isBetter_36 ?_
        refine r_ishr dX9_isBetter_37 ?_
        refine r_iconst (v := (1 : Int32)) (by decide) dX9_isBetter_38 ?_
        refine r_iand dX9_isBetter_39 ?_
        refine r_iconst (v := (1 : Int32)) (by decide) dX9_isBetter_40 ?_
        refine r_icmp_ne 49 dX9_isBetter_41 (by decide) (fun c_41 => ?_) (fun c_41 => ?_)
        · refine r_aload_n rfl dX9_isBetter_49 ?_
          refine r_getR foX9_16 rfl rfl dX9_isBetter_50 ?_
          refine r_iload_n rfl dX9_isBetter_53 ?_
          refine r_ild rfl rfl (by omega) (by decide) dX9_isBetter_54 ?_
          rw [H.2.2 l (by omega), C.2.1 l (by omega)]
          refine r_ias rfl rfl (by omega) (by decide) dX9_isBetter_55 ?_
          first | refine r_incN3 rfl (by decide) dX9_isBetter_56 ?_ | refine r_incP3 rfl (by decide) dX9_isBetter_56 ?_
          refine r_goto 22 dX9_isBetter_59 (by decide) ?_
          first
            | exact ih (l + 1) _ (by omega) (by omega) (S1_set H (by rw [if_pos c_41]))
            | exact ih (l + 1) _ (by omega) (by omega) (S1_set H (by rw [if_neg c_41]))
        · refine r_bipush (v := (7 : Int32)) (by decide) dX9_isBetter_44 ?_
          refine r_goto 55 dX9_isBetter_46 (by decide) ?_
          refine r_ias rfl rfl (by omega) (by decide) dX9_isBetter_55 ?_
          first | refine r_incN3 rfl (by decide) dX9_isBetter_56 ?_ | refine r_incP3 rfl (by decide) dX9_isBetter_56 ?_
          refine r_goto 22 dX9_isBetter_59 (by decide) ?_
          first
            | exact ih (l + 1) _ (by omega) (by omega) (S1_set H (by rw [if_pos c_41]))
            | exact ih (l + 1) _ (by omega) (by omega) (S1_set H (by rw [if_neg c_41]))
  refine r_aload_n rfl dX9_isBetter_0 ?_
  refine r_aload_n rfl dX9_isBetter_1 ?_
  refine r_iload_n rfl dX9_isBetter_2 ?_
  refine r_cV2i (T := TX9) (N := 21) moX9_isUnion lkX9_139 rfl rfl (Nat.le_of_ble_eq_true rfl) ⟨by decide, by decide⟩ (Nat.le_of_ble_eq_true rfl) dX9_isBetter_3 rfl (m_isUnion M0.1.1 hn M0.2.2.1 hs0 hs) (fun v1 h1 q1 => ?_)
  obtain ⟨e1, f1⟩ := q1
  have e1 := e1.symm
  subst e1
  refine r_if_eq 11 dX9_isBetter_6 (by decide) (fun c_6 => ?_) (fun c_6 => ?_)
  · refine r_aload_n rfl dX9_isBetter_11 ?_
    refine r_aload_n rfl dX9_isBetter_12 ?_
    refine r_aload_n rfl dX9_isBetter_13 ?_
    refine r_getR foX9_16 rfl rfl dX9_isBetter_14 ?_
    refine r_cV2v (T := TX9) (N := 21) moX9_copy lkX9_128 rfl rfl (Nat.le_of_ble_eq_true rfl) ⟨by decide, by decide⟩ (Nat.le_of_ble_eq_true rfl) dX9_isBetter_17 rfl (m_copy M0.1.1 rfl M0.1.2.2.1) (fun h2 q2 => ?_)
    have C := q2
    refine r_iconst (v := nI 0) (by decide) dX9_isBetter_20 ?_
    refine r_ist3 rfl (by decide) dX9_isBetter_21 ?_
    exact loop2 _ C (n + 1) 0 _ (by omega) (by omega) S1_0
  · refine r_iconst (v := (0 : Int32)) (by decide) dX9_isBetter_9 ?_
    refine ret_z dX9_isBetter_10 rfl (by decide) ?_
    exact ⟨by rw [if_neg (isU_no (E := eM h n) (fun l hl => by rw [M0.2.2.2.2.1 l hl]; exact nI_m1 (by have := M0.2.2.2.2.2.1 l hl; omega)) ((f1.resolve_left c_6).2))], KM.refl, fun q => absurd q (by decide)⟩

/-- only what the reference's judge may write -/
def KN (h h' : Hp) : Prop := ∀ q, ¬ (68 ≤ q ∧ q ≤ 73) → ¬ q = 65 → ¬ q = 75 → h' q = h q
theorem KN.refl {h : Hp} : KN h h := fun _ _ _ _ => rfl
theorem KN.trans {h h1 h2 : Hp} (a : KN h h1) (b : KN h1 h2) : KN h h2 := fun q x y z => (b q x y z).trans (a q x y z)
theorem KM.KN {h h1 : Hp} (a : KM h h1) : KN h h1 := fun q x y _ => a q x y
theorem KN.eM {h h1 : Hp} {n : Nat} (k : KN h h1) : eM h1 n = eM h n := eM_keep (k 63 (by omega) (by omega) (by omega)) (k 62 (by omega) (by omega) (by omega))
/-- the same without the goods kept -/
def MK (h : Hp) (A n : Nat) (c : Nat → Nat) : Prop := (shl[A]? = some (.inl 6) ∧ (A < 68 ∨ 75 < A ∨ A = 74) ∧ ¬ A = 65 ∧ ¬ A = 62 ∧ ¬ A = 63) ∧ n ≤ 6 ∧ h 62 1 = nI n ∧ EOK (eM h n) ∧ (∀ l, l < n → h A l = nI (c l)) ∧ (∀ l, l < n → c l < 7) ∧ mx c n ≤ 6
theorem MK.keep {h h' : Hp} {A n : Nat} {c : Nat → Nat} (m : MK h A n c) (k : KN h h') : MK h' A n c := by
  obtain ⟨a, b, d, e, f, f2, i⟩ := m
  have eA : h' A = h A := k A (by omega) a.2.2.1 (by omega)
  exact ⟨a, b, by rw [k 62 (by omega) (by omega) (by omega)]; exact d, by rw [k.eM]; exact e, by rw [eA]; exact f, f2, i⟩
theorem MK.J {h h' : Hp} {A n : Nat} {c : Nat → Nat} (m : MK h A n c) (k : ∀ q, ¬ (68 ≤ q ∧ q ≤ 73) → ¬ q = 75 → h' q = h q) (g75 : ∀ j, j < n → h' 75 j = goodS (eM h n) (h A) j) : MJ h' A n c ∧ KN h h' := by
  have kn : KN h h' := fun q a _ b => k q a b
  have m2 := m.keep kn
  obtain ⟨a, b, d, e, f, f2, i⟩ := m2
  have eA : h' A = h A := k A (by omega) (by omega)
  exact ⟨⟨a, b, d, e, f, f2, by rw [kn.eM, eA]; exact g75⟩, kn⟩
theorem staV_cases (E : Ec) (r : Nat → Int32) (hn : eN E ≤ 6) : staV E r = -6 ∨ 0 ≤ staV E r := by
  have key : ∀ d l, l + d ≤ 6 → inF (fun l => decide (¬ gLv E r l ≤ 0)) nI (-6) d l = -6 ∨ 0 ≤ inF (fun l => decide (¬ gLv E r l ≤ 0)) nI (-6) d l := by
    intro d
    induction d with
    | zero => intro l _; exact Or.inl rfl
    | succ d ih =>
      intro l hl
      rw [inF]
      split
      · exact Or.inr (nI_pos' (by omega))
      · exact ih (l + 1) (by omega)
  exact key _ 0 (by omega)

theorem nI_le1 {a : Nat} (h : a ≤ 1) : nI a ≤ 1 := by
  rcases (show a = 0 ∨ a = 1 by omega) with rfl | rfl <;> decide
set_option maxRecDepth 100000 in
set_option maxHeartbeats 400000 in
theorem m_breakerOf {g : GG} {A n rest : Nat} {h : Hp} {c : Nat → Nat} (M0 : MK h A n c) (hr : rest < 3) : R g mX9_breakerOf 0 [some (.ref (ad g 62)), some (.ref (ad g A)), some (.int (nI rest)), none] [] h (Ri fun v h' => v = brk (eM h n) (h A) (mx c n) rest ∧ KN h h') := by
  have hn := M0.2.1
  have hAd := M0.1.2.1
  have hp6 := pow6 hn
  have loop : ∀ (hj : Hp), MJ hj A n c → ∀ (z : Nat) (hh : Hp) (d l : Nat), l + d = 2 ^ n → d < z → 0 < l → KM hj hh → R g mX9_breakerOf 12 [some (.ref (ad g 62)), some (.ref (ad g A)), some (.int (nI rest)), some (.int (nI l))] [] hh (Ri fun v h' => v = inF (fun t => decide (allG (eM hj n) (hj A) (nI t))) (fun t => 1000 + nI t) (-6) d l ∧ KM hj h') := by
    intro hj J z
    induction z with
    | zero => intro hh d l a b; omega
    | succ z ih =>
      intro hh d l a b hl0 k1
      refine r_iload_n rfl dX9_breakerOf_12 ?_
      refine r_iconst (v := (1 : Int32)) (by decide) dX9_breakerOf_13 ?_
      refine r_aload_n rfl dX9_breakerOf_14 ?_
      refine r_getI foX9_55 rfl rfl dX9_breakerOf_15 ?_
      rw [k1 62 (by omega) (by omega), J.2.2.1]
      refine r_ishl dX9_breakerOf_18 ?_
      rw [shl1 hn]
      refine r_icmp_ge 43 dX9_breakerOf_19 (by decide) (fun c_19 => ?_) (fun c_19 => ?_)
      · have e : l = 2 ^ n := by have := ge_y (by omega) (by omega) c_19; omega
        refine r_bipush (v := (-6 : Int32)) (by decide) dX9_breakerOf_43 ?_
        refine ret_i dX9_breakerOf_45 rfl ?_
        have e2 : d = 0 := by omega
        subst e2
        exact ⟨rfl, k1⟩
      · have hlk : l < 2 ^ n := ge_n (by omega) c_19
        refine r_aload_n rfl dX9_breakerOf_22 ?_
        refine r_aload_n rfl dX9_breakerOf_23 ?_
        refine r_iload_n rfl dX9_breakerOf_24 ?_
        refine r_cV2i (T := TX9) (N := 21) moX9_isBetter lkX9_146 rfl rfl (Nat.le_of_ble_eq_true rfl) ⟨by decide, by decide⟩ (Nat.le_of_ble_eq_true rfl) dX9_breakerOf_25 rfl (m_isBetter (J.keep k1) hl0 hlk) (fun v21 h21 q21 => ?_)
        obtain ⟨e21, kx, gx⟩ := q21
        have kx := k1.trans kx
        rw [k1.eM, k1 A (by omega) J.1.2.2.1] at e21
        subst e21
        refine r_if_eq 37 dX9_breakerOf_28 (by decide) (fun c_28 => ?_) (fun c_28 => ?_)
        · first | refine r_incN3 rfl (by decide) dX9_breakerOf_37 ?_ | refine r_incP3 rfl (by decide) dX9_breakerOf_37 ?_
          refine r_goto 12 dX9_breakerOf_40 (by decide) ?_
          obtain ⟨d, rfl⟩ : ∃ d', d = d' + 1 := ⟨d - 1, by omega⟩
          refine Ri.imp (ih _ d (l + 1) (by omega) (by omega) (by omega) kx) (fun v h' q => ⟨?_, q.2⟩)
          have na : ¬ allG (eM hj n) (hj A) (nI l) := fun z => by rw [if_pos z] at c_28; exact absurd c_28 (by decide)
          rw [q.1, inF, if_neg (by simpa using na)]
        · refine r_sipush (v := (1000 : Int32)) (by decide) dX9_breakerOf_31 ?_
          refine r_iload_n rfl dX9_breakerOf_34 ?_
          refine r_iadd dX9_breakerOf_35 ?_
          refine ret_i dX9_breakerOf_36 rfl ?_
          obtain ⟨d, rfl⟩ : ∃ d', d = d' + 1 := ⟨d - 1, by omega⟩
          have na : allG (eM hj n) (hj A) (nI l) := Decidable.byContradiction fun z => c_28 (if_neg z)
          exact ⟨by rw [inF, if_pos (by simpa using na)], kx⟩
  refine r_aload_n rfl dX9_breakerOf_0 ?_
  refine r_aload_n rfl dX9_breakerOf_1 ?_
  refine r_cV1v (T := TX9) (N := 21) moX9_keepGoods lkX9_143 rfl rfl (Nat.le_of_ble_eq_true rfl) ⟨by decide, by decide⟩ (Nat.le_of_ble_eq_true rfl) dX9_breakerOf_2 rfl (m_keepGoods M0.1.1 (by omega) hn M0.2.2.1 M0.2.2.2.1) (fun h1 q1 => ?_)
  obtain ⟨J, kj⟩ := M0.J q1.1 q1.2
  have e0 : eM h1 n = eM h n := kj.eM
  have eA : h1 A = h A := kj A (by omega) M0.1.2.2.1 (by omega)
  refine r_iload_n rfl dX9_breakerOf_5 ?_
  refine r_iconst (v := (1 : Int32)) (by decide) dX9_breakerOf_6 ?_
  refine r_icmp_le 46 dX9_breakerOf_7 (by decide) (fun c_7 => ?_) (fun c_7 => ?_)
  · refine r_aload_n rfl dX9_breakerOf_46 ?_
    refine r_aload_n rfl dX9_breakerOf_47 ?_
    refine r_cV1i (T := TX9) (N := 21) moX9_leaver lkX9_149 rfl rfl (Nat.le_of_ble_eq_true rfl) ⟨by decide, by decide⟩ (Nat.le_of_ble_eq_true rfl) dX9_breakerOf_48 rfl (m_leaver J) (fun v2 h2 q2 => ?_)
    obtain ⟨e2, k2⟩ := q2
    rw [e0, eA] at e2
    subst e2
    refine r_ist3 rfl (by decide) dX9_breakerOf_51 ?_
    refine r_iload_n rfl dX9_breakerOf_52 ?_
    refine r_if_ge 60 dX9_breakerOf_53 (by decide) (fun c_53 => ?_) (fun c_53 => ?_)
    · refine r_iload_n rfl dX9_breakerOf_60 ?_
      refine r_goto 69 dX9_breakerOf_61 (by decide) ?_
      refine ret_i dX9_breakerOf_69 rfl ?_
      have e9 : ¬ rest = 2 := fun z => by subst z; exact absurd c_7 (by decide)
      first
        | exact ⟨by rw [brk, if_neg e9, if_neg (fun q => by rw [q.2] at c_53; exact absurd c_53 (by decide))], kj.trans k2.KN⟩
        | exact ⟨by rw [brk, if_neg e9, if_neg (fun q => by rw [q.1] at c_57; exact absurd c_57 (by decide))], kj.trans k2.KN⟩
        | exact ⟨by rw [e3, brk, if_neg e9, if_pos ⟨by have : ¬ rest = 0 := fun z => c_57 (by rw [z]; rfl); omega, (staV_cases (eM h n) (h A) hn).resolve_right c_53⟩], (kj.trans k2.KN).trans k3.KN⟩
    · refine r_iload_n rfl dX9_breakerOf_56 ?_
      refine r_if_ne 64 dX9_breakerOf_57 (by decide) (fun c_57 => ?_) (fun c_57 => ?_)
      · refine r_aload_n rfl dX9_breakerOf_64 ?_
        refine r_aload_n rfl dX9_breakerOf_65 ?_
        refine r_cV1i (T := TX9) (N := 21) moX9_joiner lkX9_152 rfl rfl (Nat.le_of_ble_eq_true rfl) ⟨by decide, by decide⟩ (Nat.le_of_ble_eq_true rfl) dX9_breakerOf_66 rfl (m_joiner (J.keep k2) M0.2.2.2.2.2.2) (fun v3 h3 q3 => ?_)
        obtain ⟨e3, k3⟩ := q3
        rw [k2.eM, e0, k2 A (by omega) M0.1.2.2.1, eA] at e3
        refine ret_i dX9_breakerOf_69 rfl ?_
        have e9 : ¬ rest = 2 := fun z => by subst z; exact absurd c_7 (by decide)
        first
          | exact ⟨by rw [brk, if_neg e9, if_neg (fun q => by rw [q.2] at c_53; exact absurd c_53 (by decide))], kj.trans k2.KN⟩
          | exact ⟨by rw [brk, if_neg e9, if_neg (fun q => by rw [q.1] at c_57; exact absurd c_57 (by decide))], kj.trans k2.KN⟩
          | exact ⟨by rw [e3, brk, if_neg e9, if_pos ⟨by have : ¬ rest = 0 := fun z => c_57 (by rw [z]; rfl); omega, (staV_cases (eM h n) (h A) hn).resolve_right c_53⟩], (kj.trans k2.KN).trans k3.KN⟩
      · refine r_iload_n rfl dX9_breakerOf_60 ?_
        refine r_goto 69 dX9_breakerOf_61 (by decide) ?_
        refine ret_i dX9_breakerOf_69 rfl ?_
        have e9 : ¬ rest = 2 := fun z => by subst z; exact absurd c_7 (by decide)
        first
          | exact ⟨by rw [brk, if_neg e9, if_neg (fun q => by rw [q.2] at c_53; exact absurd c_53 (by decide))], kj.trans k2.KN⟩
          | exact ⟨by rw [brk, if_neg e9, if_neg (fun q => by rw [q.1] at c_57; exact absurd c_57 (by decide))], kj.trans k2.KN⟩
          | exact ⟨by rw [e3, brk, if_neg e9, if_pos ⟨by have : ¬ rest = 0 := fun z => c_57 (by rw [z]; rfl); omega, (staV_cases (eM h n) (h A) hn).resolve_right c_53⟩], (kj.trans k2.KN).trans k3.KN⟩
  · refine r_iconst (v := nI 1) (by decide) dX9_breakerOf_10 ?_
    refine r_ist3 rfl (by decide) dX9_breakerOf_11 ?_
    have e9 : rest = 2 := Decidable.byContradiction fun z => c_7 (nI_le1 (by omega))
    refine Ri.imp (loop _ J (2 ^ n) _ (2 ^ n - 1) 1 (by omega) (by omega) (by omega) KM.refl) (fun v h' q => ⟨?_, kj.trans q.2.KN⟩)
    rw [q.1, e0, eA, brk, if_pos e9]
    rfl

