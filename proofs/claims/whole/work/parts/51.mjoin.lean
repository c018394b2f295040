set_option maxRecDepth 100000 in
set_option maxHeartbeats 400000 in
theorem m_joiner {g : GG} {A n : Nat} {h : Hp} {c : Nat → Nat} (M0 : MJ h A n c) (hmx : mx c n ≤ 6) : R g mX9_joiner 0 [some (.ref (ad g 62)), some (.ref (ad g A)), none, none, none] [] h (Ri fun v h' => v = joiV (eM h n) (h A) (mx c n) ∧ KM h h') := by
  have hn := M0.2.1
  have hAd := M0.1.2.1
  have inner : ∀ (d l : Nat), l + d + 1 = n → (∀ (hh : Hp) {z : Int32}, KM h hh → R g mX9_joiner 8 [some (.ref (ad g 62)), some (.ref (ad g A)), some (.int (nI (mx c n))), some (.int (nI (l + 1))), some (.int z)] [] hh (Ri fun v h' => v = joF (eM h n) (h A) (mx c n) d (l + 1) ∧ KM h h')) → ∀ (z : Nat) (hh : Hp) (e u : Nat), u + e = mx c n → e < z → KM h hh → R g mX9_joiner 19 [some (.ref (ad g 62)), some (.ref (ad g A)), some (.int (nI (mx c n))), some (.int (nI l)), some (.int (nI u))] [] hh (Ri fun v h' => v = inF (joP (eM h n) (h A) l) (fun u => 100 + 10 * nI l + nI u) (joF (eM h n) (h A) (mx c n) d (l + 1)) e u ∧ KM h h') := by
    intro d l hl hout z
    have hln : l < n := by omega
    induction z with
    | zero => intro hh e u a b; omega
    | succ z ih =>
      intro hh e u a b k1
      refine r_iload rfl dX9_joiner_19 ?_
      refine r_iload_n rfl dX9_joiner_21 ?_
      refine r_icmp_ge 61 dX9_joiner_22 (by decide) (fun c_22 => ?_) (fun c_22 => ?_)
      · have e9 : u = mx c n := by have := ge_y (by omega) (by omega) c_22; omega
        first | refine r_incN3 rfl (by decide) dX9_joiner_61 ?_ | refine r_incP3 rfl (by decide) dX9_joiner_61 ?_
        refine r_goto 8 dX9_joiner_64 (by decide) ?_
        have e2 : e = 0 := by omega
        subst e2
        exact Ri.imp (hout _ k1) (fun v h' q => q)
      · have hlk : u < mx c n := ge_n (by omega) c_22
        refine r_iload rfl dX9_joiner_25 ?_
        refine r_aload_n rfl dX9_joiner_27 ?_
        refine r_iload_n rfl dX9_joiner_28 ?_
        refine r_ild M0.1.1 rfl (by omega) (by decide) dX9_joiner_29 ?_
        rw [k1 A (by omega) M0.1.2.2.1]
        refine r_icmp_eq 55 dX9_joiner_30 (by decide) (fun c_30 => ?_) (fun c_30 => ?_)
        · first | refine r_incN4 rfl (by decide) dX9_joiner_55 ?_ | refine r_incP4 rfl (by decide) dX9_joiner_55 ?_
          refine r_goto 19 dX9_joiner_58 (by decide) ?_
          obtain ⟨e, rfl⟩ : ∃ e', e = e' + 1 := ⟨e - 1, by omega⟩
          first
            | (refine Ri.imp (ih _ e (u + 1) (by omega) (by omega) kx) (fun v h' q => ⟨?_, q.2⟩)
               rw [q.1, inF, if_neg (by simp [joP, c_41])])
            | (refine Ri.imp (ih _ e (u + 1) (by omega) (by omega) k1) (fun v h' q => ⟨?_, q.2⟩)
               rw [q.1, inF, if_neg (by simp [joP, c_30.symm])])
        · refine r_aload_n rfl dX9_joiner_33 ?_
          refine r_aload_n rfl dX9_joiner_34 ?_
          refine r_iload_n rfl dX9_joiner_35 ?_
          refine r_iload rfl dX9_joiner_36 ?_
          refine r_cV3i (T := TX9) (N := 21) moX9_gainIn lkX9_135 rfl rfl (Nat.le_of_ble_eq_true rfl) ⟨by decide, by decide⟩ (Nat.le_of_ble_eq_true rfl) dX9_joiner_38 rfl (m_gainIn (M0.keep k1) hln) (fun v21 h21 q21 => ?_)
          obtain ⟨ea, kx⟩ := q21
          rw [k1.eM, k1 A (by omega) M0.1.2.2.1] at ea
          subst ea
          have kx := k1.trans kx
          refine r_if_le 55 dX9_joiner_41 (by decide) (fun c_41 => ?_) (fun c_41 => ?_)
          · first | refine r_incN4 rfl (by decide) dX9_joiner_55 ?_ | refine r_incP4 rfl (by decide) dX9_joiner_55 ?_
            refine r_goto 19 dX9_joiner_58 (by decide) ?_
            obtain ⟨e, rfl⟩ : ∃ e', e = e' + 1 := ⟨e - 1, by omega⟩
            first
              | (refine Ri.imp (ih _ e (u + 1) (by omega) (by omega) kx) (fun v h' q => ⟨?_, q.2⟩)
                 rw [q.1, inF, if_neg (by simp [joP, c_41])])
              | (refine Ri.imp (ih _ e (u + 1) (by omega) (by omega) k1) (fun v h' q => ⟨?_, q.2⟩)
                 rw [q.1, inF, if_neg (by simp [joP, c_30.symm])])
          · refine r_bipush (v := (100 : Int32)) (by decide) dX9_joiner_44 ?_
            refine r_bipush (v := (10 : Int32)) (by decide) dX9_joiner_46 ?_
            refine r_iload_n rfl dX9_joiner_48 ?_
            refine r_imul dX9_joiner_49 ?_
            refine r_iadd dX9_joiner_50 ?_
            refine r_iload rfl dX9_joiner_51 ?_
            refine r_iadd dX9_joiner_53 ?_
            refine ret_i dX9_joiner_54 rfl ?_
            obtain ⟨e, rfl⟩ : ∃ e', e = e' + 1 := ⟨e - 1, by omega⟩
            exact ⟨by rw [inF, if_pos (by rw [joP]; exact decide_eq_true ⟨fun q => c_30 (Eq.symm q), c_41⟩)], kx⟩
  have loop : ∀ (z : Nat) (hh : Hp) (d l : Nat) {y : Option Value}, l + d = n → d < z → KM h hh → R g mX9_joiner 8 [some (.ref (ad g 62)), some (.ref (ad g A)), some (.int (nI (mx c n))), some (.int (nI l)), y] [] hh (Ri fun v h' => v = joF (eM h n) (h A) (mx c n) d l ∧ KM h h') := by
    intro z
    induction z with
    | zero => intro hh d l y a b; omega
    | succ z ih =>
      intro hh d l y a b k1
      refine r_iload_n rfl dX9_joiner_8 ?_
      refine r_aload_n rfl dX9_joiner_9 ?_
      refine r_getI foX9_55 rfl rfl dX9_joiner_10 ?_
      rw [k1 62 (by omega) (by omega), M0.2.2.1]
      refine r_icmp_ge 67 dX9_joiner_13 (by decide) (fun c_13 => ?_) (fun c_13 => ?_)
      · refine r_bipush (v := (-6 : Int32)) (by decide) dX9_joiner_67 ?_
        refine ret_i dX9_joiner_69 rfl ?_
        have e9 : l = n := by have := ge_y (by omega) (by omega) c_13; omega
        obtain rfl : d = 0 := by omega
        exact ⟨rfl, k1⟩
      · have hlk : l < n := ge_n (by omega) c_13
        refine r_iconst (v := nI 0) (by decide) dX9_joiner_16 ?_
        refine r_ist4 rfl (by decide) dX9_joiner_17 ?_
        obtain ⟨d, rfl⟩ : ∃ d', d = d' + 1 := ⟨d - 1, by omega⟩
        exact inner d l (by omega) (fun h2 _ k2 => ih h2 d (l + 1) (by omega) (by omega) k2) (mx c n + 1) hh (mx c n) 0 (by omega) (by omega) k1
  refine r_aload_n rfl dX9_joiner_0 ?_
  refine r_aload_n rfl dX9_joiner_1 ?_
  refine r_cV1i (T := TX9) (N := 21) moX9_manyOf lkX9_73 rfl rfl (Nat.le_of_ble_eq_true rfl) ⟨by decide, by decide⟩ (Nat.le_of_ble_eq_true rfl) dX9_joiner_2 rfl (m_manyOf M0.1.1 hn M0.2.2.1 M0.2.2.2.2.1 (fun l hl => by have := M0.2.2.2.2.2.1 l hl; omega)) (fun v1 h1 q1 => ?_)
  obtain ⟨e1, f1⟩ := q1
  subst f1
  rw [e1]
  refine r_ist2 rfl (by decide) dX9_joiner_5 ?_
  refine r_iconst (v := nI 0) (by decide) dX9_joiner_6 ?_
  refine r_ist3 rfl (by decide) dX9_joiner_7 ?_
  exact loop (n + 1) _ n 0 (by omega) (by omega) KM.refl

/-- the lands of the set are all those of one union -/
def isU (n : Nat) (r : Nat → Int32) (s : Int32) : Prop := ∃ f, f < n ∧ bt s f ∧ ∀ l, l < n → (bt s l ↔ r l = r f)
theorem bt_ex : ∀ n, n ≤ 6 → ∀ s, 0 < s → s < 2 ^ n → ∃ j, j < n ∧ bt (nI s) j := by
  have key : ∀ n, n < 7 → ∀ s, s < 2 ^ n → 0 < s → ∃ j, j < n ∧ bt (nI s) j := by decide +kernel
  exact fun n hn s h0 h1 => key n (by omega) s h1 h0
theorem bt_01 : ∀ s, s < 64 → ∀ j, j < 6 → ¬ (nI s >>> (nI j &&& 31)) &&& 1 = 0 → bt (nI s) j := by decide +kernel
/-- a union gathered anew: nobody gains -/
theorem isU_no {E : Ec} {r : Nat → Int32} {s : Int32} (hr : ∀ l, l < eN E → ¬ r l = -1) (h : isU (eN E) r s) : ¬ allG E r s := by
  obtain ⟨f, hf, hb, hl⟩ := h
  intro a
  have h1 := a f hf hb
  have e : goodS E (gath r s) f = goodS E r f := by
    refine goodS_pat (EcEq.refl _) (fun i j hi hj => ?_) hf
    show (if bt s i then -1 else r i) = (if bt s j then -1 else r j) ↔ _
    by_cases bi : bt s i
    · by_cases bj : bt s j
      · rw [if_pos bi, if_pos bj, (hl i hi).mp bi, (hl j hj).mp bj]
        simp
      · rw [if_pos bi, if_neg bj, (hl i hi).mp bi]
        exact ⟨fun q => absurd q.symm (hr j hj), fun q => absurd ((hl j hj).mpr q.symm) bj⟩
    · by_cases bj : bt s j
      · rw [if_neg bi, if_pos bj, (hl j hj).mp bj]
        exact ⟨fun q => absurd q (hr i hi), fun q => absurd ((hl i hi).mpr q) bi⟩
      · rw [if_neg bi, if_neg bj]
  rw [e] at h1
  exact absurd h1 (Int32.lt_irrefl)

set_option maxRecDepth 100000 in
set_option maxHeartbeats 400000 in
theorem m_isUnion {g : GG} {A n s : Nat} {h : Hp} (hA : shl[A]? = some (.inl 6)) (hn : n ≤ 6) (h0 : h 62 1 = nI n) (hs0 : 0 < s) (hs : s < 2 ^ n) : R g mX9_isUnion 0 [some (.ref (ad g 62)), some (.ref (ad g A)), some (.int (nI s)), none, none, none] [] h (Ri fun v h' => h' = h ∧ (v = 0 ∨ (v = 1 ∧ isU n (h A) (nI s)))) := by
  have hp6 := pow6 hn
  have loop2 : ∀ (f : Nat), f < n → bt (nI s) f → ∀ (v l : Nat) (x4 : Int32), l ≤ n → n < l + v → (x4 = 0 ∨ (x4 = 1 ∧ ∀ i, i < l → (bt (nI s) i ↔ h A i = h A f))) → R g mX9_isUnion 22 [some (.ref (ad g 62)), some (.ref (ad g A)), some (.int (nI s)), some (.int (nI f)), some (.int x4), some (.int (nI l))] [] h (Ri fun v h' => h' = h ∧ (v = 0 ∨ (v = 1 ∧ isU n (h A) (nI s)))) := by
    intro f hf hb v
    induction v with
    | zero => intro l x4 a b; omega
    | succ v ih =>
      intro l x4 a b hx
      refine r_iload rfl dX9_isUnion_22 ?_
      refine r_aload_n rfl dX9_isUnion_24 ?_
      refine r_getI foX9_55 rfl rfl dX9_isUnion_25 ?_
      rw [h0]
      refine r_icmp_ge 82 dX9_isUnion_28 (by decide) (fun c_28 => ?_) (fun c_28 => ?_)
      · have e : l = n := by have := ge_y (by omega) (by omega) c_28; omega
        subst e
        refine r_iload rfl dX9_isUnion_82 ?_
        rcases hx with hx | ⟨hx, hy⟩
        · exact ret_z dX9_isUnion_84 rfl (Or.inl hx) ⟨rfl, Or.inl hx⟩
        · exact ret_z dX9_isUnion_84 rfl (Or.inr hx) ⟨rfl, Or.inr ⟨hx, f, hf, hb, hy⟩⟩
      · have hlk : l < n := ge_n (by omega) c_28
        refine r_iload rfl dX9_isUnion_31 ?_
        refine r_if_eq 73 dX9_isUnion_33 (by decide) (fun c_33 => ?_) (fun c_33 => ?_)
        · refine r_iconst (v := (0 : Int32)) (by decide) dX9_isUnion_73 ?_
          refine r_ist4 rfl (by decide) dX9_isUnion_74 ?_
          first | refine r_incN5 rfl (by decide) dX9_isUnion_76 ?_ | refine r_incP5 rfl (by decide) dX9_isUnion_76 ?_
          refine r_goto 22 dX9_isUnion_79 (by decide) ?_
          first
            | exact absurd c_66 (by decide)
            | exact ih (l + 1) _ (by omega) (by omega) (Or.inr ⟨rfl, flagN (p := fun i => (bt (nI s) i ↔ h A i = h A f)) (hx.resolve_left c_33).2 (iff_of_true c_43 c_58)⟩)
            | exact ih (l + 1) _ (by omega) (by omega) (Or.inr ⟨rfl, flagN (p := fun i => (bt (nI s) i ↔ h A i = h A f)) (hx.resolve_left c_33).2 (iff_of_false c_43 c_58)⟩)
            | exact ih (l + 1) _ (by omega) (by omega) (Or.inl rfl)
        · refine r_iload_n rfl dX9_isUnion_36 ?_
          refine r_iload rfl dX9_isUnion_37 ?_
          refine r_ishr dX9_isUnion_39 ?_
          refine r_iconst (v := (1 : Int32)) (by decide) dX9_isUnion_40 ?_
          refine r_iand dX9_isUnion_41 ?_
          refine r_iconst (v := (1 : Int32)) (by decide) dX9_isUnion_42 ?_
          refine r_icmp_ne 50 dX9_isUnion_43 (by decide) (fun c_43 => ?_) (fun c_43 => ?_)
          · refine r_iconst (v := (0 : Int32)) (by decide) dX9_isUnion_50 ?_
            refine r_aload_n rfl dX9_isUnion_51 ?_
            refine r_iload rfl dX9_isUnion_52 ?_
            refine r_ild hA rfl (by omega) (by decide) dX9_isUnion_54 ?_
            refine r_aload_n rfl dX9_isUnion_55 ?_
            refine r_iload_n rfl dX9_isUnion_56 ?_
            refine r_ild hA rfl (by omega) (by decide) dX9_isUnion_57 ?_
            refine r_icmp_ne 65 dX9_isUnion_58 (by decide) (fun c_58 => ?_) (fun c_58 => ?_)
            · refine r_iconst (v := (0 : Int32)) (by decide) dX9_isUnion_65 ?_
              refine r_icmp_ne 73 dX9_isUnion_66 (by decide) (fun c_66 => ?_) (fun c_66 => ?_)
              · refine r_iconst (v := (0 : Int32)) (by decide) dX9_isUnion_73 ?_
                refine r_ist4 rfl (by decide) dX9_isUnion_74 ?_
                first | refine r_incN5 rfl (by decide) dX9_isUnion_76 ?_ | refine r_incP5 rfl (by decide) dX9_isUnion_76 ?_
                refine r_goto 22 dX9_isUnion_79 (by decide) ?_
                first
                  | exact absurd c_66 (by decide)
                  | exact ih (l + 1) _ (by omega) (by omega) (Or.inr ⟨rfl, flagN (p := fun i => (bt (nI s) i ↔ h A i = h A f)) (hx.resolve_left c_33).2 (iff_of_true c_43 c_58)⟩)
                  | exact ih (l + 1) _ (by omega) (by omega) (Or.inr ⟨rfl, flagN (p := fun i => (bt (nI s) i ↔ h A i = h A f)) (hx.resolve_left c_33).2 (iff_of_false c_43 c_58)⟩)
                  | exact ih (l + 1) _ (by omega) (by omega) (Or.inl rfl)
              · refine r_iconst (v := (1 : Int32)) (by decide) dX9_isUnion_69 ?_
                refine r_goto 74 dX9_isUnion_70 (by decide) ?_
                refine r_ist4 rfl (by decide) dX9_isUnion_74 ?_
                first | refine r_incN5 rfl (by decide) dX9_isUnion_76 ?_ | refine r_incP5 rfl (by decide) dX9_isUnion_76 ?_
                refine r_goto 22 dX9_isUnion_79 (by decide) ?_
                first
                  | exact absurd c_66 (by decide)
                  | exact ih (l + 1) _ (by omega) (by omega) (Or.inr ⟨rfl, flagN (p := fun i => (bt (nI s) i ↔ h A i = h A f)) (hx.resolve_left c_33).2 (iff_of_true c_43 c_58)⟩)
                  | exact ih (l + 1) _ (by omega) (by omega) (Or.inr ⟨rfl, flagN (p := fun i => (bt (nI s) i ↔ h A i = h A f)) (hx.resolve_left c_33).2 (iff_of_false c_43 c_58)⟩)
                  | exact ih (l + 1) _ (by omega) (by omega) (Or.inl rfl)
            · refine r_iconst (v := (1 : Int32)) (by decide) dX9_isUnion_61 ?_
              refine r_goto 66 dX9_isUnion_62 (by decide) ?_
              refine r_icmp_ne 73 dX9_isUnion_66 (by decide) (fun c_66 => ?_) (fun c_66 => ?_)
              · refine r_iconst (v := (0 : Int32)) (by decide) dX9_isUnion_73 ?_
                refine r_ist4 rfl (by decide) dX9_isUnion_74 ?_
                first | refine r_incN5 rfl (by decide) dX9_isUnion_76 ?_ | refine r_incP5 rfl (by decide) dX9_isUnion_76 ?_
                refine r_goto 22 dX9_isUnion_79 (by decide) ?_
                first
                  | exact absurd c_66 (by decide)
                  | exact ih (l + 1) _ (by omega) (by omega) (Or.inr ⟨rfl, flagN (p := fun i => (bt (nI s) i ↔ h A i = h A f)) (hx.resolve_left c_33).2 (iff_of_true c_43 c_58)⟩)
                  | exact ih (l + 1) _ (by omega) (by omega) (Or.inr ⟨rfl, flagN (p := fun i => (bt (nI s) i ↔ h A i = h A f)) (hx.resolve_left c_33).2 (iff_of_false c_43 c_58)⟩)
                  | exact ih (l + 1) _ (by omega) (by omega) (Or.inl rfl)
              · refine r_iconst (v := (1 : Int32)) (by decide) dX9_isUnion_69 ?_
                refine r_goto 74 dX9_isUnion_70 (by decide) ?_
                refine r_ist4 rfl (by decide) dX9_isUnion_74 ?_
                first | refine r_incN5 rfl (by decide) dX9_isUnion_76 ?_ | refine r_incP5 rfl (by decide) dX9_isUnion_76 ?_
                refine r_goto 22 dX9_isUnion_79 (by decide) ?_
                first
                  | exact absurd c_66 (by decide)
                  | exact ih (l + 1) _ (by omega) (by omega) (Or.inr ⟨rfl, flagN (p := fun i => (bt (nI s) i ↔ h A i = h A f)) (hx.resolve_left c_33).2 (iff_of_true c_43 c_58)⟩)
                  | exact ih (l + 1) _ (by omega) (by omega) (Or.inr ⟨rfl, flagN (p := fun i => (bt (nI s) i ↔ h A i = h A f)) (hx.resolve_left c_33).2 (iff_of_false c_43 c_58)⟩)
                  | exact ih (l + 1) _ (by omega) (by omega) (Or.inl rfl)
          · refine r_iconst (v := (1 : Int32)) (by decide) dX9_isUnion_46 ?_
            refine r_goto 51 dX9_isUnion_47 (by decide) ?_
            refine r_aload_n rfl dX9_isUnion_51 ?_
            refine r_iload rfl dX9_isUnion_52 ?_
            refine r_ild hA rfl (by omega) (by decide) dX9_isUnion_54 ?_
            refine r_aload_n rfl dX9_isUnion_55 ?_
            refine r_iload_n rfl dX9_isUnion_56 ?_
            refine r_ild hA rfl (by omega) (by decide) dX9_isUnion_57 ?_
            refine r_icmp_ne 65 dX9_isUnion_58 (by decide) (fun c_58 => ?_) (fun c_58 => ?_)
            · refine r_iconst (v := (0 : Int32)) (by decide) dX9_isUnion_65 ?_
              refine r_icmp_ne 73 dX9_isUnion_66 (by decide) (fun c_66 => ?_) (fun c_66 => ?_)
              · refine r_iconst (v := (0 : Int32)) (by decide) dX9_isUnion_73 ?_
                refine r_ist4 rfl (by decide) dX9_isUnion_74 ?_
                first | refine r_incN5 rfl (by decide) dX9_isUnion_76 ?_ | refine r_incP5 rfl (by decide) dX9_isUnion_76 ?_
                refine r_goto 22 dX9_isUnion_79 (by decide) ?_
                first
                  | exact absurd c_66 (by decide)
                  | exact ih (l + 1) _ (by omega) (by omega) (Or.inr ⟨rfl, flagN (p := fun i => (bt (nI s) i ↔ h A i = h A f)) (hx.resolve_left c_33).2 (iff_of_true c_43 c_58)⟩)
                  | exact ih (l + 1) _ (by omega) (by omega) (Or.inr ⟨rfl, flagN (p := fun i => (bt (nI s) i ↔ h A i = h A f)) (hx.resolve_left c_33).2 (iff_of_false c_43 c_58)⟩)
                  | exact ih (l + 1) _ (by omega) (by omega) (Or.inl rfl)
              · refine r_iconst (v := (1 : Int32)) (by decide) dX9_isUnion_69 ?_
                refine r_goto 74 dX9_isUnion_70 (by decide) ?_
                refine r_ist4 rfl (by decide) dX9_isUnion_74 ?_
                first | refine r_incN5 rfl (by decide) dX9_isUnion_76 ?_ | refine r_incP5 rfl (by decide) dX9_isUnion_76 ?_
                refine r_goto 22 dX9_isUnion_79 (by decide) ?_
                first
                  | exact absurd c_66 (by decide)
                  | exact ih (l + 1) _ (by omega) (by omega) (Or.inr ⟨rfl, flagN (p := fun i => (bt (nI s) i ↔ h A i = h A f)) (hx.resolve_left c_33).2 (iff_of_true c_43 c_58)⟩)
                  | exact ih (l + 1) _ (by omega) (by omega) (Or.inr ⟨rfl, flagN (p := fun i => (bt (nI s) i ↔ h A i = h A f)) (hx.resolve_left c_33).2 (iff_of_false c_43 c_58)⟩)
                  | exact ih (l + 1) _ (by omega) (by omega) (Or.inl rfl)
            · refine r_iconst (v := (1 : Int32)) (by decide) dX9_isUnion_61 ?_
              refine r_goto 66 dX9_isUnion_62 (by decide) ?_
              refine r_icmp_ne 73 dX9_isUnion_66 (by decide) (fun c_66 => ?_) (fun c_66 => ?_)
              · refine r_iconst (v := (0 : Int32)) (by decide) dX9_isUnion_73 ?_
                refine r_ist4 rfl (by decide) dX9_isUnion_74 ?_
                first | refine r_incN5 rfl (by decide) dX9_isUnion_76 ?_ | refine r_incP5 rfl (by decide) dX9_isUnion_76 ?_
                refine r_goto 22 dX9_isUnion_79 (by decide) ?_
                first
                  | exact absurd c_66 (by decide)
                  | exact ih (l + 1) _ (by omega) (by omega) (Or.inr ⟨rfl, flagN (p := fun i => (bt (nI s) i ↔ h A i = h A f)) (hx.resolve_left c_33).2 (iff_of_true c_43 c_58)⟩)
                  | exact ih (l + 1) _ (by omega) (by omega) (Or.inr ⟨rfl, flagN (p := fun i => (bt (nI s) i ↔ h A i = h A f)) (hx.resolve_left c_33).2 (iff_of_false c_43 c_58)⟩)
                  | exact ih (l + 1) _ (by omega) (by omega) (Or.inl rfl)
              · refine r_iconst (v := (1 : Int32)) (by decide) dX9_isUnion_69 ?_
                refine r_goto 74 dX9_isUnion_70 (by decide) ?_
                refine r_ist4 rfl (by decide) dX9_isUnion_74 ?_
                first | refine r_incN5 rfl (by decide) dX9_isUnion_76 ?_ | refine r_incP5 rfl (by decide) dX9_isUnion_76 ?_
                refine r_goto 22 dX9_isUnion_79 (by decide) ?_
                first
                  | exact absurd c_66 (by decide)
                  | exact ih (l + 1) _ (by omega) (by omega) (Or.inr ⟨rfl, flagN (p := fun i => (bt (nI s) i ↔ h A i = h A f)) (hx.resolve_left c_33).2 (iff_of_true c_43 c_58)⟩)
                  | exact ih (l + 1) _ (by omega) (by omega) (Or.inr ⟨rfl, flagN (p := fun i => (bt (nI s) i ↔ h A i = h A f)) (hx.resolve_left c_33).2 (iff_of_false c_43 c_58)⟩)
                  | exact ih (l + 1) _ (by omega) (by omega) (Or.inl rfl)
  obtain ⟨j, hj, hjb⟩ := bt_ex n hn s hs0 hs
  have loop1 : ∀ (v f : Nat), f ≤ j → j < f + v → R g mX9_isUnion 2 [some (.ref (ad g 62)), some (.ref (ad g A)), some (.int (nI s)), some (.int (nI f)), none, none] [] h (Ri fun v h' => h' = h ∧ (v = 0 ∨ (v = 1 ∧ isU n (h A) (nI s)))) := by
    intro v
    induction v with
    | zero => intro f a b; omega
    | succ v ih =>
      intro f a b
      refine r_iload_n rfl dX9_isUnion_2 ?_
      refine r_iload_n rfl dX9_isUnion_3 ?_
      refine r_ishr dX9_isUnion_4 ?_
      refine r_iconst (v := (1 : Int32)) (by decide) dX9_isUnion_5 ?_
      refine r_iand dX9_isUnion_6 ?_
      refine r_if_ne 16 dX9_isUnion_7 (by decide) (fun c_7 => ?_) (fun c_7 => ?_)
      · refine r_iconst (v := (1 : Int32)) (by decide) dX9_isUnion_16 ?_
        refine r_ist4 rfl (by decide) dX9_isUnion_17 ?_
        refine r_iconst (v := nI 0) (by decide) dX9_isUnion_19 ?_
        refine r_ist5 rfl (by decide) dX9_isUnion_20 ?_
        exact loop2 f (by omega) (bt_01 s (by omega) f (by omega) c_7) (n + 1) 0 _ (by omega) (by omega) (Or.inr ⟨rfl, fun l hl => by omega⟩)
      · first | refine r_incN3 rfl (by decide) dX9_isUnion_10 ?_ | refine r_incP3 rfl (by decide) dX9_isUnion_10 ?_
        refine r_goto 2 dX9_isUnion_13 (by decide) ?_
        have hne : ¬ f = j := fun e => by subst e; rw [hjb] at c_7; exact absurd c_7 (by decide)
        exact ih (f + 1) (by omega) (by omega)
  refine r_iconst (v := nI 0) (by decide) dX9_isUnion_0 ?_
  refine r_ist3 rfl (by decide) dX9_isUnion_1 ?_
  exact loop1 (j + 1) 0 (by omega) (by omega)

