/-- the reference's lands -/
def eM (h : Hp) (n : Nat) : Ec := (n, fun l => h 63 (4 * l), fun l => h 63 (4 * l + 1), fun l => h 63 (4 * l + 2), fun l => h 63 (4 * l + 3), h 62 2, h 62 3)
theorem ix4 (l j : Nat) : 4 * nI l + nI j = nI (4 * l + j) := by rw [show (4 : Int32) = nI 4 by decide, nI_mul, nI_add]
theorem ix40 (l : Nat) : 4 * nI l = nI (4 * l) := by rw [show (4 : Int32) = nI 4 by decide, nI_mul]
/-! least and greatest, as numbers -/
def mnN (t : Nat → Nat) (r : Nat → Int32) (k a : Nat) : Nat → Nat
  | 0 => a
  | l + 1 => if r l = r k then min (mnN t r k a l) (t l) else mnN t r k a l
def mxN (t : Nat → Nat) (r : Nat → Int32) (k a : Nat) : Nat → Nat
  | 0 => a
  | l + 1 => if r l = r k then max (mxN t r k a l) (t l) else mxN t r k a l
theorem mnN_min (t : Nat → Nat) (r : Nat → Int32) (k a b : Nat) : ∀ l, mnN t r k (min a b) l = min a (mnN t r k b l) := by
  intro l
  induction l with
  | zero => rfl
  | succ l ih =>
    rw [mnN, mnN, ih]
    split <;> omega
theorem mxN_max (t : Nat → Nat) (r : Nat → Int32) (k a b : Nat) : ∀ l, mxN t r k (max a b) l = max a (mxN t r k b l) := by
  intro l
  induction l with
  | zero => rfl
  | succ l ih =>
    rw [mxN, mxN, ih]
    split <;> omega
theorem mnN_le (t : Nat → Nat) (r : Nat → Int32) (k a : Nat) : ∀ l, k < l → mnN t r k a l ≤ t k := by
  intro l
  induction l with
  | zero => intro h; omega
  | succ l ih =>
    intro h
    rw [mnN]
    by_cases e : l = k
    · subst e; rw [if_pos rfl]; omega
    · have := ih (by omega)
      split <;> omega
theorem mxN_ge (t : Nat → Nat) (r : Nat → Int32) (k a : Nat) : ∀ l, k < l → t k ≤ mxN t r k a l := by
  intro l
  induction l with
  | zero => intro h; omega
  | succ l ih =>
    intro h
    rw [mxN]
    by_cases e : l = k
    · subst e; rw [if_pos rfl]; omega
    · have := ih (by omega)
      split <;> omega
theorem mnF_N {T r : Nat → Int32} {t : Nat → Nat} {n k a : Nat} (ha : a < 2 ^ 30) (hT : ∀ l, l < n → T l = nI (t l) ∧ t l < 2 ^ 30) : ∀ l, l ≤ n → mnF T r k (nI a) l = nI (mnN t r k a l) ∧ mnN t r k a l < 2 ^ 30 := by
  intro l
  induction l with
  | zero => intro _; exact ⟨rfl, ha⟩
  | succ l ih =>
    intro hl
    obtain ⟨h1, h2⟩ := ih (by omega)
    obtain ⟨h3, h4⟩ := hT l (by omega)
    rw [mnF, mnN, h1, h3]
    by_cases e : r l = r k
    · rw [if_pos e, if_pos e]
      by_cases q : mnN t r k a l ≤ t l
      · rw [if_pos (nI_le q (by omega)), show min (mnN t r k a l) (t l) = mnN t r k a l by omega]; exact ⟨rfl, h2⟩
      · rw [if_neg (nI_ge (by omega) (by omega)), show min (mnN t r k a l) (t l) = t l by omega]; exact ⟨rfl, h4⟩
    · rw [if_neg e, if_neg e]; exact ⟨rfl, h2⟩
theorem mxF_N {T r : Nat → Int32} {t : Nat → Nat} {n k a : Nat} (ha : a < 2 ^ 30) (hT : ∀ l, l < n → T l = nI (t l) ∧ t l < 2 ^ 30) : ∀ l, l ≤ n → mxF T r k (nI a) l = nI (mxN t r k a l) ∧ mxN t r k a l < 2 ^ 30 := by
  intro l
  induction l with
  | zero => intro _; exact ⟨rfl, ha⟩
  | succ l ih =>
    intro hl
    obtain ⟨h1, h2⟩ := ih (by omega)
    obtain ⟨h3, h4⟩ := hT l (by omega)
    rw [mxF, mxN, h1, h3]
    by_cases e : r l = r k
    · rw [if_pos e, if_pos e]
      by_cases q : t l ≤ mxN t r k a l
      · rw [if_pos (nI_le q (by omega)), show max (mxN t r k a l) (t l) = mxN t r k a l by omega]; exact ⟨rfl, h2⟩
      · rw [if_neg (nI_ge (by omega) (by omega)), show max (mxN t r k a l) (t l) = t l by omega]; exact ⟨rfl, h4⟩
    · rw [if_neg e, if_neg e]; exact ⟨rfl, h2⟩
/-- from 100 down, or from the land's own toll down: the same -/
theorem wall_init {T r : Nat → Int32} {n k : Nat} (hk : k < n) (hT : ∀ l, l < n → Bd 0 60 (T l)) : mnF T r k 100 n = mnF T r k (T k) n ∧ mxF T r k 0 n = mxF T r k (T k) n := by
  have ht : ∀ l, ∃ a, l < n → T l = nI a ∧ a ≤ 60 := fun l => by
    by_cases q : l < n
    · obtain ⟨a, e, _, a2⟩ := hT l q
      exact ⟨a, fun _ => ⟨e, a2⟩⟩
    · exact ⟨0, fun z => absurd z q⟩
  obtain ⟨t, hs⟩ : ∃ t : Nat → Nat, ∀ l, l < n → T l = nI (t l) ∧ t l ≤ 60 := ⟨fun l => (ht l).choose, fun l hl => (ht l).choose_spec hl⟩
  have hN : ∀ l, l < n → T l = nI (t l) ∧ t l < 2 ^ 30 := fun l hl => ⟨(hs l hl).1, by have := (hs l hl).2; omega⟩
  have hk3 := hs k hk
  constructor
  · rw [hk3.1, show (100 : Int32) = nI 100 by decide, (mnF_N (by omega) hN n (Nat.le_refl _)).1, (mnF_N (by omega) hN n (Nat.le_refl _)).1]
    have h1 := mnN_min t r k (t k) 100 n
    have h2 := mnN_le t r k 100 n hk
    rw [show min (t k) 100 = t k by omega] at h1
    rw [h1]
    congr 1
    omega
  · rw [hk3.1, show (0 : Int32) = nI 0 by decide, (mxF_N (by omega) hN n (Nat.le_refl _)).1, (mxF_N (by omega) hN n (Nat.le_refl _)).1]
    have h1 := mxN_max t r k (t k) 0 n
    have h2 := mxN_ge t r k 0 n hk
    rw [show max (t k) 0 = t k by omega] at h1
    rw [h1]
    congr 1
    omega
theorem wallM_at (h : Hp) (n : Nat) (r : Nat → Int32) (k : Nat) : wallS (eM h n) r k = if h 62 2 = 0 then mnF (eT (eM h n)) r k (eT (eM h n) k) n else if h 62 2 = 1 then mxF (eT (eM h n)) r k (eT (eM h n) k) n else smF (eT (eM h n)) r (r k) n / nI (ctF r (r k) n) := rfl

set_option maxRecDepth 100000 in
set_option maxHeartbeats 400000 in
theorem m_wallOf {g : GG} {A n k : Nat} {h : Hp} (hA : shl[A]? = some (.inl 6)) (hn : n ≤ 6) (h0 : h 62 1 = nI n) (hk : k < n) (hT : ∀ l, l < n → Bd 0 60 (eT (eM h n) l)) : R g mX9_wallOf 0 [some (.ref (ad g 62)), some (.ref (ad g A)), some (.int (nI k)), none, none, none, none, none, none] [] h (Ri fun v h' => h' = h ∧ v = wallS (eM h n) (h A) k) := by
  have loop : ∀ (z l : Nat) (x3 x4 x5 x6 : Int32) (y : Option Value), l ≤ n → n < l + z → x3 = mnF (eT (eM h n)) (h A) k 100 l → x4 = mxF (eT (eM h n)) (h A) k 0 l → x5 = smF (eT (eM h n)) (h A) (h A k) l → x6 = nI (ctF (h A) (h A k) l) → R g mX9_wallOf 15 [some (.ref (ad g 62)), some (.ref (ad g A)), some (.int (nI k)), some (.int x3), some (.int x4), some (.int x5), some (.int x6), some (.int (nI l)), y] [] h (Ri fun v h' => h' = h ∧ v = wallS (eM h n) (h A) k) := by
    intro z
    induction z with
    | zero => intro l x3 x4 x5 x6 y a b; omega
    | succ z ih =>
      intro l x3 x4 x5 x6 y a b e3 e4 e5 e6
      subst e3; subst e4; subst e5; subst e6
      refine r_iload rfl dX9_wallOf_15 ?_
      refine r_aload_n rfl dX9_wallOf_17 ?_
      refine r_getI foX9_55 rfl rfl dX9_wallOf_18 ?_
      rw [h0]
      refine r_icmp_ge 92 dX9_wallOf_21 (by decide) (fun c_21 => ?_) (fun c_21 => ?_)
      · refine r_aload_n rfl dX9_wallOf_92 ?_
        refine r_getI foX9_85 rfl rfl dX9_wallOf_93 ?_
        refine r_if_ne 103 dX9_wallOf_96 (by decide) (fun c_96 => ?_) (fun c_96 => ?_)
        · refine r_aload_n rfl dX9_wallOf_103 ?_
          refine r_getI foX9_85 rfl rfl dX9_wallOf_104 ?_
          refine r_iconst (v := (1 : Int32)) (by decide) dX9_wallOf_107 ?_
          refine r_icmp_ne 116 dX9_wallOf_108 (by decide) (fun c_108 => ?_) (fun c_108 => ?_)
          · refine r_iload rfl dX9_wallOf_116 ?_
            refine r_iload rfl dX9_wallOf_118 ?_
            refine r_idiv (nI_ne0 (ctF_pos rfl l (by have e : l = n := by { have := ge_y (by omega) (by omega) c_21; omega }; omega)) (by have := ctF_le (h A) (h A k) l; omega)) dX9_wallOf_120 ?_
            refine ret_i dX9_wallOf_121 rfl ?_
            have e : l = n := by have := ge_y (by omega) (by omega) c_21; omega
            subst e
            refine ⟨rfl, ?_⟩
            first
              | rw [wallM_at, if_pos c_96, (wall_init hk hT).1]
              | rw [wallM_at, if_neg c_96, if_pos c_108, (wall_init hk hT).2]
              | rw [wallM_at, if_neg c_96, if_neg c_108]
          · refine r_iload rfl dX9_wallOf_111 ?_
            refine r_goto 121 dX9_wallOf_113 (by decide) ?_
            refine ret_i dX9_wallOf_121 rfl ?_
            have e : l = n := by have := ge_y (by omega) (by omega) c_21; omega
            subst e
            refine ⟨rfl, ?_⟩
            first
              | rw [wallM_at, if_pos c_96, (wall_init hk hT).1]
              | rw [wallM_at, if_neg c_96, if_pos c_108, (wall_init hk hT).2]
              | rw [wallM_at, if_neg c_96, if_neg c_108]
        · refine r_iload_n rfl dX9_wallOf_99 ?_
          refine r_goto 121 dX9_wallOf_100 (by decide) ?_
          refine ret_i dX9_wallOf_121 rfl ?_
          have e : l = n := by have := ge_y (by omega) (by omega) c_21; omega
          subst e
          refine ⟨rfl, ?_⟩
          first
            | rw [wallM_at, if_pos c_96, (wall_init hk hT).1]
            | rw [wallM_at, if_neg c_96, if_pos c_108, (wall_init hk hT).2]
            | rw [wallM_at, if_neg c_96, if_neg c_108]
      · have hlk : l < n := ge_n (by omega) c_21
        refine r_aload_n rfl dX9_wallOf_24 ?_
        refine r_iload rfl dX9_wallOf_25 ?_
        refine r_ild hA rfl (by omega) (by decide) dX9_wallOf_27 ?_
        refine r_aload_n rfl dX9_wallOf_28 ?_
        refine r_iload_n rfl dX9_wallOf_29 ?_
        refine r_ild hA rfl (by omega) (by decide) dX9_wallOf_30 ?_
        refine r_icmp_ne 86 dX9_wallOf_31 (by decide) (fun c_31 => ?_) (fun c_31 => ?_)
        · first | refine r_incN7 rfl (by decide) dX9_wallOf_86 ?_ | refine r_incP7 rfl (by decide) dX9_wallOf_86 ?_
          refine r_goto 15 dX9_wallOf_89 (by decide) ?_
          refine ih (l + 1) _ _ _ _ _ (by omega) (by omega) ?_ ?_ ?_ ?_
          all_goals first
            | (simp [mnF, mxF, smF, ctF, c_31, c_50, c_64]; done)
            | (simp [mnF, mxF, smF, ctF, c_31]; done)
        · refine r_aload_n rfl dX9_wallOf_34 ?_
          refine r_getR foX9_7 rfl rfl dX9_wallOf_35 ?_
          refine r_iconst (v := (4 : Int32)) (by decide) dX9_wallOf_38 ?_
          refine r_iload rfl dX9_wallOf_39 ?_
          refine r_imul dX9_wallOf_41 ?_
          refine r_iconst (v := nI 3) (by decide) dX9_wallOf_42 ?_
          refine r_iadd dX9_wallOf_43 ?_
          rw [ix4]
          refine r_ild rfl rfl (by omega) (by decide) dX9_wallOf_44 ?_
          rw [show h 63 (4 * l + 3) = eT (eM h n) l from rfl]
          refine r_ist8 rfl (by decide) dX9_wallOf_45 ?_
          refine r_iload rfl dX9_wallOf_47 ?_
          refine r_iload_n rfl dX9_wallOf_49 ?_
          refine r_icmp_ge 58 dX9_wallOf_50 (by decide) (fun c_50 => ?_) (fun c_50 => ?_)
          · refine r_iload_n rfl dX9_wallOf_58 ?_
            refine r_ist3 rfl (by decide) dX9_wallOf_59 ?_
            refine r_iload rfl dX9_wallOf_60 ?_
            refine r_iload rfl dX9_wallOf_62 ?_
            refine r_icmp_le 72 dX9_wallOf_64 (by decide) (fun c_64 => ?_) (fun c_64 => ?_)
            · refine r_iload rfl dX9_wallOf_72 ?_
              refine r_ist4 rfl (by decide) dX9_wallOf_74 ?_
              refine r_iload rfl dX9_wallOf_76 ?_
              refine r_iload rfl dX9_wallOf_78 ?_
              refine r_iadd dX9_wallOf_80 ?_
              refine r_ist5 rfl (by decide) dX9_wallOf_81 ?_
              first | refine r_incN6 rfl (by decide) dX9_wallOf_83 ?_ | refine r_incP6 rfl (by decide) dX9_wallOf_83 ?_
              first | refine r_incN7 rfl (by decide) dX9_wallOf_86 ?_ | refine r_incP7 rfl (by decide) dX9_wallOf_86 ?_
              refine r_goto 15 dX9_wallOf_89 (by decide) ?_
              refine ih (l + 1) _ _ _ _ _ (by omega) (by omega) ?_ ?_ ?_ ?_
              all_goals first
                | (simp [mnF, mxF, smF, ctF, c_31, c_50, c_64]; done)
                | (simp [mnF, mxF, smF, ctF, c_31]; done)
            · refine r_iload rfl dX9_wallOf_67 ?_
              refine r_goto 74 dX9_wallOf_69 (by decide) ?_
              refine r_ist4 rfl (by decide) dX9_wallOf_74 ?_
              refine r_iload rfl dX9_wallOf_76 ?_
              refine r_iload rfl dX9_wallOf_78 ?_
              refine r_iadd dX9_wallOf_80 ?_
              refine r_ist5 rfl (by decide) dX9_wallOf_81 ?_
              first | refine r_incN6 rfl (by decide) dX9_wallOf_83 ?_ | refine r_incP6 rfl (by decide) dX9_wallOf_83 ?_
              first | refine r_incN7 rfl (by decide) dX9_wallOf_86 ?_ | refine r_incP7 rfl (by decide) dX9_wallOf_86 ?_
              refine r_goto 15 dX9_wallOf_89 (by decide) ?_
              refine ih (l + 1) _ _ _ _ _ (by omega) (by omega) ?_ ?_ ?_ ?_
              all_goals first
                | (simp [mnF, mxF, smF, ctF, c_31, c_50, c_64]; done)
                | (simp [mnF, mxF, smF, ctF, c_31]; done)
          · refine r_iload rfl dX9_wallOf_53 ?_
            refine r_goto 59 dX9_wallOf_55 (by decide) ?_
            refine r_ist3 rfl (by decide) dX9_wallOf_59 ?_
            refine r_iload rfl dX9_wallOf_60 ?_
            refine r_iload rfl dX9_wallOf_62 ?_
            refine r_icmp_le 72 dX9_wallOf_64 (by decide) (fun c_64 => ?_) (fun c_64 => ?_)
            · refine r_iload rfl dX9_wallOf_72 ?_
              refine r_ist4 rfl (by decide) dX9_wallOf_74 ?_
              refine r_iload rfl dX9_wallOf_76 ?_
              refine r_iload rfl dX9_wallOf_78 ?_
              refine r_iadd dX9_wallOf_80 ?_
              refine r_ist5 rfl (by decide) dX9_wallOf_81 ?_
              first | refine r_incN6 rfl (by decide) dX9_wallOf_83 ?_ | refine r_incP6 rfl (by decide) dX9_wallOf_83 ?_
              first | refine r_incN7 rfl (by decide) dX9_wallOf_86 ?_ | refine r_incP7 rfl (by decide) dX9_wallOf_86 ?_
              refine r_goto 15 dX9_wallOf_89 (by decide) ?_
              refine ih (l + 1) _ _ _ _ _ (by omega) (by omega) ?_ ?_ ?_ ?_
              all_goals first
                | (simp [mnF, mxF, smF, ctF, c_31, c_50, c_64]; done)
                | (simp [mnF, mxF, smF, ctF, c_31]; done)
            · refine r_iload rfl dX9_wallOf_67 ?_
              refine r_goto 74 dX9_wallOf_69 (by decide) ?_
              refine r_ist4 rfl (by decide) dX9_wallOf_74 ?_
              refine r_iload rfl dX9_wallOf_76 ?_
              refine r_iload rfl dX9_wallOf_78 ?_
              refine r_iadd dX9_wallOf_80 ?_
              refine r_ist5 rfl (by decide) dX9_wallOf_81 ?_
              first | refine r_incN6 rfl (by decide) dX9_wallOf_83 ?_ | refine r_incP6 rfl (by decide) dX9_wallOf_83 ?_
              first | refine r_incN7 rfl (by decide) dX9_wallOf_86 ?_ | refine r_incP7 rfl (by decide) dX9_wallOf_86 ?_
              refine r_goto 15 dX9_wallOf_89 (by decide) ?_
              refine ih (l + 1) _ _ _ _ _ (by omega) (by omega) ?_ ?_ ?_ ?_
              all_goals first
                | (simp [mnF, mxF, smF, ctF, c_31, c_50, c_64]; done)
                | (simp [mnF, mxF, smF, ctF, c_31]; done)
  refine r_bipush (v := (100 : Int32)) (by decide) dX9_wallOf_0 ?_
  refine r_ist3 rfl (by decide) dX9_wallOf_2 ?_
  refine r_iconst (v := (0 : Int32)) (by decide) dX9_wallOf_3 ?_
  refine r_ist4 rfl (by decide) dX9_wallOf_4 ?_
  refine r_iconst (v := (0 : Int32)) (by decide) dX9_wallOf_6 ?_
  refine r_ist5 rfl (by decide) dX9_wallOf_7 ?_
  refine r_iconst (v := nI 0) (by decide) dX9_wallOf_9 ?_
  refine r_ist6 rfl (by decide) dX9_wallOf_10 ?_
  refine r_iconst (v := nI 0) (by decide) dX9_wallOf_12 ?_
  refine r_ist7 rfl (by decide) dX9_wallOf_13 ?_
  exact loop (n + 1) 0 _ _ _ _ _ (by omega) (by omega) rfl rfl rfl rfl

