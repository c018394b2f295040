/-! the goal of a land that goes: the first of the best -/
/-- the places where k may go, in their order: alone, then the unions -/
def lbl (o : Nat) : Int32 := if o = 0 then -1 else nI (o - 1)
def cand (E : Ec) (r : Nat → Int32) (k o : Nat) : Prop := o = 0 ∨ (nLess E r k (lbl o) ∧ ¬ r k = lbl o)
def vN (E : Ec) (r : Nat → Int32) (k : Nat) : Nat := (goodS E r k).toNatClampNeg
theorem vN_eq {E : Ec} {r : Nat → Int32} {k : Nat} (hE : EOK E) (hk : k < eN E) : goodS E r k = nI (vN E r k) ∧ vN E r k ≤ 8000000 := by
  obtain ⟨z, e, _, z2⟩ := good_bd (r := r) hE hk
  rw [vN, e, nI_clamp (by omega)]
  exact ⟨rfl, z2⟩
abbrev vO (E : Ec) (r : Nat → Int32) (k o : Nat) : Nat := vN E (upd r k (lbl o)) k
def Bst (E : Ec) (r : Nat → Int32) (k u o : Nat) : Prop := o ≤ u ∧ cand E r k o ∧ vN E r k < vO E r k o ∧ ∀ p, p ≤ u → cand E r k p → vO E r k p ≤ vO E r k o ∧ (p < o → vO E r k p < vO E r k o)
theorem sub_le {a b c : Nat} (ha : a ≤ 8000000) (hb : b ≤ 8000000) (hc : c ≤ 8000000) : nI a - nI b ≤ nI c ↔ a ≤ b + c := by
  rw [Int32.le_iff_toInt_le, pk_sub_toInt (by omega) (by omega), nI_toInt (by omega)]
  omega
theorem bg_best {E : Ec} {r : Nat → Int32} {k : Nat} (hE : EOK E) (hk : k < eN E) : ∀ u, ((∀ p, p ≤ u → cand E r k p → vO E r k p ≤ vN E r k) ∧ bgF E r k u = (-2, 0)) ∨ ∃ o, Bst E r k u o ∧ bgF E r k u = (lbl o, nI (vO E r k o - vN E r k)) := by
  have g0 := vN_eq (r := r) hE hk
  intro u
  induction u with
  | zero =>
    have v0 : goodS E (upd r k (lbl 0)) k = nI (vO E r k 0) ∧ vO E r k 0 ≤ 8000000 := vN_eq hE hk
    have e0 : gLv E r k = nI (vO E r k 0) - nI (vN E r k) := by rw [gLv, ← v0.1, ← g0.1]; rfl
    have hs := sub_le (c := 0) v0.2 g0.2 (by omega)
    rw [bgF, bgI, e0]
    by_cases q : nI (vO E r k 0) - nI (vN E r k) ≤ 0
    · rw [if_pos q]
      have := hs.mp q
      exact Or.inl ⟨fun p hp _ => by rw [show p = 0 by omega]; omega, rfl⟩
    · rw [if_neg q]
      have q2 : ¬ vO E r k 0 ≤ vN E r k := fun z => q (hs.mpr (by omega))
      exact Or.inr ⟨0, ⟨Nat.le_refl _, Or.inl rfl, by omega, fun p hp _ => by rw [show p = 0 by omega]; exact ⟨Nat.le_refl _, fun z => absurd z (Nat.lt_irrefl _)⟩⟩, by rw [nI_subk (by omega)]; rfl⟩
  | succ u ih =>
    have v1 : goodS E (upd r k (lbl (u + 1))) k = nI (vO E r k (u + 1)) ∧ vO E r k (u + 1) ≤ 8000000 := vN_eq hE hk
    have hl : lbl (u + 1) = nI u := by rw [lbl, if_neg (by omega)]; rfl
    rw [bgF]
    by_cases q : r k = nI u
    · rw [if_pos q]
      have nc : ¬ cand E r k (u + 1) := fun z => by
        rcases z with z | z
        · omega
        · exact z.2 (by rw [hl]; exact q)
      rcases ih with ⟨h1, h2⟩ | ⟨o, ⟨b1, b2, b3, b4⟩, h2⟩
      · refine Or.inl ⟨fun p hp hc => ?_, h2⟩
        by_cases z : p = u + 1
        · subst z; exact absurd hc nc
        · exact h1 p (by omega) hc
      · refine Or.inr ⟨o, ⟨by omega, b2, b3, fun p hp hc => ?_⟩, h2⟩
        by_cases z : p = u + 1
        · subst z; exact absurd hc nc
        · exact b4 p (by omega) hc
    · rw [if_neg q]
      by_cases hn : nLess E r k (nI u)
      · have hc1 : cand E r k (u + 1) := Or.inr ⟨by rw [hl]; exact hn, by rw [hl]; exact q⟩
        have ej : gJ E r k (nI u) = nI (vO E r k (u + 1)) - nI (vN E r k) := by rw [gJ, if_pos hn, ← hl, ← v1.1, ← g0.1]
        rw [ej]
        rcases ih with ⟨h1, h2⟩ | ⟨o, ⟨b1, b2, b3, b4⟩, h2⟩
        · rw [h2]
          have hs := sub_le (c := 0) v1.2 g0.2 (by omega)
          by_cases y : nI (vO E r k (u + 1)) - nI (vN E r k) ≤ 0
          · rw [if_pos y]
            have := hs.mp y
            refine Or.inl ⟨fun p hp hc => ?_, rfl⟩
            by_cases z : p = u + 1
            · subst z; omega
            · exact h1 p (by omega) hc
          · rw [if_neg y]
            have y2 : ¬ vO E r k (u + 1) ≤ vN E r k := fun z => y (hs.mpr (by omega))
            refine Or.inr ⟨u + 1, ⟨Nat.le_refl _, hc1, by omega, fun p hp hc => ?_⟩, by rw [hl, nI_subk (by omega)]⟩
            by_cases z : p = u + 1
            · subst z; exact ⟨Nat.le_refl _, fun x => absurd x (Nat.lt_irrefl _)⟩
            · have := h1 p (by omega) hc
              exact ⟨by omega, fun _ => by omega⟩
        · rw [h2]
          have vo : goodS E (upd r k (lbl o)) k = nI (vO E r k o) ∧ vO E r k o ≤ 8000000 := vN_eq hE hk
          have hs := sub_le (c := vO E r k o - vN E r k) v1.2 g0.2 (by have := vo.2; omega)
          by_cases y : nI (vO E r k (u + 1)) - nI (vN E r k) ≤ nI (vO E r k o - vN E r k)
          · rw [if_pos y]
            have := hs.mp y
            refine Or.inr ⟨o, ⟨by omega, b2, b3, fun p hp hc => ?_⟩, rfl⟩
            by_cases z : p = u + 1
            · subst z; exact ⟨by omega, fun x => by omega⟩
            · exact b4 p (by omega) hc
          · rw [if_neg y]
            have y2 : ¬ vO E r k (u + 1) ≤ vO E r k o := fun z => y (hs.mpr (by omega))
            refine Or.inr ⟨u + 1, ⟨Nat.le_refl _, hc1, by omega, fun p hp hc => ?_⟩, by rw [hl, nI_subk (by omega)]⟩
            by_cases z : p = u + 1
            · subst z; exact ⟨Nat.le_refl _, fun x => absurd x (Nat.lt_irrefl _)⟩
            · have := (b4 p (by omega) hc).1
              exact ⟨by omega, fun _ => by omega⟩
      · have nc : ¬ cand E r k (u + 1) := fun z => by
          rcases z with z | z
          · omega
          · exact hn (by rw [← hl]; exact z.1)
        have ej : gJ E r k (nI u) = 0 := by rw [gJ, if_neg hn]
        rw [ej]
        rcases ih with ⟨h1, h2⟩ | ⟨o, ⟨b1, b2, b3, b4⟩, h2⟩
        · rw [h2, if_pos (Int32.le_refl _)]
          refine Or.inl ⟨fun p hp hc => ?_, rfl⟩
          by_cases z : p = u + 1
          · subst z; exact absurd hc nc
          · exact h1 p (by omega) hc
        · have vo : goodS E (upd r k (lbl o)) k = nI (vO E r k o) ∧ vO E r k o ≤ 8000000 := vN_eq hE hk
          rw [h2, if_pos (nI_pos' (by have := vo.2; omega))]
          refine Or.inr ⟨o, ⟨by omega, b2, b3, fun p hp hc => ?_⟩, rfl⟩
          by_cases z : p = u + 1
          · subst z; exact absurd hc nc
          · exact b4 p (by omega) hc
theorem fg_some {E : Ec} {r : Nat → Int32} {U l : Nat} {gl : Int32} : ∀ d x, fgF E r U d x = some (l, gl) → gl = (bgF E r l U).1 ∧ ¬ (bgF E r l U).1 = -2 := by
  intro d
  induction d with
  | zero => intro x h; rw [fgF] at h; cases h
  | succ d ih =>
    intro x h
    rw [fgF] at h
    by_cases q : (bgF E r x U).1 = -2
    · rw [if_pos q] at h; exact ih _ h
    · rw [if_neg q] at h
      injection h with h
      injection h with h1 h2
      subst h1
      exact ⟨h2.symm, q⟩
/-- a step, told by its best place -/
theorem stp_best {E : Ec} {n x x' : Nat} {c c' : Nat → Nat} (hE : EOK E) (hn : eN E = n) (h : StpT E n c x c' x') : ∃ k o, k < n ∧ Bst E (lab c) k (mx c n) o ∧ CanOf n (upd (lab c) k (lbl o)) c' ∧ x' = bh n k := by
  obtain ⟨l, gl, h1, h2, h3, h4⟩ := h
  obtain ⟨g1, g2⟩ := fg_some _ _ h1
  rcases bg_best (r := lab c) hE (show l < eN E by omega) (mx c n) with ⟨_, e⟩ | ⟨o, b, e⟩
  · rw [e] at g2; exact absurd rfl g2
  · rw [e] at g1
    exact ⟨l, o, h2, b, by rw [← show gl = lbl o from g1]; exact h3, h4⟩
