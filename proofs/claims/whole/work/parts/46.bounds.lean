/-! how large the numbers of a market are -/
theorem smF_bd0 {T r : Nat → Int32} {u : Int32} {n B : Nat} (hT : ∀ l, l < n → Bd 0 B (T l)) : ∀ l, l ≤ n → ∃ z, smF T r u l = nI z ∧ z ≤ B * ctF r u l := by
  intro l
  induction l with
  | zero => intro _; exact ⟨0, nI_0.symm, by omega⟩
  | succ l ih =>
    intro hl
    obtain ⟨z, h1, h2⟩ := ih (by omega)
    obtain ⟨a, e, a1, a2⟩ := hT l (by omega)
    rw [smF, ctF]
    by_cases q : r l = u
    · rw [if_pos q, if_pos q]
      exact ⟨z + a, by rw [h1, e, nI_add], by rw [Nat.mul_add, Nat.mul_one]; omega⟩
    · rw [if_neg q, if_neg q]
      exact ⟨z, h1, h2⟩
theorem mnF_bd {T r : Nat → Int32} {n k B : Nat} {a : Int32} (ha : Bd 0 B a) (hT : ∀ l, l < n → Bd 0 B (T l)) : ∀ l, l ≤ n → Bd 0 B (mnF T r k a l) := by
  intro l
  induction l with
  | zero => intro _; exact ha
  | succ l ih =>
    intro hl
    rw [mnF]
    split
    · split
      · exact ih (by omega)
      · exact hT l (by omega)
    · exact ih (by omega)
theorem mxF_bd {T r : Nat → Int32} {n k B : Nat} {a : Int32} (ha : Bd 0 B a) (hT : ∀ l, l < n → Bd 0 B (T l)) : ∀ l, l ≤ n → Bd 0 B (mxF T r k a l) := by
  intro l
  induction l with
  | zero => intro _; exact ha
  | succ l ih =>
    intro hl
    rw [mxF]
    split
    · split
      · exact ih (by omega)
      · exact hT l (by omega)
    · exact ih (by omega)
theorem wall_bd {E : Ec} {r : Nat → Int32} {k : Nat} (h : EOK E) (hk : k < eN E) : Bd 0 60 (wallS E r k) := by
  have hT : ∀ l, l < eN E → Bd 0 60 (eT E l) := fun l hl => (h.2.1 l hl).2.2.2
  have hn := h.1
  rw [wallS]
  split
  · exact mnF_bd (hT k hk) hT _ (Nat.le_refl _)
  · split
    · exact mxF_bd (hT k hk) hT _ (Nat.le_refl _)
    · obtain ⟨z, h1, h2⟩ := smF_bd0 (r := r) (u := r k) hT (eN E) (Nat.le_refl _)
      have h3 := ctF_le r (r k) (eN E)
      have h4 := ctF_pos (r := r) (k := k) rfl (eN E) hk
      rw [h1, pk_div (by omega) h4 (by omega)]
      exact ⟨_, rfl, Nat.zero_le _, by
        have : z / ctF r (r k) (eN E) ≤ 60 := by
          apply Nat.le_of_lt_succ
          rw [Nat.div_lt_iff_lt_mul h4]
          omega
        exact this⟩
theorem ask_bd {E : Ec} {r : Nat → Int32} {k l : Nat} {wa : Int32} (h : EOK E) (hw : Bd 0 60 wa) (hl : l < eN E) : Bd 0 179 (askS E r k wa l) := by
  obtain ⟨c, e1, c1, c2⟩ := (h.2.1 l hl).2.1
  obtain ⟨g, e2, g1, g2⟩ := (h.2.1 l hl).2.2.1
  obtain ⟨w, e3, w1, w2⟩ := hw
  rw [askS, e1, e2, e3]
  split
  · exact ⟨c + g, nI_add c g, by omega, by omega⟩
  · exact ⟨c + g + w, by rw [nI_add, nI_add], by omega, by omega⟩
theorem ask_lt {E : Ec} {r : Nat → Int32} {k l : Nat} {wa : Int32} (h : EOK E) (hw : Bd 0 60 wa) (hl : l < eN E) : ¬ (1000 : Int32) ≤ askS E r k wa l := by
  obtain ⟨a, e, _, a2⟩ := ask_bd (r := r) (k := k) h hw hl
  rw [e, show (1000 : Int32) = nI 1000 by decide]
  exact nI_ge (by omega) (by omega)
theorem by_bd {f : Nat → Int32} {k : Nat} : ∀ {n : Nat}, (∀ l, l < n → Bd 0 179 (f l)) → ∀ l, 0 < l → l ≤ n → Bd 0 179 (byF f k l).2 := by
  intro n hf l
  induction l with
  | zero => intro h; omega
  | succ l ih =>
    intro _ hl
    rw [byF]
    by_cases q : l = 0
    · subst q
      obtain ⟨a, e, a1, a2⟩ := hf 0 (by omega)
      rw [if_neg (by show ¬ (1000 : Int32) ≤ f 0; rw [e, show (1000 : Int32) = nI 1000 by decide]; exact nI_ge (by omega) (by omega))]
      exact ⟨a, e, a1, a2⟩
    · split
      · exact ih (by omega) (by omega)
      · exact hf l (by omega)
/-- how many are bought, told either way -/
theorem off_iff {a b : Int32} {A B : Nat} (ha : Bd 0 A a) (hb : Bd 0 B b) (hA : A < 2 ^ 29) (hB : B < 2 ^ 29) : a - b ≤ 0 ↔ a ≤ b := by
  obtain ⟨x, e1, _, x2⟩ := ha
  obtain ⟨y, e2, _, y2⟩ := hb
  subst e1; subst e2
  constructor
  · intro q
    refine nI_le ?_ (by omega)
    rcases Nat.lt_or_ge y x with z | z
    · obtain ⟨d, rfl⟩ : ∃ d, x = d + y := ⟨x - y, by omega⟩
      rw [← nI_add, Int32.add_sub_cancel] at q
      exact absurd q (nI_nle (by omega) (by omega))
    · exact z
  · intro q
    have z := (nI_leI (by omega) (by omega)).mp q
    obtain ⟨d, rfl⟩ : ∃ d, y = x + d := ⟨y - x, by omega⟩
    rw [← nI_add, sub_sub', Int32.sub_self, Int32.zero_sub]
    apply Int32.le_iff_toInt_le.mpr
    have h0 : (0 : Int32).toInt = 0 := by decide
    have h1 : (-(nI d)).toInt = -((d : Nat) : Int) := by
      rw [Int32.toInt_neg, nI_toInt (by omega), Int.bmod_eq_of_le (by omega) (by omega)]
    rw [h1, h0]
    omega
