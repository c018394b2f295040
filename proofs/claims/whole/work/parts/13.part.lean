theorem ge_n {l k : Nat} (hl : l < 2 ^ 31) (c : ¬ nI k ≤ nI l) : l < k := by
  rcases Nat.lt_or_ge l k with q | q
  · exact q
  · exact absurd (nI_le q hl) c
theorem ge_y {l k : Nat} (hl : l < 2 ^ 31) (hk : k < 2 ^ 31) (c : nI k ≤ nI l) : k ≤ l := (nI_leI hk hl).mp c
def PartAt (P : Nat) : Prop := shl[P]? = some (.inr (6, [none, none, some (P + 1), some (P + 2)])) ∧ shl[P + 1]? = some (.inl 6) ∧ shl[P + 2]? = some (.inl 6)
def PS (h : Hp) (P n : Nat) (c : Nat → Nat) : Prop := h P 0 = nI n ∧ h P 1 = nI (mx c n) ∧ ∀ l, l < n → h (P + 1) l = nI (c l)
def KeepP (P : Nat) (h h' : Hp) : Prop := ∀ q, ¬ q = P → ¬ q = P + 1 → ¬ q = P + 2 → h' q = h q

set_option maxRecDepth 100000 in
theorem c_firstLike {g : GG} {P k : Nat} {h : Hp} (hP : PartAt P) (hk : k < 6) : R g mX6_firstLike 0 [some (.ref (ad g P)), some (.int (nI k)), none] [] h (Ri fun v h' => h' = h ∧ ∃ f, v = nI f ∧ f ≤ k ∧ h (P + 1) f = h (P + 1) k ∧ ∀ j, j < f → ¬ h (P + 1) j = h (P + 1) k) := by
  have loop : ∀ (n l : Nat), l ≤ k → k < l + n → (∀ j, j < l → ¬ h (P + 1) j = h (P + 1) k) → R g mX6_firstLike 2 [some (.ref (ad g P)), some (.int (nI k)), some (.int (nI l))] [] h (Ri fun v h' => h' = h ∧ ∃ f, v = nI f ∧ f ≤ k ∧ h (P + 1) f = h (P + 1) k ∧ ∀ j, j < f → ¬ h (P + 1) j = h (P + 1) k) := by
    intro n
    induction n with
    | zero => intro l h1 h2; omega
    | succ n ih =>
      intro l h1 h2 hf
      refine r_iload_n rfl dX6_firstLike_2 ?_
      refine r_iload_n rfl dX6_firstLike_3 ?_
      refine r_icmp_ge 30 dX6_firstLike_4 (by decide) (fun c_4 => ?_) (fun c_4 => ?_)
      · refine r_iload_n rfl dX6_firstLike_30 ?_
        refine ret_i dX6_firstLike_31 rfl ?_
        have e : l = k := by have := (nI_leI (by omega) (by omega)).mp c_4; omega
        subst e
        exact ⟨rfl, l, rfl, Nat.le_refl _, rfl, hf⟩
      · have hlk : l < k := ge_n (by omega) c_4
        refine r_aload_n rfl dX6_firstLike_7 ?_
        refine r_getR foX6_9 hP.1 rfl dX6_firstLike_8 ?_
        refine r_iload_n rfl dX6_firstLike_11 ?_
        refine r_ild hP.2.1 rfl (by omega) (by decide) dX6_firstLike_12 ?_
        refine r_aload_n rfl dX6_firstLike_13 ?_
        refine r_getR foX6_9 hP.1 rfl dX6_firstLike_14 ?_
        refine r_iload_n rfl dX6_firstLike_17 ?_
        refine r_ild hP.2.1 rfl (by omega) (by decide) dX6_firstLike_18 ?_
        refine r_icmp_ne 24 dX6_firstLike_19 (by decide) (fun c_19 => ?_) (fun c_19 => ?_)
        · first | refine r_incN2 rfl (by decide) dX6_firstLike_24 ?_ | refine r_incP2 rfl (by decide) dX6_firstLike_24 ?_
          refine r_goto 2 dX6_firstLike_27 (by decide) ?_
          exact ih (l + 1) (by omega) (by omega) (fun j hj => by
            rcases Nat.lt_or_ge j l with q | q
            · exact hf j q
            · have e : j = l := by omega
              subst e; assumption)
        · refine r_iload_n rfl dX6_firstLike_22 ?_
          refine ret_i dX6_firstLike_23 rfl ?_
          exact ⟨rfl, l, rfl, by omega, by assumption, hf⟩
  refine r_iconst (v := nI 0) (by decide) dX6_firstLike_0 ?_
  refine r_ist2 rfl (by decide) dX6_firstLike_1 ?_
  exact loop (k + 1) 0 (by omega) (by omega) (fun j hj => by omega)

theorem sub1 (m : Nat) : nI m - 1 + 1 = nI m := by rw [Int32.sub_add_cancel]
theorem mx_step {m x : Nat} (hm : m < 2 ^ 30) (hx : x < 2 ^ 30) : (if nI m - 1 < nI x then nI x else nI m - 1) = nI (max m (x + 1)) - 1 := by
  cases m with
  | zero =>
    have e : nI 0 - 1 = -1 := by decide
    have h1 : nI 0 - 1 < nI x := by
      rw [e]
      have h0 := nI_pos' (n := x) (by omega)
      exact Int32.lt_of_lt_of_le (by decide) h0
    rw [if_pos h1, show max 0 (x + 1) = x + 1 by omega, nI_pred]
  | succ m =>
    rw [nI_pred]
    by_cases q : m < x
    · rw [if_pos (nI_lt q (by omega)), show max (m + 1) (x + 1) = x + 1 by omega, nI_pred]
    · rw [if_neg (nI_nlt (by omega) (by omega)), show max (m + 1) (x + 1) = m + 1 by omega, nI_pred]
set_option maxRecDepth 100000 in
theorem c_unionsAhead {g : GG} {P k : Nat} {h : Hp} {c : Nat → Nat} (hP : PartAt P) (hk : k ≤ 6) (hc : ∀ l, l < k → h (P + 1) l = nI (c l)) (hb : ∀ l, l < k → c l < 100) : R g mX6_unionsAhead 0 [some (.ref (ad g P)), some (.int (nI k)), none, none] [] h (Ri fun v h' => h' = h ∧ v = nI (mx c k)) := by
  have hm : ∀ l, l ≤ k → mx c l < 101 := by
    intro l
    induction l with
    | zero => intro _; simp [mx]
    | succ l ih => intro hl; have := ih (by omega); have := hb l (by omega); simp only [mx]; omega
  have loop : ∀ (n l : Nat), l ≤ k → k < l + n → R g mX6_unionsAhead 4 [some (.ref (ad g P)), some (.int (nI k)), some (.int (nI (mx c l) - 1)), some (.int (nI l))] [] h (Ri fun v h' => h' = h ∧ v = nI (mx c k)) := by
    intro n
    induction n with
    | zero => intro l h1 h2; omega
    | succ n ih =>
      intro l h1 h2
      refine r_iload_n rfl dX6_unionsAhead_4 ?_
      refine r_iload_n rfl dX6_unionsAhead_5 ?_
      refine r_icmp_ge 26 dX6_unionsAhead_6 (by decide) (fun c_6 => ?_) (fun c_6 => ?_)
      · refine r_iload_n rfl dX6_unionsAhead_26 ?_
        refine r_iconst (v := (1 : Int32)) (by decide) dX6_unionsAhead_27 ?_
        refine r_iadd dX6_unionsAhead_28 ?_
        refine ret_i dX6_unionsAhead_29 rfl ?_
        refine ⟨rfl, ?_⟩
        have e : l = k := by have := (nI_leI (by omega) (by omega)).mp c_6; omega
        subst e
        exact sub1 _
      · have hlk : l < k := ge_n (by omega) c_6
        refine r_iload_n rfl dX6_unionsAhead_9 ?_
        refine r_aload_n rfl dX6_unionsAhead_10 ?_
        refine r_getR foX6_9 hP.1 rfl dX6_unionsAhead_11 ?_
        refine r_iload_n rfl dX6_unionsAhead_14 ?_
        refine r_ild hP.2.1 rfl (by omega) (by decide) dX6_unionsAhead_15 ?_
        refine r_max lkX6_41 ⟨by decide, Nat.le_of_ble_eq_true rfl⟩ dX6_unionsAhead_16 ?_
        refine r_ist2 rfl (by decide) dX6_unionsAhead_19 ?_
        first | refine r_incN3 rfl (by decide) dX6_unionsAhead_20 ?_ | refine r_incP3 rfl (by decide) dX6_unionsAhead_20 ?_
        refine r_goto 4 dX6_unionsAhead_23 (by decide) ?_
        rw [hc l (by omega), mx_step (by have := hm l (by omega); omega) (by have := hb l (by omega); omega)]
        exact ih (l + 1) (by omega) (by omega)
  refine r_iconst (v := (-1 : Int32)) (by decide) dX6_unionsAhead_0 ?_
  refine r_ist2 rfl (by decide) dX6_unionsAhead_1 ?_
  refine r_iconst (v := nI 0) (by decide) dX6_unionsAhead_2 ?_
  refine r_ist3 rfl (by decide) dX6_unionsAhead_3 ?_
  exact loop (k + 1) 0 (by omega) (by omega)

