theorem upd_eq (f : Nat → Int32) (k : Nat) (x : Int32) : upd f k x k = x := by simp [upd]
theorem upd_ne {f : Nat → Int32} {k j : Nat} {x : Int32} (hj : ¬ j = k) : upd f k x j = f j := by simp [upd, hj]
def uc (c : Nat → Nat) (k x : Nat) : Nat → Nat := fun j => if j = k then x else c j
theorem uc_eq (c : Nat → Nat) (k x : Nat) : uc c k x k = x := by simp [uc]
theorem uc_ne {c : Nat → Nat} {k j x : Nat} (hj : ¬ j = k) : uc c k x j = c j := by simp [uc, hj]
theorem mx_uc (c : Nat → Nat) (l x : Nat) : mx (uc c l x) l = mx c l := mx_congr (fun j q => uc_ne (by omega))
/-- numbers handed out so far -/
def N1 (h : Hp) (P n l : Nat) (h1 : Hp) : Prop := (∀ q, ¬ q = P → ¬ q = P + 2 → h1 q = h q) ∧ h1 P 0 = nI n ∧ ∃ c, CanOf l (h (P + 1)) c ∧ (∀ j, j < l → h1 (P + 2) j = nI (c j)) ∧ h1 P 1 = nI (mx c l)
theorem N1_new {h h1 : Hp} {P n l : Nat} (H : N1 h P n l h1) (hf : ∀ j, j < l → ¬ h (P + 1) j = h (P + 1) l) : N1 h P n (l + 1) (hset (hset h1 (P + 2) l (h1 P 1)) P 1 (hset h1 (P + 2) l (h1 P 1) P 1 + 1)) := by
  obtain ⟨k1, k2, c, ⟨hc1, hc2⟩, k3, k4⟩ := H
  refine ⟨fun q a b => by rw [hset_ne a, hset_ne b]; exact k1 q a b, ?_, uc c l (mx c l), ⟨fun j hj => ?_, fun a b ha hb => ?_⟩, fun j hj => ?_, ?_⟩
  · rw [hset_same, upd_ne (by omega), hset_ne (by omega)]; exact k2
  · by_cases e : j = l
    · subst e; rw [uc_eq, mx_uc]; exact Nat.le_refl _
    · rw [uc_ne e, mx_congr (c' := c) (fun i q => uc_ne (by omega))]; exact hc1 j (by omega)
  · by_cases ea : a = l
    · subst ea
      by_cases eb : b = a
      · subst eb; simp
      · rw [uc_eq, uc_ne eb]
        have := mx_lt (c := c) (show b < a by omega)
        exact ⟨fun e => by omega, fun e => absurd e.symm (hf b (by omega))⟩
    · by_cases eb : b = l
      · subst eb
        rw [uc_eq, uc_ne ea]
        have := mx_lt (c := c) (show a < b by omega)
        exact ⟨fun e => by omega, fun e => absurd e (hf a (by omega))⟩
      · rw [uc_ne ea, uc_ne eb]; exact hc2 a b (by omega) (by omega)
  · rw [hset_ne (by omega), hset_same]
    by_cases e : j = l
    · subst e; rw [upd_eq, uc_eq]; exact k4
    · rw [upd_ne e, uc_ne e]; exact k3 j (by omega)
  · rw [hset_same, upd_eq, hset_ne (by omega), k4, mx, mx_uc, uc_eq, show max (mx c l) (mx c l + 1) = mx c l + 1 by omega]; exact nI_1 _
theorem N1_old {h h1 : Hp} {P n l f : Nat} (H : N1 h P n l h1) (hl : f < l) (hf : h (P + 1) f = h (P + 1) l) : N1 h P n (l + 1) (hset h1 (P + 2) l (h1 (P + 2) f)) := by
  obtain ⟨k1, k2, c, ⟨hc1, hc2⟩, k3, k4⟩ := H
  have hlt := mx_lt (c := c) hl
  refine ⟨fun q a b => by rw [hset_ne b]; exact k1 q a b, ?_, uc c l (c f), ⟨fun j hj => ?_, fun a b ha hb => ?_⟩, fun j hj => ?_, ?_⟩
  · rw [hset_ne (by omega)]; exact k2
  · by_cases e : j = l
    · subst e; rw [uc_eq, mx_uc]; omega
    · rw [uc_ne e, mx_congr (c' := c) (fun i q => uc_ne (by omega))]; exact hc1 j (by omega)
  · by_cases ea : a = l
    · subst ea
      by_cases eb : b = a
      · subst eb; simp
      · rw [uc_eq, uc_ne eb, ← hf]; exact hc2 f b hl (by omega)
    · by_cases eb : b = l
      · subst eb
        rw [uc_eq, uc_ne ea, ← hf]; exact hc2 a f (by omega) hl
      · rw [uc_ne ea, uc_ne eb]; exact hc2 a b (by omega) (by omega)
  · rw [hset_same]
    by_cases e : j = l
    · subst e; rw [upd_eq, uc_eq]; exact k3 f hl
    · rw [upd_ne e, uc_ne e]; exact k3 j (by omega)
  · rw [hset_ne (by omega), k4, mx, mx_uc, uc_eq, show max (mx c l) (c f + 1) = mx c l by omega]
/-- the rows, written back so far -/
def N2 (P l : Nat) (h1 h2 : Hp) : Prop := (∀ q, ¬ q = P + 1 → h2 q = h1 q) ∧ ∀ j, j < l → h2 (P + 1) j = h1 (P + 2) j
theorem N2_step {P l : Nat} {h1 h2 : Hp} (H : N2 P l h1 h2) : N2 P (l + 1) h1 (hset h2 (P + 1) l (h2 (P + 2) l)) := by
  refine ⟨fun q a => by rw [hset_ne a]; exact H.1 q a, fun j hj => ?_⟩
  rw [hset_same]
  by_cases e : j = l
  · subst e; rw [upd_eq, H.1 _ (by omega)]
  · rw [upd_ne e]; exact H.2 j (by omega)

set_option maxRecDepth 100000 in
theorem c_number {g : GG} {P n : Nat} {h : Hp} (hP : PartAt P) (hn : n ≤ 6) (h0 : h P 0 = nI n) : R g mX6_number 0 [some (.ref (ad g P)), none, none] [] h (Rv fun h' => KeepP P h h' ∧ ∃ c, CanOf n (h (P + 1)) c ∧ PS h' P n c) := by
  have loop2 : ∀ (h1 : Hp), N1 h P n n h1 → ∀ (m l : Nat) (h2 : Hp) {z : Option Value}, l ≤ n → n < l + m → N2 P l h1 h2 → R g mX6_number 69 [some (.ref (ad g P)), some (.int (nI l)), z] [] h2 (Rv fun h' => KeepP P h h' ∧ ∃ c, CanOf n (h (P + 1)) c ∧ PS h' P n c) := by
    intro h1 H1 m
    induction m with
    | zero => intro l h2 z a b; omega
    | succ m ih =>
      intro l h2 z a b H2
      have hn0 : h2 P 0 = nI n := by rw [H2.1 _ (by omega)]; exact H1.2.1
      refine r_iload_n rfl dX6_number_69 ?_
      refine r_aload_n rfl dX6_number_70 ?_
      refine r_getI foX6_18 hP.1 rfl dX6_number_71 ?_
      refine r_icmp_ge 95 dX6_number_74 (by decide) (fun c_74 => ?_) (fun c_74 => ?_)
      · refine ret_v dX6_number_95 rfl ?_
        rw [hn0] at c_74
        have e : l = n := by have := ge_y (by omega) (by omega) c_74; omega
        subst e
        obtain ⟨k1, k2, c, hc, k3, k4⟩ := H1
        refine ⟨fun q a b d => by rw [H2.1 q b]; exact k1 q a d, c, hc, hn0, by rw [H2.1 _ (by omega)]; exact k4, fun j hj => by rw [H2.2 j hj]; exact k3 j hj⟩
      · rw [hn0] at c_74
        have hlk : l < n := ge_n (by omega) c_74
        refine r_aload_n rfl dX6_number_77 ?_
        refine r_getR foX6_9 hP.1 rfl dX6_number_78 ?_
        refine r_iload_n rfl dX6_number_81 ?_
        refine r_aload_n rfl dX6_number_82 ?_
        refine r_getR foX6_15 hP.1 rfl dX6_number_83 ?_
        refine r_iload_n rfl dX6_number_86 ?_
        refine r_ild hP.2.2 rfl (by omega) (by decide) dX6_number_87 ?_
        refine r_ias hP.2.1 rfl (by omega) (by decide) dX6_number_88 ?_
        first | refine r_incN1 rfl (by decide) dX6_number_89 ?_ | refine r_incP1 rfl (by decide) dX6_number_89 ?_
        refine r_goto 69 dX6_number_92 (by decide) ?_
        exact ih (l + 1) _ (by omega) (by omega) (N2_step H2)
  have loop : ∀ (m l : Nat) (h1 : Hp) {z : Option Value}, l ≤ n → n < l + m → N1 h P n l h1 → R g mX6_number 7 [some (.ref (ad g P)), some (.int (nI l)), z] [] h1 (Rv fun h' => KeepP P h h' ∧ ∃ c, CanOf n (h (P + 1)) c ∧ PS h' P n c) := by
    intro m
    induction m with
    | zero => intro l h1 z a b; omega
    | succ m ih =>
      intro l h1 z a b H
      refine r_iload_n rfl dX6_number_7 ?_
      refine r_aload_n rfl dX6_number_8 ?_
      refine r_getI foX6_18 hP.1 rfl dX6_number_9 ?_
      refine r_icmp_ge 67 dX6_number_12 (by decide) (fun c_12 => ?_) (fun c_12 => ?_)
      · rw [H.2.1] at c_12
        have e : l = n := by have := ge_y (by omega) (by omega) c_12; omega
        subst e
        refine r_iconst (v := nI 0) (by decide) dX6_number_67 ?_
        refine r_ist1 rfl (by decide) dX6_number_68 ?_
        exact loop2 _ H (l + 1) 0 _ (by omega) (by omega) ⟨fun _ _ => rfl, fun j hj => by omega⟩
      · rw [H.2.1] at c_12
        have hlk : l < n := ge_n (by omega) c_12
        refine r_aload_n rfl dX6_number_15 ?_
        refine r_iload_n rfl dX6_number_16 ?_
        refine r_cV1i (T := TX6) (N := 4) moX6_firstLike lkX6_34 hP.1 rfl (Nat.le_of_ble_eq_true rfl) ⟨by decide, by decide⟩ (Nat.le_of_ble_eq_true rfl) dX6_number_17 rfl (c_firstLike hP (by omega)) (fun v1 h1 q1 => ?_)
        obtain ⟨e1, f, e, hf1, hf2, hf3⟩ := q1
        subst e
        rw [e1]
        rw [H.1 (P + 1) (by omega) (by omega)] at hf2 hf3
        refine r_ist2 rfl (by decide) dX6_number_20 ?_
        refine r_iload_n rfl dX6_number_21 ?_
        refine r_iload_n rfl dX6_number_22 ?_
        refine r_icmp_ne 49 dX6_number_23 (by decide) (fun c_23 => ?_) (fun c_23 => ?_)
        · have hfl : f < l := by
            rcases Nat.lt_or_ge f l with q | q
            · exact q
            · exact absurd (by rw [show f = l by omega]) c_23
          refine r_aload_n rfl dX6_number_49 ?_
          refine r_getR foX6_15 hP.1 rfl dX6_number_50 ?_
          refine r_iload_n rfl dX6_number_53 ?_
          refine r_aload_n rfl dX6_number_54 ?_
          refine r_getR foX6_15 hP.1 rfl dX6_number_55 ?_
          refine r_iload_n rfl dX6_number_58 ?_
          refine r_ild hP.2.2 rfl (by omega) (by decide) dX6_number_59 ?_
          refine r_ias hP.2.2 rfl (by omega) (by decide) dX6_number_60 ?_
          first | refine r_incN1 rfl (by decide) dX6_number_61 ?_ | refine r_incP1 rfl (by decide) dX6_number_61 ?_
          refine r_goto 7 dX6_number_64 (by decide) ?_
          first
            | exact ih (f + 1) _ (by omega) (by omega) (N1_new H hf3)
            | exact ih (l + 1) _ (by omega) (by omega) (N1_old H hfl hf2)
        · have e : f = l := nI_inj (by omega) (by omega) c_23
          subst e
          refine r_aload_n rfl dX6_number_26 ?_
          refine r_getR foX6_15 hP.1 rfl dX6_number_27 ?_
          refine r_iload_n rfl dX6_number_30 ?_
          refine r_aload_n rfl dX6_number_31 ?_
          refine r_getI foX6_22 hP.1 rfl dX6_number_32 ?_
          refine r_ias hP.2.2 rfl (by omega) (by decide) dX6_number_35 ?_
          refine r_aload_n rfl dX6_number_36 ?_
          refine r_dup rfl dX6_number_37 ?_
          refine r_getI foX6_22 hP.1 rfl dX6_number_38 ?_
          refine r_iconst (v := (1 : Int32)) (by decide) dX6_number_41 ?_
          refine r_iadd dX6_number_42 ?_
          refine r_putI fpX6_22 hP.1 rfl dX6_number_43 ?_
          refine r_goto 61 dX6_number_46 (by decide) ?_
          first | refine r_incN1 rfl (by decide) dX6_number_61 ?_ | refine r_incP1 rfl (by decide) dX6_number_61 ?_
          refine r_goto 7 dX6_number_64 (by decide) ?_
          first
            | exact ih (f + 1) _ (by omega) (by omega) (N1_new H hf3)
            | exact ih (l + 1) _ (by omega) (by omega) (N1_old H hfl hf2)
  refine r_aload_n rfl dX6_number_0 ?_
  refine r_iconst (v := (0 : Int32)) (by decide) dX6_number_1 ?_
  refine r_putI fpX6_22 hP.1 rfl dX6_number_2 ?_
  refine r_iconst (v := nI 0) (by decide) dX6_number_5 ?_
  refine r_ist1 rfl (by decide) dX6_number_6 ?_
  exact loop (n + 1) 0 _ (by omega) (by omega) ⟨fun q a _ => hset_ne a, by rw [hset_same, upd_ne (by omega)]; exact h0, fun _ => 0, ⟨fun j hj => by omega, fun a b ha => by omega⟩, fun j hj => by omega, by rw [hset_same, upd_eq]; rfl⟩

