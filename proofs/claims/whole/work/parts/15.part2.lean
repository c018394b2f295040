theorem KeepP.trans {P : Nat} {h h1 h2 : Hp} (a : KeepP P h h1) (b : KeepP P h1 h2) : KeepP P h h2 := fun q x y z => (b q x y z).trans (a q x y z)
theorem KeepP.set {P i : Nat} {h h1 : Hp} {x : Int32} (a : KeepP P h h1) : KeepP P h (hset h1 P i x) := fun q u v z => (hset_ne u).trans (a q u v z)
theorem KeepP.row {P i : Nat} {h h1 : Hp} {x : Int32} (a : KeepP P h h1) : KeepP P h (hset h1 (P + 1) i x) := fun q u v z => (hset_ne v).trans (a q u v z)
theorem KeepP.refl {P : Nat} {h : Hp} : KeepP P h h := fun _ _ _ _ => rfl
/-- is the j-th in the set s -/
abbrev bt (s : Int32) (j : Nat) : Prop := (s >>> (nI j &&& 31)) &&& 1 = 1

set_option maxRecDepth 100000 in
theorem c_leave {g : GG} {P n k : Nat} {h : Hp} (hP : PartAt P) (hn : n ≤ 6) (hk : k < 6) (h0 : h P 0 = nI n) : R g mX6_leave 0 [some (.ref (ad g P)), some (.int (nI k))] [] h (Rv fun h' => KeepP P h h' ∧ ∃ c', CanOf n (upd (h (P + 1)) k (-1)) c' ∧ PS h' P n c') := by
  refine r_aload_n rfl dX6_leave_0 ?_
  refine r_getR foX6_9 hP.1 rfl dX6_leave_1 ?_
  refine r_iload_n rfl dX6_leave_4 ?_
  refine r_iconst (v := (-1 : Int32)) (by decide) dX6_leave_5 ?_
  refine r_ias hP.2.1 rfl (by omega) (by decide) dX6_leave_6 ?_
  refine r_aload_n rfl dX6_leave_7 ?_
  refine r_cV0v (T := TX6) (N := 4) moX6_number lkX6_31 hP.1 rfl (Nat.le_of_ble_eq_true rfl) ⟨by decide, by decide⟩ (Nat.le_of_ble_eq_true rfl) dX6_leave_8 rfl (c_number hP hn (by rw [hset_ne (by omega)]; exact h0)) (fun h1 q1 => ?_)
  refine ret_v dX6_leave_11 rfl ?_
  obtain ⟨a, c', b, d⟩ := q1
  rw [hset_same] at b
  exact ⟨KeepP.trans (KeepP.row KeepP.refl) a, c', b, d⟩

set_option maxRecDepth 100000 in
theorem c_move {g : GG} {P n k : Nat} {u : Int32} {h : Hp} (hP : PartAt P) (hn : n ≤ 6) (hk : k < 6) (h0 : h P 0 = nI n) : R g mX6_move 0 [some (.ref (ad g P)), some (.int (nI k)), some (.int u)] [] h (Rv fun h' => KeepP P h h' ∧ ∃ c', CanOf n (upd (h (P + 1)) k u) c' ∧ PS h' P n c') := by
  refine r_aload_n rfl dX6_move_0 ?_
  refine r_getR foX6_9 hP.1 rfl dX6_move_1 ?_
  refine r_iload_n rfl dX6_move_4 ?_
  refine r_iload_n rfl dX6_move_5 ?_
  refine r_ias hP.2.1 rfl (by omega) (by decide) dX6_move_6 ?_
  refine r_aload_n rfl dX6_move_7 ?_
  refine r_cV0v (T := TX6) (N := 4) moX6_number lkX6_31 hP.1 rfl (Nat.le_of_ble_eq_true rfl) ⟨by decide, by decide⟩ (Nat.le_of_ble_eq_true rfl) dX6_move_8 rfl (c_number hP hn (by rw [hset_ne (by omega)]; exact h0)) (fun h1 q1 => ?_)
  refine ret_v dX6_move_11 rfl ?_
  obtain ⟨a, c', b, d⟩ := q1
  rw [hset_same] at b
  exact ⟨KeepP.trans (KeepP.row KeepP.refl) a, c', b, d⟩

def L1 (P l : Nat) (f : Nat → Int32) (h h1 : Hp) : Prop := (∀ q, ¬ q = P + 1 → h1 q = h q) ∧ (∀ j, j < l → h1 (P + 1) j = f j) ∧ ∀ j, l ≤ j → h1 (P + 1) j = h (P + 1) j
theorem L1_set {P l : Nat} {f : Nat → Int32} {h h1 : Hp} {x : Int32} (H : L1 P l f h h1) (hx : x = f l) : L1 P (l + 1) f h (hset h1 (P + 1) l x) := by
  refine ⟨fun q a => by rw [hset_ne a]; exact H.1 q a, fun j hj => ?_, fun j hj => ?_⟩
  · rw [hset_same]
    by_cases e : j = l
    · subst e; rw [upd_eq, hx]
    · rw [upd_ne e]; exact H.2.1 j (by omega)
  · rw [hset_same, upd_ne (by omega)]; exact H.2.2 j (by omega)
theorem L1_not {P l : Nat} {f : Nat → Int32} {h h1 : Hp} (H : L1 P l f h h1) (hx : h (P + 1) l = f l) : L1 P (l + 1) f h h1 := by
  refine ⟨H.1, fun j hj => ?_, fun j hj => H.2.2 j (by omega)⟩
  by_cases e : j = l
  · subst e; rw [H.2.2 j (Nat.le_refl _), hx]
  · exact H.2.1 j (by omega)
theorem L1_0 {P : Nat} {f : Nat → Int32} {h : Hp} : L1 P 0 f h h := ⟨fun _ _ => rfl, fun j hj => by omega, fun _ _ => rfl⟩

set_option maxRecDepth 100000 in
theorem c_gather {g : GG} {P n : Nat} {s : Int32} {h : Hp} (hP : PartAt P) (hn : n ≤ 6) (h0 : h P 0 = nI n) : R g mX6_gather 0 [some (.ref (ad g P)), some (.int s), none] [] h (Rv fun h' => KeepP P h h' ∧ ∃ c', CanOf n (fun j => if bt s j then -1 else h (P + 1) j) c' ∧ PS h' P n c') := by
  have loop : ∀ (m l : Nat) (h1 : Hp), l ≤ n → n < l + m → L1 P l (fun j => if bt s j then -1 else h (P + 1) j) h h1 → R g mX6_gather 2 [some (.ref (ad g P)), some (.int s), some (.int (nI l))] [] h1 (Rv fun h' => KeepP P h h' ∧ ∃ c', CanOf n (fun j => if bt s j then -1 else h (P + 1) j) c' ∧ PS h' P n c') := by
    intro m
    induction m with
    | zero => intro l h1 a b; omega
    | succ m ih =>
      intro l h1 a b H
      refine r_iload_n rfl dX6_gather_2 ?_
      refine r_aload_n rfl dX6_gather_3 ?_
      refine r_getI foX6_18 hP.1 rfl dX6_gather_4 ?_
      refine r_icmp_ge 32 dX6_gather_7 (by decide) (fun c_7 => ?_) (fun c_7 => ?_)
      · refine r_aload_n rfl dX6_gather_32 ?_
        refine r_cV0v (T := TX6) (N := 4) moX6_number lkX6_31 hP.1 rfl (Nat.le_of_ble_eq_true rfl) ⟨by decide, by decide⟩ (Nat.le_of_ble_eq_true rfl) dX6_gather_33 rfl (c_number hP hn (by rw [H.1 P (by omega)]; exact h0)) (fun h1 q1 => ?_)
        refine ret_v dX6_gather_36 rfl ?_
        rw [H.1 P (by omega), h0] at c_7
        have e : l = n := by have := ge_y (by omega) (by omega) c_7; omega
        subst e
        obtain ⟨a, c', b, d⟩ := q1
        exact ⟨KeepP.trans (fun q x y z => H.1 q y) a, c', b.congr H.2.1, d⟩
      · rw [H.1 P (by omega), h0] at c_7
        have hlk : l < n := ge_n (by omega) c_7
        refine r_iload_n rfl dX6_gather_10 ?_
        refine r_iload_n rfl dX6_gather_11 ?_
        refine r_ishr dX6_gather_12 ?_
        refine r_iconst (v := (1 : Int32)) (by decide) dX6_gather_13 ?_
        refine r_iand dX6_gather_14 ?_
        refine r_iconst (v := (1 : Int32)) (by decide) dX6_gather_15 ?_
        refine r_icmp_ne 26 dX6_gather_16 (by decide) (fun c_16 => ?_) (fun c_16 => ?_)
        · first | refine r_incN2 rfl (by decide) dX6_gather_26 ?_ | refine r_incP2 rfl (by decide) dX6_gather_26 ?_
          refine r_goto 2 dX6_gather_29 (by decide) ?_
          first
            | exact ih (l + 1) _ (by omega) (by omega) (L1_set H (if_pos c_16).symm)
            | exact ih (l + 1) _ (by omega) (by omega) (L1_not H (if_neg c_16).symm)
        · refine r_aload_n rfl dX6_gather_19 ?_
          refine r_getR foX6_9 hP.1 rfl dX6_gather_20 ?_
          refine r_iload_n rfl dX6_gather_23 ?_
          refine r_iconst (v := (-1 : Int32)) (by decide) dX6_gather_24 ?_
          refine r_ias hP.2.1 rfl (by omega) (by decide) dX6_gather_25 ?_
          first | refine r_incN2 rfl (by decide) dX6_gather_26 ?_ | refine r_incP2 rfl (by decide) dX6_gather_26 ?_
          refine r_goto 2 dX6_gather_29 (by decide) ?_
          first
            | exact ih (l + 1) _ (by omega) (by omega) (L1_set H (if_pos c_16).symm)
            | exact ih (l + 1) _ (by omega) (by omega) (L1_not H (if_neg c_16).symm)
  refine r_iconst (v := nI 0) (by decide) dX6_gather_0 ?_
  refine r_ist2 rfl (by decide) dX6_gather_1 ?_
  exact loop (n + 1) 0 _ (by omega) (by omega) L1_0

set_option maxRecDepth 100000 in
theorem c_scatter {g : GG} {P n : Nat} {u : Int32} {h : Hp} (hP : PartAt P) (hn : n ≤ 6) (h0 : h P 0 = nI n) : R g mX6_scatter 0 [some (.ref (ad g P)), some (.int u), none] [] h (Rv fun h' => KeepP P h h' ∧ ∃ c', CanOf n (fun j => if h (P + 1) j = u then -1 - nI j else h (P + 1) j) c' ∧ PS h' P n c') := by
  have loop : ∀ (m l : Nat) (h1 : Hp), l ≤ n → n < l + m → L1 P l (fun j => if h (P + 1) j = u then -1 - nI j else h (P + 1) j) h h1 → R g mX6_scatter 2 [some (.ref (ad g P)), some (.int u), some (.int (nI l))] [] h1 (Rv fun h' => KeepP P h h' ∧ ∃ c', CanOf n (fun j => if h (P + 1) j = u then -1 - nI j else h (P + 1) j) c' ∧ PS h' P n c') := by
    intro m
    induction m with
    | zero => intro l h1 a b; omega
    | succ m ih =>
      intro l h1 a b H
      refine r_iload_n rfl dX6_scatter_2 ?_
      refine r_aload_n rfl dX6_scatter_3 ?_
      refine r_getI foX6_18 hP.1 rfl dX6_scatter_4 ?_
      refine r_icmp_ge 35 dX6_scatter_7 (by decide) (fun c_7 => ?_) (fun c_7 => ?_)
      · refine r_aload_n rfl dX6_scatter_35 ?_
        refine r_cV0v (T := TX6) (N := 4) moX6_number lkX6_31 hP.1 rfl (Nat.le_of_ble_eq_true rfl) ⟨by decide, by decide⟩ (Nat.le_of_ble_eq_true rfl) dX6_scatter_36 rfl (c_number hP hn (by rw [H.1 P (by omega)]; exact h0)) (fun h1 q1 => ?_)
        refine ret_v dX6_scatter_39 rfl ?_
        rw [H.1 P (by omega), h0] at c_7
        have e : l = n := by have := ge_y (by omega) (by omega) c_7; omega
        subst e
        obtain ⟨a, c', b, d⟩ := q1
        exact ⟨KeepP.trans (fun q x y z => H.1 q y) a, c', b.congr H.2.1, d⟩
      · rw [H.1 P (by omega), h0] at c_7
        have hlk : l < n := ge_n (by omega) c_7
        refine r_aload_n rfl dX6_scatter_10 ?_
        refine r_getR foX6_9 hP.1 rfl dX6_scatter_11 ?_
        refine r_iload_n rfl dX6_scatter_14 ?_
        refine r_ild hP.2.1 rfl (by omega) (by decide) dX6_scatter_15 ?_
        refine r_iload_n rfl dX6_scatter_16 ?_
        refine r_icmp_ne 29 dX6_scatter_17 (by decide) (fun c_17 => ?_) (fun c_17 => ?_)
        · first | refine r_incN2 rfl (by decide) dX6_scatter_29 ?_ | refine r_incP2 rfl (by decide) dX6_scatter_29 ?_
          refine r_goto 2 dX6_scatter_32 (by decide) ?_
          first
            | exact ih (l + 1) _ (by omega) (by omega) (L1_set H (by rw [H.2.2 l (Nat.le_refl _)] at c_17; exact (if_pos c_17).symm))
            | exact ih (l + 1) _ (by omega) (by omega) (L1_not H (by rw [H.2.2 l (Nat.le_refl _)] at c_17; exact (if_neg c_17).symm))
        · refine r_aload_n rfl dX6_scatter_20 ?_
          refine r_getR foX6_9 hP.1 rfl dX6_scatter_21 ?_
          refine r_iload_n rfl dX6_scatter_24 ?_
          refine r_iconst (v := (-1 : Int32)) (by decide) dX6_scatter_25 ?_
          refine r_iload_n rfl dX6_scatter_26 ?_
          refine r_isub dX6_scatter_27 ?_
          refine r_ias hP.2.1 rfl (by omega) (by decide) dX6_scatter_28 ?_
          first | refine r_incN2 rfl (by decide) dX6_scatter_29 ?_ | refine r_incP2 rfl (by decide) dX6_scatter_29 ?_
          refine r_goto 2 dX6_scatter_32 (by decide) ?_
          first
            | exact ih (l + 1) _ (by omega) (by omega) (L1_set H (by rw [H.2.2 l (Nat.le_refl _)] at c_17; exact (if_pos c_17).symm))
            | exact ih (l + 1) _ (by omega) (by omega) (L1_not H (by rw [H.2.2 l (Nat.le_refl _)] at c_17; exact (if_neg c_17).symm))
  refine r_iconst (v := nI 0) (by decide) dX6_scatter_0 ?_
  refine r_ist2 rfl (by decide) dX6_scatter_1 ?_
  exact loop (n + 1) 0 _ (by omega) (by omega) L1_0

set_option maxRecDepth 100000 in
theorem c_copyP {g : GG} {P S n : Nat} {h : Hp} {c : Nat → Nat} (hP : PartAt P) (hS : PartAt S) (hd : P + 3 ≤ S ∨ S + 3 ≤ P) (hn : n ≤ 6) (hs : PS h S n c) : R g mX6_copy 0 [some (.ref (ad g P)), some (.ref (ad g S)), none] [] h (Rv fun h' => KeepP P h h' ∧ PS h' P n c) := by
  have loop : ∀ (m l : Nat) (h1 : Hp), l ≤ n → n < l + m → ((∀ q, ¬ q = P → ¬ q = P + 1 → h1 q = h q) ∧ h1 P 0 = nI n ∧ h1 P 1 = nI (mx c n) ∧ ∀ j, j < l → h1 (P + 1) j = nI (c j)) → R g mX6_copy 18 [some (.ref (ad g P)), some (.ref (ad g S)), some (.int (nI l))] [] h1 (Rv fun h' => KeepP P h h' ∧ PS h' P n c) := by
    intro m
    induction m with
    | zero => intro l h1 a b; omega
    | succ m ih =>
      rintro l h1 a b ⟨H1, H2, H3, H4⟩
      refine r_iload_n rfl dX6_copy_18 ?_
      refine r_aload_n rfl dX6_copy_19 ?_
      refine r_getI foX6_18 hP.1 rfl dX6_copy_20 ?_
      refine r_icmp_ge 44 dX6_copy_23 (by decide) (fun c_23 => ?_) (fun c_23 => ?_)
      · refine ret_v dX6_copy_44 rfl ?_
        rw [H2] at c_23
        have e : l = n := by have := ge_y (by omega) (by omega) c_23; omega
        subst e
        exact ⟨fun q x y z => H1 q x y, H2, H3, H4⟩
      · rw [H2] at c_23
        have hlk : l < n := ge_n (by omega) c_23
        refine r_aload_n rfl dX6_copy_26 ?_
        refine r_getR foX6_9 hP.1 rfl dX6_copy_27 ?_
        refine r_iload_n rfl dX6_copy_30 ?_
        refine r_aload_n rfl dX6_copy_31 ?_
        refine r_getR foX6_9 hS.1 rfl dX6_copy_32 ?_
        refine r_iload_n rfl dX6_copy_35 ?_
        refine r_ild hS.2.1 rfl (by omega) (by decide) dX6_copy_36 ?_
        refine r_ias hP.2.1 rfl (by omega) (by decide) dX6_copy_37 ?_
        first | refine r_incN2 rfl (by decide) dX6_copy_38 ?_ | refine r_incP2 rfl (by decide) dX6_copy_38 ?_
        refine r_goto 18 dX6_copy_41 (by decide) ?_
        refine ih (l + 1) _ (by omega) (by omega) ⟨fun q x y => by rw [hset_ne y]; exact H1 q x y, by rw [hset_ne (by omega)]; exact H2, by rw [hset_ne (by omega)]; exact H3, fun j hj => ?_⟩
        rw [hset_same]
        by_cases e : j = l
        · subst e; rw [upd_eq, H1 (S + 1) (by omega) (by omega)]; exact hs.2.2 j hlk
        · rw [upd_ne e]; exact H4 j (by omega)
  refine r_aload_n rfl dX6_copy_0 ?_
  refine r_aload_n rfl dX6_copy_1 ?_
  refine r_getI foX6_18 hS.1 rfl dX6_copy_2 ?_
  refine r_putI fpX6_18 hP.1 rfl dX6_copy_5 ?_
  refine r_aload_n rfl dX6_copy_8 ?_
  refine r_aload_n rfl dX6_copy_9 ?_
  refine r_getI foX6_22 hS.1 rfl dX6_copy_10 ?_
  refine r_putI fpX6_22 hP.1 rfl dX6_copy_13 ?_
  refine r_iconst (v := nI 0) (by decide) dX6_copy_16 ?_
  refine r_ist2 rfl (by decide) dX6_copy_17 ?_
  refine loop (n + 1) 0 _ (by omega) (by omega) ⟨fun q x y => by rw [hset_ne x, hset_ne x], ?_, ?_, fun j hj => by omega⟩
  · rw [hset_same, upd_ne (by omega), hset_same, upd_eq]; exact hs.1
  · rw [hset_same, upd_eq, hset_ne (by omega)]; exact hs.2.1

theorem mx_id : ∀ n, mx (fun l => l) n = n := by
  intro n
  induction n with
  | zero => rfl
  | succ n ih => simp only [mx, ih]; omega
theorem mx_0 : ∀ n, mx (fun _ => 0) n = min n 1 := by
  intro n
  induction n with
  | zero => rfl
  | succ n ih => simp only [mx, ih]; omega
theorem small7 {n : Nat} (h : n ≤ 6) : n = 0 ∨ n = 1 ∨ n = 2 ∨ n = 3 ∨ n = 4 ∨ n = 5 ∨ n = 6 := by omega
theorem min1 {n : Nat} (hn : n ≤ 6) : (if (1 : Int32) < nI n then (1 : Int32) else nI n) = nI (min n 1) := by
  rcases small7 hn with rfl | rfl | rfl | rfl | rfl | rfl | rfl <;> decide

set_option maxRecDepth 100000 in
theorem c_putAllApart {g : GG} {P n : Nat} {h : Hp} (hP : PartAt P) (hn : n ≤ 6) : R g mX6_putAllApart 0 [some (.ref (ad g P)), some (.int (nI n)), none] [] h (Rv fun h' => KeepP P h h' ∧ PS h' P n (fun l => l)) := by
  have loop : ∀ (m l : Nat) (h1 : Hp), l ≤ n → n < l + m → (KeepP P h h1 ∧ h1 P 0 = nI n ∧ h1 P 1 = nI (mx (fun l => l) n) ∧ ∀ j, j < l → h1 (P + 1) j = nI ((fun l => l) j)) → R g mX6_putAllApart 12 [some (.ref (ad g P)), some (.int (nI n)), some (.int (nI l))] [] h1 (Rv fun h' => KeepP P h h' ∧ PS h' P n (fun l => l)) := by
    intro m
    induction m with
    | zero => intro l h1 a b; omega
    | succ m ih =>
      rintro l h1 a b ⟨H1, H2, H3, H4⟩
      refine r_iload_n rfl dX6_putAllApart_12 ?_
      refine r_iload_n rfl dX6_putAllApart_13 ?_
      refine r_icmp_ge 30 dX6_putAllApart_14 (by decide) (fun c_14 => ?_) (fun c_14 => ?_)
      · refine ret_v dX6_putAllApart_30 rfl ?_
        have e : l = n := by have := ge_y (by omega) (by omega) c_14; omega
        subst e
        exact ⟨H1, H2, H3, H4⟩
      · have hlk : l < n := ge_n (by omega) c_14
        refine r_aload_n rfl dX6_putAllApart_17 ?_
        refine r_getR foX6_9 hP.1 rfl dX6_putAllApart_18 ?_
        refine r_iload_n rfl dX6_putAllApart_21 ?_
        refine r_iload_n rfl dX6_putAllApart_22 ?_
        refine r_ias hP.2.1 rfl (by omega) (by decide) dX6_putAllApart_23 ?_
        first | refine r_incN2 rfl (by decide) dX6_putAllApart_24 ?_ | refine r_incP2 rfl (by decide) dX6_putAllApart_24 ?_
        refine r_goto 12 dX6_putAllApart_27 (by decide) ?_
        refine ih (l + 1) _ (by omega) (by omega) ⟨KeepP.row H1, by rw [hset_ne (by omega)]; exact H2, by rw [hset_ne (by omega)]; exact H3, fun j hj => ?_⟩
        rw [hset_same]
        by_cases e : j = l
        · subst e; rw [upd_eq]; first | done | rfl
        · rw [upd_ne e]; exact H4 j (by omega)
  refine r_aload_n rfl dX6_putAllApart_0 ?_
  refine r_iload_n rfl dX6_putAllApart_1 ?_
  refine r_putI fpX6_18 hP.1 rfl dX6_putAllApart_2 ?_
  refine r_aload_n rfl dX6_putAllApart_5 ?_
  refine r_iload_n rfl dX6_putAllApart_6 ?_
  refine r_putI fpX6_22 hP.1 rfl dX6_putAllApart_7 ?_
  refine r_iconst (v := nI 0) (by decide) dX6_putAllApart_10 ?_
  refine r_ist2 rfl (by decide) dX6_putAllApart_11 ?_
  refine loop (n + 1) 0 _ (by omega) (by omega) ⟨KeepP.set (KeepP.set KeepP.refl), ?_, ?_, fun j hj => by omega⟩
  · rw [hset_same, upd_ne (by omega), hset_same, upd_eq]
  · rw [hset_same, upd_eq, mx_id]

set_option maxRecDepth 100000 in
theorem c_putAllTogether {g : GG} {P n : Nat} {h : Hp} (hP : PartAt P) (hn : n ≤ 6) : R g mX6_putAllTogether 0 [some (.ref (ad g P)), some (.int (nI n)), none] [] h (Rv fun h' => KeepP P h h' ∧ PS h' P n (fun _ => 0)) := by
  have loop : ∀ (m l : Nat) (h1 : Hp), l ≤ n → n < l + m → (KeepP P h h1 ∧ h1 P 0 = nI n ∧ h1 P 1 = nI (mx (fun _ => 0) n) ∧ ∀ j, j < l → h1 (P + 1) j = nI ((fun _ => 0) j)) → R g mX6_putAllTogether 16 [some (.ref (ad g P)), some (.int (nI n)), some (.int (nI l))] [] h1 (Rv fun h' => KeepP P h h' ∧ PS h' P n (fun _ => 0)) := by
    intro m
    induction m with
    | zero => intro l h1 a b; omega
    | succ m ih =>
      rintro l h1 a b ⟨H1, H2, H3, H4⟩
      refine r_iload_n rfl dX6_putAllTogether_16 ?_
      refine r_iload_n rfl dX6_putAllTogether_17 ?_
      refine r_icmp_ge 34 dX6_putAllTogether_18 (by decide) (fun c_18 => ?_) (fun c_18 => ?_)
      · refine ret_v dX6_putAllTogether_34 rfl ?_
        have e : l = n := by have := ge_y (by omega) (by omega) c_18; omega
        subst e
        exact ⟨H1, H2, H3, H4⟩
      · have hlk : l < n := ge_n (by omega) c_18
        refine r_aload_n rfl dX6_putAllTogether_21 ?_
        refine r_getR foX6_9 hP.1 rfl dX6_putAllTogether_22 ?_
        refine r_iload_n rfl dX6_putAllTogether_25 ?_
        refine r_iconst (v := (0 : Int32)) (by decide) dX6_putAllTogether_26 ?_
        refine r_ias hP.2.1 rfl (by omega) (by decide) dX6_putAllTogether_27 ?_
        first | refine r_incN2 rfl (by decide) dX6_putAllTogether_28 ?_ | refine r_incP2 rfl (by decide) dX6_putAllTogether_28 ?_
        refine r_goto 16 dX6_putAllTogether_31 (by decide) ?_
        refine ih (l + 1) _ (by omega) (by omega) ⟨KeepP.row H1, by rw [hset_ne (by omega)]; exact H2, by rw [hset_ne (by omega)]; exact H3, fun j hj => ?_⟩
        rw [hset_same]
        by_cases e : j = l
        · subst e; rw [upd_eq]; first | done | rfl
        · rw [upd_ne e]; exact H4 j (by omega)
  refine r_aload_n rfl dX6_putAllTogether_0 ?_
  refine r_iload_n rfl dX6_putAllTogether_1 ?_
  refine r_putI fpX6_18 hP.1 rfl dX6_putAllTogether_2 ?_
  refine r_aload_n rfl dX6_putAllTogether_5 ?_
  refine r_iload_n rfl dX6_putAllTogether_6 ?_
  refine r_iconst (v := (1 : Int32)) (by decide) dX6_putAllTogether_7 ?_
  refine r_min lkX6_25 ⟨by decide, Nat.le_of_ble_eq_true rfl⟩ dX6_putAllTogether_8 ?_
  refine r_putI fpX6_22 hP.1 rfl dX6_putAllTogether_11 ?_
  refine r_iconst (v := nI 0) (by decide) dX6_putAllTogether_14 ?_
  refine r_ist2 rfl (by decide) dX6_putAllTogether_15 ?_
  refine loop (n + 1) 0 _ (by omega) (by omega) ⟨KeepP.set (KeepP.set KeepP.refl), ?_, ?_, fun j hj => by omega⟩
  · rw [hset_same, upd_ne (by omega), hset_same, upd_eq]
  · rw [hset_same, upd_eq, mx_0]; exact min1 hn

set_option maxRecDepth 100000 in
theorem c_addApart {g : GG} {P n : Nat} {h : Hp} {c : Nat → Nat} (hP : PartAt P) (hn : n < 6) (hs : PS h P n c) : R g mX6_addApart 0 [some (.ref (ad g P))] [] h (Rv fun h' => KeepP P h h' ∧ PS h' P (n + 1) (uc c n (mx c n))) := by
  refine r_aload_n rfl dX6_addApart_0 ?_
  refine r_getR foX6_9 hP.1 rfl dX6_addApart_1 ?_
  refine r_aload_n rfl dX6_addApart_4 ?_
  refine r_getI foX6_18 hP.1 rfl dX6_addApart_5 ?_
  refine r_aload_n rfl dX6_addApart_8 ?_
  refine r_getI foX6_22 hP.1 rfl dX6_addApart_9 ?_
  refine r_ias hP.2.1 hs.1 (by omega) (by decide) dX6_addApart_12 ?_
  refine r_aload_n rfl dX6_addApart_13 ?_
  refine r_dup rfl dX6_addApart_14 ?_
  refine r_getI foX6_18 hP.1 rfl dX6_addApart_15 ?_
  refine r_iconst (v := (1 : Int32)) (by decide) dX6_addApart_18 ?_
  refine r_iadd dX6_addApart_19 ?_
  refine r_putI fpX6_18 hP.1 rfl dX6_addApart_20 ?_
  refine r_aload_n rfl dX6_addApart_23 ?_
  refine r_dup rfl dX6_addApart_24 ?_
  refine r_getI foX6_22 hP.1 rfl dX6_addApart_25 ?_
  refine r_iconst (v := (1 : Int32)) (by decide) dX6_addApart_28 ?_
  refine r_iadd dX6_addApart_29 ?_
  refine r_putI fpX6_22 hP.1 rfl dX6_addApart_30 ?_
  refine ret_v dX6_addApart_33 rfl ?_
  refine ⟨KeepP.set (KeepP.set (KeepP.row KeepP.refl)), ?_, ?_, fun j hj => ?_⟩
  · rw [hset_same, upd_ne (by omega), hset_same, upd_eq, hset_ne (by omega), hs.1]; exact nI_1 n
  · rw [hset_same, upd_eq, hset_same, upd_ne (by omega), hset_ne (by omega), hs.2.1, mx, uc_eq, mx_uc, show max (mx c n) (mx c n + 1) = mx c n + 1 by omega]; exact nI_1 _
  · rw [hset_ne (by omega), hset_ne (by omega), hset_same]
    by_cases e : j = n
    · subst e; rw [upd_eq, uc_eq]; exact hs.2.1
    · rw [upd_ne e, uc_ne e]; exact hs.2.2 j (by omega)

