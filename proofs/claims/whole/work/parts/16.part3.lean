/-- the next of all partings, looked for from land l down -/
def adv (c : Nat → Nat) : Nat → (Nat → Nat)
  | 0 => c
  | l + 1 => if c (l + 1) < mx c (l + 1) then (fun j => if j ≤ l then c j else if j = l + 1 then c (l + 1) + 1 else 0) else adv c l
def A1 (P l m : Nat) (c : Nat → Nat) (h h1 : Hp) : Prop := (∀ q, ¬ q = P + 1 → h1 q = h q) ∧ ∀ j, j < m → h1 (P + 1) j = nI (if j ≤ l then c j else if j = l + 1 then c (l + 1) + 1 else 0)

set_option maxRecDepth 100000 in
theorem c_advance {g : GG} {P n : Nat} {h : Hp} {c : Nat → Nat} (hP : PartAt P) (hn : n ≤ 6) (hc : Can n c) (hs : PS h P n c) : R g mX6_advance 0 [some (.ref (ad g P)), none, none, none] [] h (Rv fun h' => KeepP P h h' ∧ PS h' P n (adv c (n - 1))) := by
  have inner : ∀ l, l + 1 < n → adv c (n - 1) = (fun j => if j ≤ l then c j else if j = l + 1 then c (l + 1) + 1 else 0) → ∀ (k m : Nat) (h1 : Hp) {z : Int32}, l + 2 ≤ m → m ≤ n → n < m + k → A1 P l m c h h1 → R g mX6_advance 41 [some (.ref (ad g P)), some (.int (nI (l + 1))), some (.int z), some (.int (nI m))] [] h1 (Rv fun h' => KeepP P h h' ∧ PS h' P n (adv c (n - 1))) := by
    intro l hl ha k
    have hb : ∀ j, j < n → (if j ≤ l then c j else if j = l + 1 then c (l + 1) + 1 else 0) < 100 := by
      intro j hj
      have := hc.le hj
      have := hc.le hl
      split
      · omega
      · split <;> omega
    induction k with
    | zero => intro m h1 z a b d; omega
    | succ k ih =>
      intro m h1 z a b d H
      refine r_iload_n rfl dX6_advance_41 ?_
      refine r_aload_n rfl dX6_advance_42 ?_
      refine r_getI foX6_18 hP.1 rfl dX6_advance_43 ?_
      refine r_icmp_ge 62 dX6_advance_46 (by decide) (fun c_46 => ?_) (fun c_46 => ?_)
      · rw [H.1 P (by omega), hs.1] at c_46
        have e : m = n := by have := ge_y (by omega) (by omega) c_46; omega
        subst e
        refine r_aload_n rfl dX6_advance_62 ?_
        refine r_aload_n rfl dX6_advance_63 ?_
        refine r_aload_n rfl dX6_advance_64 ?_
        refine r_getI foX6_18 hP.1 rfl dX6_advance_65 ?_
        rw [H.1 P (by omega), hs.1]
        refine r_cV1i (T := TX6) (N := 4) moX6_unionsAhead lkX6_38 hP.1 rfl (Nat.le_of_ble_eq_true rfl) ⟨by decide, by decide⟩ (Nat.le_of_ble_eq_true rfl) dX6_advance_68 rfl (c_unionsAhead (c := fun j => if j ≤ l then c j else if j = l + 1 then c (l + 1) + 1 else 0) hP (by omega) H.2 hb) (fun v1 h1 q1 => ?_)
        obtain ⟨e1, e2⟩ := q1
        subst e2
        rw [e1]
        refine r_putI fpX6_22 hP.1 rfl dX6_advance_71 ?_
        refine ret_v dX6_advance_74 rfl ?_
        refine ⟨KeepP.set (fun q x y z => H.1 q y), ?_, ?_, fun j hj => ?_⟩
        · rw [hset_same, upd_ne (by omega), H.1 P (by omega)]; exact hs.1
        · rw [hset_same, upd_eq, ha]
        · rw [hset_ne (by omega), H.2 j hj, ha]
      · rw [H.1 P (by omega), hs.1] at c_46
        have hlk : m < n := ge_n (by omega) c_46
        refine r_aload_n rfl dX6_advance_49 ?_
        refine r_getR foX6_9 hP.1 rfl dX6_advance_50 ?_
        refine r_iload_n rfl dX6_advance_53 ?_
        refine r_iconst (v := (0 : Int32)) (by decide) dX6_advance_54 ?_
        refine r_ias hP.2.1 rfl (by omega) (by decide) dX6_advance_55 ?_
        first | refine r_incN3 rfl (by decide) dX6_advance_56 ?_ | refine r_incP3 rfl (by decide) dX6_advance_56 ?_
        refine r_goto 41 dX6_advance_59 (by decide) ?_
        refine ih (m + 1) _ (by omega) (by omega) (by omega) ⟨fun q x => by rw [hset_ne x]; exact H.1 q x, fun j hj => ?_⟩
        rw [hset_same]
        by_cases e : j = m
        · subst e; rw [upd_eq, if_neg (by omega), if_neg (by omega)]; rfl
        · rw [upd_ne e]; exact H.2 j (by omega)
  have loop : ∀ l {z y : Option Value}, l < n → adv c (n - 1) = adv c l → R g mX6_advance 7 [some (.ref (ad g P)), some (.int (nI l)), z, y] [] h (Rv fun h' => KeepP P h h' ∧ PS h' P n (adv c (n - 1))) := by
    intro l
    induction l with
    | zero =>
      intro z y hl ha
      refine r_iload_n rfl dX6_advance_7 ?_
      refine r_if_le 81 dX6_advance_8 (by decide) (fun c_8 => ?_) (fun c_8 => ?_)
      · refine ret_v dX6_advance_81 rfl ?_
        exact ⟨KeepP.refl, by rw [ha]; exact hs⟩
      · exact absurd (by decide) c_8
    | succ l ih =>
      intro z y hl ha
      refine r_iload_n rfl dX6_advance_7 ?_
      refine r_if_le 81 dX6_advance_8 (by decide) (fun c_8 => ?_) (fun c_8 => ?_)
      · exact absurd c_8 (nI_nle (by omega) (by omega))
      · refine r_aload_n rfl dX6_advance_11 ?_
        refine r_iload_n rfl dX6_advance_12 ?_
        refine r_cV1i (T := TX6) (N := 4) moX6_unionsAhead lkX6_38 hP.1 rfl (Nat.le_of_ble_eq_true rfl) ⟨by decide, by decide⟩ (Nat.le_of_ble_eq_true rfl) dX6_advance_13 rfl (c_unionsAhead (c := c) hP (by omega) (fun j hj => hs.2.2 j (by omega)) (fun j hj => by have := hc.le (show j < n by omega); omega)) (fun v1 h1 q1 => ?_)
        obtain ⟨e1, e2⟩ := q1
        subst e2
        rw [e1]
        refine r_ist2 rfl (by decide) dX6_advance_16 ?_
        refine r_aload_n rfl dX6_advance_17 ?_
        refine r_getR foX6_9 hP.1 rfl dX6_advance_18 ?_
        refine r_iload_n rfl dX6_advance_21 ?_
        refine r_ild hP.2.1 rfl (by omega) (by decide) dX6_advance_22 ?_
        rw [hs.2.2 (l + 1) (by omega)]
        refine r_iload_n rfl dX6_advance_23 ?_
        refine r_icmp_ge 75 dX6_advance_24 (by decide) (fun c_24 => ?_) (fun c_24 => ?_)
        · first | refine r_incM1 rfl (by decide) dX6_advance_75 ?_ | refine r_incQ1 rfl (by decide) dX6_advance_75 ?_
          refine r_goto 7 dX6_advance_78 (by decide) ?_
          refine ih (by omega) ?_
          rw [ha, adv, if_neg]
          have := ge_y (by have := hc.le (show l + 1 < n by omega); omega) (by have := mx_le hc (l + 1) (by omega); omega) c_24
          omega
        · refine r_aload_n rfl dX6_advance_27 ?_
          refine r_getR foX6_9 hP.1 rfl dX6_advance_28 ?_
          refine r_iload_n rfl dX6_advance_31 ?_
          refine r_dup2 rfl rfl dX6_advance_32 ?_
          refine r_ild hP.2.1 rfl (by omega) (by decide) dX6_advance_33 ?_
          rw [hs.2.2 (l + 1) (by omega)]
          refine r_iconst (v := (1 : Int32)) (by decide) dX6_advance_34 ?_
          refine r_iadd dX6_advance_35 ?_
          rw [nI_1]
          refine r_ias hP.2.1 rfl (by omega) (by decide) dX6_advance_36 ?_
          refine r_iload_n rfl dX6_advance_37 ?_
          refine r_iconst (v := (1 : Int32)) (by decide) dX6_advance_38 ?_
          refine r_iadd dX6_advance_39 ?_
          rw [nI_1]
          refine r_ist3 rfl (by decide) dX6_advance_40 ?_
          have hlt : c (l + 1) < mx c (l + 1) := ge_n (by have := hc.le (show l + 1 < n by omega); omega) c_24
          refine inner l (by omega) (by rw [ha, adv, if_pos hlt]) (n + 1) (l + 2) _ (by omega) (by omega) (by omega) ⟨fun q x => hset_ne x, fun j hj => ?_⟩
          rw [hset_same]
          by_cases e : j = l + 1
          · subst e; rw [upd_eq, if_neg (by omega), if_pos rfl]
          · rw [upd_ne e, if_pos (by omega)]; exact hs.2.2 j (by omega)
  cases n with
  | zero =>
    refine r_aload_n rfl dX6_advance_0 ?_
    refine r_getI foX6_18 hP.1 rfl dX6_advance_1 ?_
    rw [hs.1]
    refine r_iconst (v := (1 : Int32)) (by decide) dX6_advance_4 ?_
    refine r_isub dX6_advance_5 ?_
    refine r_ist1 rfl (by decide) dX6_advance_6 ?_
    refine r_iload_n rfl dX6_advance_7 ?_
    refine r_if_le 81 dX6_advance_8 (by decide) (fun c_8 => ?_) (fun c_8 => ?_)
    · refine ret_v dX6_advance_81 rfl ?_
      exact ⟨KeepP.refl, hs⟩
    · exact absurd (by decide) c_8
  | succ k =>
    refine r_aload_n rfl dX6_advance_0 ?_
    refine r_getI foX6_18 hP.1 rfl dX6_advance_1 ?_
    refine r_iconst (v := (1 : Int32)) (by decide) dX6_advance_4 ?_
    refine r_isub dX6_advance_5 ?_
    rw [hs.1, nI_pred]
    refine r_ist1 rfl (by decide) dX6_advance_6 ?_
    exact loop k (by omega) rfl

def wayL : List Nat := [1, 1, 1, 1, 1, 1, 1, 2, 3, 4, 5, 6, 2, 5, 10, 17, 26, 37, 5, 15, 37, 77, 141, 235, 15, 52, 151, 372, 799, 1540, 52, 203, 674, 1915, 4736, 10427]
def way (j : Nat) : Nat := wayL.getD j 0
def bell (n : Nat) : Nat := [1, 1, 2, 5, 15, 52, 203].getD n 0
/-- what the two rows that nobody writes hold -/
def ROv (g : GG) : Prop := (roN g 1000 = 7 ∧ ∀ j, j < 7 → ro g 1000 j = nI (bell j)) ∧ roN g 1001 = 36 ∧ ∀ j, j < 36 → ro g 1001 j = nI (way j)
def plc (n : Nat) (c : Nat → Nat) : Nat → Nat
  | 0 => 0
  | l + 1 => plc n c l + c l * way ((n - 1 - l) * 6 + mx c l)
theorem nI_mul (a b : Nat) : nI a * nI b = nI (a * b) := (Int32.ofNat_mul a b).symm
theorem nI_sub1 {n l : Nat} (hl : l < n) (hn : n ≤ 6) : nI n - 1 - nI l = nI (n - 1 - l) := by
  obtain ⟨d, rfl⟩ : ∃ d, n = d + 1 + l := ⟨n - 1 - l, by omega⟩
  rw [show d + 1 + l - 1 - l = d by omega, show d + 1 + l = (d + l) + 1 by omega, nI_pred, ← nI_add, Int32.add_sub_cancel]
theorem wayIx {n l m : Nat} (hl : l < n) (hn : n ≤ 6) : (nI n - 1 - nI l) * 6 + nI m = nI ((n - 1 - l) * 6 + m) := by
  rw [nI_sub1 hl hn, show (6 : Int32) = nI 6 by decide, nI_mul, nI_add]
theorem mx_can {n l : Nat} {c : Nat → Nat} (hc : Can n c) (hl : l < n) : mx c (l + 1) = if c l = mx c l then mx c l + 1 else mx c l := by
  have := hc l hl
  rw [mx]
  split <;> omega

set_option maxRecDepth 100000 in
theorem c_place {g : GG} {P n : Nat} {h : Hp} {c : Nat → Nat} (hP : PartAt P) (hn : n ≤ 6) (hc : Can n c) (hs : PS h P n c) (hro : ROv g) : R g mX6_place 0 [some (.ref (ad g P)), none, none, none] [] h (Ri fun v h' => h' = h ∧ v = nI (plc n c n)) := by
  have loop : ∀ (m l : Nat), l ≤ n → n < l + m → R g mX6_place 6 [some (.ref (ad g P)), some (.int (nI (plc n c l))), some (.int (nI (mx c l))), some (.int (nI l))] [] h (Ri fun v h' => h' = h ∧ v = nI (plc n c n)) := by
    intro m
    induction m with
    | zero => intro l a b; omega
    | succ m ih =>
      intro l a b
      refine r_iload_n rfl dX6_place_6 ?_
      refine r_aload_n rfl dX6_place_7 ?_
      refine r_getI foX6_18 hP.1 rfl dX6_place_8 ?_
      refine r_icmp_ge 60 dX6_place_11 (by decide) (fun c_11 => ?_) (fun c_11 => ?_)
      · refine r_iload_n rfl dX6_place_60 ?_
        refine ret_i dX6_place_61 rfl ?_
        rw [hs.1] at c_11
        have e : l = n := by have := ge_y (by omega) (by omega) c_11; omega
        subst e
        exact ⟨rfl, rfl⟩
      · rw [hs.1] at c_11
        have hlk : l < n := ge_n (by omega) c_11
        have hm := mx_le hc l (by omega)
        have hix : (n - 1 - l) * 6 + mx c l < 36 := by omega
        refine r_iload_n rfl dX6_place_14 ?_
        refine r_aload_n rfl dX6_place_15 ?_
        refine r_getR foX6_9 hP.1 rfl dX6_place_16 ?_
        refine r_iload_n rfl dX6_place_19 ?_
        refine r_ild hP.2.1 rfl (by omega) (by decide) dX6_place_20 ?_
        rw [hs.2.2 l hlk]
        refine r_WAYS rfl dX6_place_21 ?_
        refine r_aload_n rfl dX6_place_24 ?_
        refine r_getI foX6_18 hP.1 rfl dX6_place_25 ?_
        rw [hs.1]
        refine r_iconst (v := (1 : Int32)) (by decide) dX6_place_28 ?_
        refine r_isub dX6_place_29 ?_
        refine r_iload_n rfl dX6_place_30 ?_
        refine r_isub dX6_place_31 ?_
        refine r_bipush (v := (6 : Int32)) (by decide) dX6_place_32 ?_
        refine r_imul dX6_place_34 ?_
        refine r_iload_n rfl dX6_place_35 ?_
        refine r_iadd dX6_place_36 ?_
        rw [wayIx hlk hn]
        refine r_irn (by decide) (by decide) rfl (by rw [hro.2.1]; exact hix) (by omega) dX6_place_37 ?_
        rw [hro.2.2 _ hix]
        refine r_imul dX6_place_38 ?_
        refine r_iadd dX6_place_39 ?_
        rw [nI_mul, nI_add]
        refine r_ist1 rfl (by decide) dX6_place_40 ?_
        refine r_aload_n rfl dX6_place_41 ?_
        refine r_getR foX6_9 hP.1 rfl dX6_place_42 ?_
        refine r_iload_n rfl dX6_place_45 ?_
        refine r_ild hP.2.1 rfl (by omega) (by decide) dX6_place_46 ?_
        rw [hs.2.2 l hlk]
        refine r_iload_n rfl dX6_place_47 ?_
        refine r_icmp_ne 54 dX6_place_48 (by decide) (fun c_48 => ?_) (fun c_48 => ?_)
        · first | refine r_incN3 rfl (by decide) dX6_place_54 ?_ | refine r_incP3 rfl (by decide) dX6_place_54 ?_
          refine r_goto 6 dX6_place_57 (by decide) ?_
          refine R.cast (ih (l + 1) (by omega) (by omega)) rfl ?_ rfl rfl
          rw [plc, mx_can hc hlk]
          first
            | rw [if_pos (nI_inj (by have := hc.le hlk; omega) (by omega) c_48)]
            | rw [if_neg (fun e => c_48 (by rw [e]))]
        · first | refine r_incN2 rfl (by decide) dX6_place_51 ?_ | refine r_incP2 rfl (by decide) dX6_place_51 ?_
          first | refine r_incN3 rfl (by decide) dX6_place_54 ?_ | refine r_incP3 rfl (by decide) dX6_place_54 ?_
          refine r_goto 6 dX6_place_57 (by decide) ?_
          refine R.cast (ih (l + 1) (by omega) (by omega)) rfl ?_ rfl rfl
          rw [plc, mx_can hc hlk]
          first
            | rw [if_pos (nI_inj (by have := hc.le hlk; omega) (by omega) c_48)]
            | rw [if_neg (fun e => c_48 (by rw [e]))]
  refine r_iconst (v := nI 0) (by decide) dX6_place_0 ?_
  refine r_ist1 rfl (by decide) dX6_place_1 ?_
  refine r_iconst (v := nI 0) (by decide) dX6_place_2 ?_
  refine r_ist2 rfl (by decide) dX6_place_3 ?_
  refine r_iconst (v := nI 0) (by decide) dX6_place_4 ?_
  refine r_ist3 rfl (by decide) dX6_place_5 ?_
  exact loop (n + 1) 0 (by omega) (by omega)

