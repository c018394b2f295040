set_option maxRecDepth 100000 in
set_option maxHeartbeats 400000 in
theorem m_copy {g : GG} {B D : Nat} {h : Hp} (hB : shl[B]? = some (.inl 6)) (hD : shl[D]? = some (.inl 6)) (hne : ¬ B = D) : R g mX9_copy 0 [some (.ref (ad g 62)), some (.ref (ad g B)), some (.ref (ad g D)), none] [] h (Rv fun h' => S1 D 6 (h B) h h') := by
  have loop : ∀ (v l : Nat) (hh : Hp), l ≤ 6 → 6 < l + v → S1 D l (h B) h hh → R g mX9_copy 2 [some (.ref (ad g 62)), some (.ref (ad g B)), some (.ref (ad g D)), some (.int (nI l))] [] hh (Rv fun h' => S1 D 6 (h B) h h') := by
    intro v
    induction v with
    | zero => intro l hh a b; omega
    | succ v ih =>
      intro l hh a b H
      refine r_iload_n rfl dX9_copy_2 ?_
      refine r_bipush (v := nI 6) (by decide) dX9_copy_3 ?_
      refine r_icmp_ge 20 dX9_copy_5 (by decide) (fun c_5 => ?_) (fun c_5 => ?_)
      · refine ret_v dX9_copy_20 rfl ?_
        have e : l = 6 := by have := ge_y (by omega) (by omega) c_5; omega
        subst e
        exact H
      · have hlk : l < 6 := ge_n (by omega) c_5
        refine r_aload_n rfl dX9_copy_8 ?_
        refine r_iload_n rfl dX9_copy_9 ?_
        refine r_aload_n rfl dX9_copy_10 ?_
        refine r_iload_n rfl dX9_copy_11 ?_
        refine r_ild hB rfl (by omega) (by decide) dX9_copy_12 ?_
        rw [H.1 B hne]
        refine r_ias hD rfl (by omega) (by decide) dX9_copy_13 ?_
        first | refine r_incN3 rfl (by decide) dX9_copy_14 ?_ | refine r_incP3 rfl (by decide) dX9_copy_14 ?_
        refine r_goto 2 dX9_copy_17 (by decide) ?_
        exact ih (l + 1) _ (by omega) (by omega) (S1_set H rfl)
  refine r_iconst (v := nI 0) (by decide) dX9_copy_0 ?_
  refine r_ist3 rfl (by decide) dX9_copy_1 ?_
  exact loop 7 0 _ (by omega) (by omega) S1_0

set_option maxRecDepth 100000 in
set_option maxHeartbeats 400000 in
theorem m_together {g : GG} {n : Nat} {h : Hp} {E : Ec} {r : Nat → Int32} (hn : n ≤ 6) (h0 : h 62 1 = nI n) (hg : ∀ l, l < n → h 68 l = goodS E r l) : R g mX9_together 0 [some (.ref (ad g 62)), none, none] [] h (Ri fun v h' => h' = h ∧ v = sgF E r n) := by
  have loop : ∀ (v l : Nat) (x : Int32), l ≤ n → n < l + v → x = sgF E r l → R g mX9_together 4 [some (.ref (ad g 62)), some (.int x), some (.int (nI l))] [] h (Ri fun v h' => h' = h ∧ v = sgF E r n) := by
    intro v
    induction v with
    | zero => intro l x a b; omega
    | succ v ih =>
      intro l x a b ex
      subst ex
      refine r_iload_n rfl dX9_together_4 ?_
      refine r_aload_n rfl dX9_together_5 ?_
      refine r_getI foX9_55 rfl rfl dX9_together_6 ?_
      rw [h0]
      refine r_icmp_ge 27 dX9_together_9 (by decide) (fun c_9 => ?_) (fun c_9 => ?_)
      · refine r_iload_n rfl dX9_together_27 ?_
        refine ret_i dX9_together_28 rfl ?_
        have e : l = n := by have := ge_y (by omega) (by omega) c_9; omega
        exact ⟨rfl, by rw [e]⟩
      · have hlk : l < n := ge_n (by omega) c_9
        refine r_iload_n rfl dX9_together_12 ?_
        refine r_aload_n rfl dX9_together_13 ?_
        refine r_getR foX9_25 rfl rfl dX9_together_14 ?_
        refine r_iload_n rfl dX9_together_17 ?_
        refine r_ild rfl rfl (by omega) (by decide) dX9_together_18 ?_
        rw [hg l hlk]
        refine r_iadd dX9_together_19 ?_
        refine r_ist1 rfl (by decide) dX9_together_20 ?_
        first | refine r_incN2 rfl (by decide) dX9_together_21 ?_ | refine r_incP2 rfl (by decide) dX9_together_21 ?_
        refine r_goto 4 dX9_together_24 (by decide) ?_
        exact ih (l + 1) _ (by omega) (by omega) rfl
  refine r_iconst (v := (0 : Int32)) (by decide) dX9_together_0 ?_
  refine r_ist1 rfl (by decide) dX9_together_1 ?_
  refine r_iconst (v := nI 0) (by decide) dX9_together_2 ?_
  refine r_ist2 rfl (by decide) dX9_together_3 ?_
  exact loop (n + 1) 0 _ (by omega) (by omega) rfl

set_option maxRecDepth 100000 in
set_option maxHeartbeats 400000 in
theorem m_keepGoods {g : GG} {A n : Nat} {h : Hp} (hA : shl[A]? = some (.inl 6)) (hAd : A < 68 ∨ 73 < A) (hn : n ≤ 6) (h0 : h 62 1 = nI n) (hE : EOK (eM h n)) : R g mX9_keepGoods 0 [some (.ref (ad g 62)), some (.ref (ad g A))] [] h (Rv fun h' => (∀ q, ¬ (68 ≤ q ∧ q ≤ 73) → ¬ q = 75 → h' q = h q) ∧ ∀ j, j < n → h' 75 j = goodS (eM h n) (h A) j) := by
  refine r_aload_n rfl dX9_keepGoods_0 ?_
  refine r_aload_n rfl dX9_keepGoods_1 ?_
  refine r_cV1v (T := TX9) (N := 21) moX9_findGoods lkX9_115 rfl rfl (Nat.le_of_ble_eq_true rfl) ⟨by decide, by decide⟩ (Nat.le_of_ble_eq_true rfl) dX9_keepGoods_2 rfl (m_findGoods (n := n) hA hAd hn h0 hE) (fun h1 q1 => ?_)
  obtain ⟨kf, ff⟩ := q1
  refine r_aload_n rfl dX9_keepGoods_5 ?_
  refine r_aload_n rfl dX9_keepGoods_6 ?_
  refine r_getR foX9_25 rfl rfl dX9_keepGoods_7 ?_
  refine r_aload_n rfl dX9_keepGoods_10 ?_
  refine r_getR foX9_46 rfl rfl dX9_keepGoods_11 ?_
  refine r_cV2v (T := TX9) (N := 21) moX9_copy lkX9_128 rfl rfl (Nat.le_of_ble_eq_true rfl) ⟨by decide, by decide⟩ (Nat.le_of_ble_eq_true rfl) dX9_keepGoods_14 rfl (m_copy rfl rfl (by omega)) (fun h2 q2 => ?_)
  refine ret_v dX9_keepGoods_17 rfl ?_
  exact ⟨fun q a b => by rw [q2.1 q b]; exact kf q a, fun j hj => by rw [q2.2.1 j (by omega)]; exact (ff j hj).1⟩

theorem pat_fresh {n k : Nat} {r : Nat → Int32} {a b : Int32} (ha : ∀ j, j < n → ¬ r j = a) (hb : ∀ j, j < n → ¬ r j = b) : Pat n (upd r k a) (upd r k b) := by
  intro i j hi hj
  by_cases e1 : i = k
  · subst e1
    by_cases e2 : j = i
    · subst e2; simp
    · rw [upd_eq, upd_eq, upd_ne e2, upd_ne e2]
      exact ⟨fun q => absurd q.symm (ha j hj), fun q => absurd q.symm (hb j hj)⟩
  · by_cases e2 : j = k
    · subst e2
      rw [upd_eq, upd_eq, upd_ne e1, upd_ne e1]
      exact ⟨fun q => absurd q (ha i hi), fun q => absurd q (hb i hi)⟩
    · rw [upd_ne e1, upd_ne e1, upd_ne e2, upd_ne e2]
theorem nI_7 {c : Nat} (h : c < 7) : ¬ nI c = 7 := by
  rw [show (7 : Int32) = nI 7 by decide, nI_eq (by omega) (by omega)]
  omega
theorem nI_m1 {c : Nat} (h : c < 2 ^ 31) : ¬ nI c = -1 := fun q => absurd (q ▸ nI_pos' h : (0 : Int32) ≤ -1) (by decide)

set_option maxRecDepth 100000 in
set_option maxHeartbeats 400000 in
theorem m_gainApart {g : GG} {A n k : Nat} {h : Hp} {c : Nat → Nat} (hA : shl[A]? = some (.inl 6)) (hAd : (A < 68 ∨ 75 < A ∨ A = 74) ∧ ¬ A = 65) (hn : n ≤ 6) (h0 : h 62 1 = nI n) (hE : EOK (eM h n)) (hk : k < n) (hc : ∀ l, l < n → h A l = nI (c l)) (hb : ∀ l, l < n → c l < 7) (hnow : ∀ l, l < n → h 75 l = goodS (eM h n) (h A) l) : R g mX9_gainApart 0 [some (.ref (ad g 62)), some (.ref (ad g A)), some (.int (nI k))] [] h (Ri fun v h' => v = gLv (eM h n) (h A) k ∧ ∀ q, ¬ (68 ≤ q ∧ q ≤ 73) → ¬ q = 65 → h' q = h q) := by
  refine r_aload_n rfl dX9_gainApart_0 ?_
  refine r_aload_n rfl dX9_gainApart_1 ?_
  refine r_aload_n rfl dX9_gainApart_2 ?_
  refine r_getR foX9_16 rfl rfl dX9_gainApart_3 ?_
  refine r_cV2v (T := TX9) (N := 21) moX9_copy lkX9_128 rfl rfl (Nat.le_of_ble_eq_true rfl) ⟨by decide, by decide⟩ (Nat.le_of_ble_eq_true rfl) dX9_gainApart_6 rfl (m_copy hA rfl (by omega)) (fun h1 q1 => ?_)
  have q1 := q1
  refine r_aload_n rfl dX9_gainApart_9 ?_
  refine r_getR foX9_16 rfl rfl dX9_gainApart_10 ?_
  refine r_iload_n rfl dX9_gainApart_13 ?_
  refine r_bipush (v := (7 : Int32)) (by decide) dX9_gainApart_14 ?_
  refine r_ias rfl rfl (by omega) (by decide) dX9_gainApart_16 ?_
  have eL : eM (hset h1 65 k 7) n = eM h n := eM_keep (by rw [hset_ne (by omega), q1.1 63 (by omega)]) (by rw [hset_ne (by omega), q1.1 62 (by omega)])
  refine r_aload_n rfl dX9_gainApart_17 ?_
  refine r_aload_n rfl dX9_gainApart_18 ?_
  refine r_getR foX9_16 rfl rfl dX9_gainApart_19 ?_
  refine r_cV1v (T := TX9) (N := 21) moX9_findGoods lkX9_115 rfl rfl (Nat.le_of_ble_eq_true rfl) ⟨by decide, by decide⟩ (Nat.le_of_ble_eq_true rfl) dX9_gainApart_22 rfl (m_findGoods (n := n) (A := 65) rfl (by omega) hn (by rw [hset_ne (by omega), q1.1 62 (by omega)]; exact h0) (by rw [eL]; exact hE)) (fun h2 q2 => ?_)
  obtain ⟨kf, ff⟩ := q2
  rw [eL] at ff
  refine r_aload_n rfl dX9_gainApart_25 ?_
  refine r_getR foX9_25 rfl rfl dX9_gainApart_26 ?_
  refine r_iload_n rfl dX9_gainApart_29 ?_
  refine r_ild rfl rfl (by omega) (by decide) dX9_gainApart_30 ?_
  rw [(ff k hk).1]
  refine r_aload_n rfl dX9_gainApart_31 ?_
  refine r_getR foX9_46 rfl rfl dX9_gainApart_32 ?_
  refine r_iload_n rfl dX9_gainApart_35 ?_
  refine r_ild rfl rfl (by omega) (by decide) dX9_gainApart_36 ?_
  rw [kf 75 (by omega), hset_ne (by omega), q1.1 75 (by omega), hnow k hk]
  refine r_isub dX9_gainApart_37 ?_
  refine ret_i dX9_gainApart_38 rfl ?_
  refine ⟨?_, fun q a b => by rw [kf q a, hset_ne b, q1.1 q b]⟩
  rw [gLv]
  congr 1
  refine goodS_pat (EcEq.refl _) (Pat.trans (r' := upd (h A) k 7) (Pat.of_eq (fun j hj => ?_)) (pat_fresh (fun j hj => by rw [hc j hj]; exact nI_7 (hb j hj)) (fun j hj => by rw [hc j hj]; exact nI_m1 (by have := hb j hj; omega)))) hk
  rw [hset_same]
  have hj6 : j < 6 := Nat.lt_of_lt_of_le hj hn
  exact upd_cong (q1.2.1 j hj6)

