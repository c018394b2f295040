theorem tsOut {x : Int32} (K : Nat) (hK : K < 100) (h : ∀ i, i ≤ K → ¬ x = nI i) : x.toInt < 0 ∨ (K : Int) < x.toInt := by
  refine Decidable.byContradiction fun q => ?_
  have h0 : ¬ x < 0 := fun z => q (Or.inl (by have := Int32.lt_iff_toInt_lt.mp z; simpa using this))
  obtain ⟨j, hj, e⟩ := nI_of h0
  have hj2 := nI_toInt hj
  refine h j ?_ e
  rw [e, hj2] at q
  omega
def rng (lo hi v : Int32) : Int32 := if v < lo then 0 else if hi < v then 0 else 1
def fitV (w v : Int32) : Int32 := if w = nI 0 then rng 1 99 v else if w = nI 1 then rng 1 99 v else if w = nI 2 then rng 0 20 v else if w = nI 3 then rng 0 60 v else 0

set_option maxRecDepth 100000 in
set_option maxHeartbeats 4000000 in
theorem c_fits {g : GG} {w v : Int32} {h : Hp} : R g mX3_fits 0 [some (.int w), some (.int v)] [] h (Ri fun r h' => h' = h ∧ r = fitV w v) := by
  refine r_iload_n rfl dX3_fits_0 ?_
  by_cases t_0 : w = nI 0
  · refine r_tsIn 32 dX3_fits_1 (by rw [t_0]; decide) (by rw [t_0]; decide) (by rw [t_0]; rfl) (by decide) ?_
    refine r_iload_n rfl dX3_fits_32 ?_
    refine r_iconst (v := (1 : Int32)) (by decide) dX3_fits_33 ?_
    refine r_icmp_lt 47 dX3_fits_34 (by decide) (fun c_34 => ?_) (fun c_34 => ?_)
    · refine r_iconst (v := (0 : Int32)) (by decide) dX3_fits_47 ?_
      refine ret_z dX3_fits_48 rfl (by decide) ?_
      exact ⟨rfl, by first | rw [fitV, if_pos t_0, rng, if_pos c_34] | rw [fitV, if_pos t_0, rng, if_neg c_34, if_pos c_40] | rw [fitV, if_pos t_0, rng, if_neg c_34, if_neg c_40]⟩
    · refine r_iload_n rfl dX3_fits_37 ?_
      refine r_bipush (v := (99 : Int32)) (by decide) dX3_fits_38 ?_
      refine r_icmp_gt 47 dX3_fits_40 (by decide) (fun c_40 => ?_) (fun c_40 => ?_)
      · refine r_iconst (v := (0 : Int32)) (by decide) dX3_fits_47 ?_
        refine ret_z dX3_fits_48 rfl (by decide) ?_
        exact ⟨rfl, by first | rw [fitV, if_pos t_0, rng, if_pos c_34] | rw [fitV, if_pos t_0, rng, if_neg c_34, if_pos c_40] | rw [fitV, if_pos t_0, rng, if_neg c_34, if_neg c_40]⟩
      · refine r_iconst (v := (1 : Int32)) (by decide) dX3_fits_43 ?_
        refine r_goto 48 dX3_fits_44 (by decide) ?_
        refine ret_z dX3_fits_48 rfl (by decide) ?_
        exact ⟨rfl, by first | rw [fitV, if_pos t_0, rng, if_pos c_34] | rw [fitV, if_pos t_0, rng, if_neg c_34, if_pos c_40] | rw [fitV, if_pos t_0, rng, if_neg c_34, if_neg c_40]⟩
  ·
    by_cases t_1 : w = nI 1
    · refine r_tsIn 49 dX3_fits_1 (by rw [t_1]; decide) (by rw [t_1]; decide) (by rw [t_1]; rfl) (by decide) ?_
      refine r_iload_n rfl dX3_fits_49 ?_
      refine r_iconst (v := (1 : Int32)) (by decide) dX3_fits_50 ?_
      refine r_icmp_lt 64 dX3_fits_51 (by decide) (fun c_51 => ?_) (fun c_51 => ?_)
      · refine r_iconst (v := (0 : Int32)) (by decide) dX3_fits_64 ?_
        refine ret_z dX3_fits_65 rfl (by decide) ?_
        exact ⟨rfl, by first | rw [fitV, if_neg t_0, if_pos t_1, rng, if_pos c_51] | rw [fitV, if_neg t_0, if_pos t_1, rng, if_neg c_51, if_pos c_57] | rw [fitV, if_neg t_0, if_pos t_1, rng, if_neg c_51, if_neg c_57]⟩
      · refine r_iload_n rfl dX3_fits_54 ?_
        refine r_bipush (v := (99 : Int32)) (by decide) dX3_fits_55 ?_
        refine r_icmp_gt 64 dX3_fits_57 (by decide) (fun c_57 => ?_) (fun c_57 => ?_)
        · refine r_iconst (v := (0 : Int32)) (by decide) dX3_fits_64 ?_
          refine ret_z dX3_fits_65 rfl (by decide) ?_
          exact ⟨rfl, by first | rw [fitV, if_neg t_0, if_pos t_1, rng, if_pos c_51] | rw [fitV, if_neg t_0, if_pos t_1, rng, if_neg c_51, if_pos c_57] | rw [fitV, if_neg t_0, if_pos t_1, rng, if_neg c_51, if_neg c_57]⟩
        · refine r_iconst (v := (1 : Int32)) (by decide) dX3_fits_60 ?_
          refine r_goto 65 dX3_fits_61 (by decide) ?_
          refine ret_z dX3_fits_65 rfl (by decide) ?_
          exact ⟨rfl, by first | rw [fitV, if_neg t_0, if_pos t_1, rng, if_pos c_51] | rw [fitV, if_neg t_0, if_pos t_1, rng, if_neg c_51, if_pos c_57] | rw [fitV, if_neg t_0, if_pos t_1, rng, if_neg c_51, if_neg c_57]⟩
    ·
      by_cases t_2 : w = nI 2
      · refine r_tsIn 66 dX3_fits_1 (by rw [t_2]; decide) (by rw [t_2]; decide) (by rw [t_2]; rfl) (by decide) ?_
        refine r_iload_n rfl dX3_fits_66 ?_
        refine r_if_lt 80 dX3_fits_67 (by decide) (fun c_67 => ?_) (fun c_67 => ?_)
        · refine r_iconst (v := (0 : Int32)) (by decide) dX3_fits_80 ?_
          refine ret_z dX3_fits_81 rfl (by decide) ?_
          exact ⟨rfl, by first | rw [fitV, if_neg t_0, if_neg t_1, if_pos t_2, rng, if_pos c_67] | rw [fitV, if_neg t_0, if_neg t_1, if_pos t_2, rng, if_neg c_67, if_pos c_73] | rw [fitV, if_neg t_0, if_neg t_1, if_pos t_2, rng, if_neg c_67, if_neg c_73]⟩
        · refine r_iload_n rfl dX3_fits_70 ?_
          refine r_bipush (v := (20 : Int32)) (by decide) dX3_fits_71 ?_
          refine r_icmp_gt 80 dX3_fits_73 (by decide) (fun c_73 => ?_) (fun c_73 => ?_)
          · refine r_iconst (v := (0 : Int32)) (by decide) dX3_fits_80 ?_
            refine ret_z dX3_fits_81 rfl (by decide) ?_
            exact ⟨rfl, by first | rw [fitV, if_neg t_0, if_neg t_1, if_pos t_2, rng, if_pos c_67] | rw [fitV, if_neg t_0, if_neg t_1, if_pos t_2, rng, if_neg c_67, if_pos c_73] | rw [fitV, if_neg t_0, if_neg t_1, if_pos t_2, rng, if_neg c_67, if_neg c_73]⟩
          · refine r_iconst (v := (1 : Int32)) (by decide) dX3_fits_76 ?_
            refine r_goto 81 dX3_fits_77 (by decide) ?_
            refine ret_z dX3_fits_81 rfl (by decide) ?_
            exact ⟨rfl, by first | rw [fitV, if_neg t_0, if_neg t_1, if_pos t_2, rng, if_pos c_67] | rw [fitV, if_neg t_0, if_neg t_1, if_pos t_2, rng, if_neg c_67, if_pos c_73] | rw [fitV, if_neg t_0, if_neg t_1, if_pos t_2, rng, if_neg c_67, if_neg c_73]⟩
      ·
        by_cases t_3 : w = nI 3
        · refine r_tsIn 82 dX3_fits_1 (by rw [t_3]; decide) (by rw [t_3]; decide) (by rw [t_3]; rfl) (by decide) ?_
          refine r_iload_n rfl dX3_fits_82 ?_
          refine r_if_lt 96 dX3_fits_83 (by decide) (fun c_83 => ?_) (fun c_83 => ?_)
          · refine r_iconst (v := (0 : Int32)) (by decide) dX3_fits_96 ?_
            refine ret_z dX3_fits_97 rfl (by decide) ?_
            exact ⟨rfl, by first | rw [fitV, if_neg t_0, if_neg t_1, if_neg t_2, if_pos t_3, rng, if_pos c_83] | rw [fitV, if_neg t_0, if_neg t_1, if_neg t_2, if_pos t_3, rng, if_neg c_83, if_pos c_89] | rw [fitV, if_neg t_0, if_neg t_1, if_neg t_2, if_pos t_3, rng, if_neg c_83, if_neg c_89]⟩
          · refine r_iload_n rfl dX3_fits_86 ?_
            refine r_bipush (v := (60 : Int32)) (by decide) dX3_fits_87 ?_
            refine r_icmp_gt 96 dX3_fits_89 (by decide) (fun c_89 => ?_) (fun c_89 => ?_)
            · refine r_iconst (v := (0 : Int32)) (by decide) dX3_fits_96 ?_
              refine ret_z dX3_fits_97 rfl (by decide) ?_
              exact ⟨rfl, by first | rw [fitV, if_neg t_0, if_neg t_1, if_neg t_2, if_pos t_3, rng, if_pos c_83] | rw [fitV, if_neg t_0, if_neg t_1, if_neg t_2, if_pos t_3, rng, if_neg c_83, if_pos c_89] | rw [fitV, if_neg t_0, if_neg t_1, if_neg t_2, if_pos t_3, rng, if_neg c_83, if_neg c_89]⟩
            · refine r_iconst (v := (1 : Int32)) (by decide) dX3_fits_92 ?_
              refine r_goto 97 dX3_fits_93 (by decide) ?_
              refine ret_z dX3_fits_97 rfl (by decide) ?_
              exact ⟨rfl, by first | rw [fitV, if_neg t_0, if_neg t_1, if_neg t_2, if_pos t_3, rng, if_pos c_83] | rw [fitV, if_neg t_0, if_neg t_1, if_neg t_2, if_pos t_3, rng, if_neg c_83, if_pos c_89] | rw [fitV, if_neg t_0, if_neg t_1, if_neg t_2, if_pos t_3, rng, if_neg c_83, if_neg c_89]⟩
        · refine r_tsOut 98 dX3_fits_1 (by have := tsOut (x := w) 3 (by decide) (fun i hi => by rcases (show i = 0 ∨ i = 1 ∨ i = 2 ∨ i = 3 by omega) with rfl | rfl | rfl | rfl <;> assumption); omega) (by decide) ?_
          refine r_iconst (v := (0 : Int32)) (by decide) dX3_fits_98 ?_
          refine ret_z dX3_fits_99 rfl (by decide) ?_
          exact ⟨rfl, by rw [fitV, if_neg t_0, if_neg t_1, if_neg t_2, if_neg t_3]⟩

set_option maxRecDepth 100000 in
set_option maxHeartbeats 4000000 in
theorem c_rowOfL {g : GG} {L w : Nat} {h : Hp} (hL : LandAt L) (hw : w < 4) : R g mX3_rowOf 0 [some (.ref (ad g L)), some (.int (nI w))] [] h (Ra fun a h' => h' = h ∧ a = ad g (L + (w + 1))) := by
  rcases (show w = 0 ∨ w = 1 ∨ w = 2 ∨ w = 3 by omega) with rfl | rfl | rfl | rfl
  · refine r_iload_n rfl dX3_rowOf_0 ?_
    refine r_tsIn 28 dX3_rowOf_1 (by decide) (by decide) rfl (by decide) ?_
    refine r_aload_n rfl dX3_rowOf_28 ?_
    refine r_getR foX3_15 hL.1 rfl dX3_rowOf_29 ?_
    refine ret_a dX3_rowOf_32 rfl ?_
    exact ⟨rfl, rfl⟩
  · refine r_iload_n rfl dX3_rowOf_0 ?_
    refine r_tsIn 33 dX3_rowOf_1 (by decide) (by decide) rfl (by decide) ?_
    refine r_aload_n rfl dX3_rowOf_33 ?_
    refine r_getR foX3_19 hL.1 rfl dX3_rowOf_34 ?_
    refine ret_a dX3_rowOf_37 rfl ?_
    exact ⟨rfl, rfl⟩
  · refine r_iload_n rfl dX3_rowOf_0 ?_
    refine r_tsIn 38 dX3_rowOf_1 (by decide) (by decide) rfl (by decide) ?_
    refine r_aload_n rfl dX3_rowOf_38 ?_
    refine r_getR foX3_22 hL.1 rfl dX3_rowOf_39 ?_
    refine ret_a dX3_rowOf_42 rfl ?_
    exact ⟨rfl, rfl⟩
  · refine r_iload_n rfl dX3_rowOf_0 ?_
    refine r_tsOut 43 dX3_rowOf_1 (Or.inr (by decide)) (by decide) ?_
    refine r_aload_n rfl dX3_rowOf_43 ?_
    refine r_getR foX3_25 hL.1 rfl dX3_rowOf_44 ?_
    refine ret_a dX3_rowOf_47 rfl ?_
    exact ⟨rfl, rfl⟩


theorem LandAt.arr {L w : Nat} (hL : LandAt L) (hw : w < 4) : shl[L + (w + 1)]? = some (.inl 6) := by
  rcases (show w = 0 ∨ w = 1 ∨ w = 2 ∨ w = 3 by omega) with rfl | rfl | rfl | rfl
  · exact hL.2.1
  · exact hL.2.2.1
  · exact hL.2.2.2.1
  · exact hL.2.2.2.2

set_option maxRecDepth 100000 in
set_option maxHeartbeats 4000000 in
theorem c_put {g : GG} {L w k : Nat} {v : Int32} {h : Hp} (hL : LandAt L) (hw : w < 4) (hk : k < 6) : R g mX3_put 0 [some (.ref (ad g L)), some (.int (nI w)), some (.int (nI k)), some (.int v)] [] h (Rv fun h' => h' = hset (hset h (L + (w + 1)) k v) L 3 (hset h (L + (w + 1)) k v L 3 + 1)) := by
  refine r_aload_n rfl dX3_put_0 ?_
  refine r_iload_n rfl dX3_put_1 ?_
  refine r_cV1a (T := TX3) (N := 8) moX3_rowOf lkX3_31 hL.1 rfl (Nat.le_of_ble_eq_true rfl) ⟨by decide, by decide⟩ (Nat.le_of_ble_eq_true rfl) dX3_put_2 rfl (c_rowOfL hL hw) (fun a1 h1 q1 => ?_)
  obtain ⟨e1, f1⟩ := q1
  subst f1
  rw [e1]
  refine r_iload_n rfl dX3_put_5 ?_
  refine r_iload_n rfl dX3_put_6 ?_
  refine r_ias (hL.arr hw) rfl (by omega) (by decide) dX3_put_7 ?_
  refine r_aload_n rfl dX3_put_8 ?_
  refine r_dup rfl dX3_put_9 ?_
  refine r_getI foX3_9 hL.1 rfl dX3_put_10 ?_
  refine r_iconst (v := (1 : Int32)) (by decide) dX3_put_13 ?_
  refine r_iadd dX3_put_14 ?_
  refine r_putI fpX3_9 hL.1 rfl dX3_put_15 ?_
  refine ret_v dX3_put_18 rfl ?_
  rfl

set_option maxRecDepth 100000 in
set_option maxHeartbeats 4000000 in
theorem c_putWalls {g : GG} {L : Nat} {v : Int32} {h : Hp} (hL : LandAt L) : R g mX3_putWalls 0 [some (.ref (ad g L)), some (.int v)] [] h (Rv fun h' => h' = hset (hset h L 1 v) L 3 (hset h L 1 v L 3 + 1)) := by
  refine r_aload_n rfl dX3_putWalls_0 ?_
  refine r_iload_n rfl dX3_putWalls_1 ?_
  refine r_putI fpX3_35 hL.1 rfl dX3_putWalls_2 ?_
  refine r_aload_n rfl dX3_putWalls_5 ?_
  refine r_dup rfl dX3_putWalls_6 ?_
  refine r_getI foX3_9 hL.1 rfl dX3_putWalls_7 ?_
  refine r_iconst (v := (1 : Int32)) (by decide) dX3_putWalls_10 ?_
  refine r_iadd dX3_putWalls_11 ?_
  refine r_putI fpX3_9 hL.1 rfl dX3_putWalls_12 ?_
  refine ret_v dX3_putWalls_15 rfl ?_
  rfl

set_option maxRecDepth 100000 in
set_option maxHeartbeats 4000000 in
theorem c_putShares {g : GG} {L : Nat} {v : Int32} {h : Hp} (hL : LandAt L) : R g mX3_putShares 0 [some (.ref (ad g L)), some (.int v)] [] h (Rv fun h' => h' = hset (hset h L 2 v) L 3 (hset h L 2 v L 3 + 1)) := by
  refine r_aload_n rfl dX3_putShares_0 ?_
  refine r_iload_n rfl dX3_putShares_1 ?_
  refine r_putI fpX3_38 hL.1 rfl dX3_putShares_2 ?_
  refine r_aload_n rfl dX3_putShares_5 ?_
  refine r_dup rfl dX3_putShares_6 ?_
  refine r_getI foX3_9 hL.1 rfl dX3_putShares_7 ?_
  refine r_iconst (v := (1 : Int32)) (by decide) dX3_putShares_10 ?_
  refine r_iadd dX3_putShares_11 ?_
  refine r_putI fpX3_9 hL.1 rfl dX3_putShares_12 ?_
  refine ret_v dX3_putShares_15 rfl ?_
  rfl

set_option maxRecDepth 100000 in
set_option maxHeartbeats 4000000 in
theorem c_addL {g : GG} {L n : Nat} {a b c d : Int32} {h : Hp} (hL : LandAt L) (hn : n < 6) (h0 : h L 0 = nI n) : R g mX3_add 0 [some (.ref (ad g L)), some (.int a), some (.int b), some (.int c), some (.int d), none] [] h (Ri fun v h' => v = nI n ∧ h' = hset (hset (hset (hset (hset (hset h (L + 1) n a) (L + 2) n b) (L + 3) n c) (L + 4) n d) L 0 ((hset (hset (hset (hset h (L + 1) n a) (L + 2) n b) (L + 3) n c) (L + 4) n d) L 0 + 1)) L 3 (hset (hset (hset (hset (hset h (L + 1) n a) (L + 2) n b) (L + 3) n c) (L + 4) n d) L 0 ((hset (hset (hset (hset h (L + 1) n a) (L + 2) n b) (L + 3) n c) (L + 4) n d) L 0 + 1) L 3 + 1)) := by
  refine r_aload_n rfl dX3_add_0 ?_
  refine r_getI foX3_28 hL.1 rfl dX3_add_1 ?_
  rw [h0]
  refine r_ist5 rfl (by decide) dX3_add_4 ?_
  refine r_aload_n rfl dX3_add_6 ?_
  refine r_getR foX3_15 hL.1 rfl dX3_add_7 ?_
  refine r_iload rfl dX3_add_10 ?_
  refine r_iload_n rfl dX3_add_12 ?_
  refine r_ias hL.2.1 rfl hn (by decide) dX3_add_13 ?_
  refine r_aload_n rfl dX3_add_14 ?_
  refine r_getR foX3_19 hL.1 rfl dX3_add_15 ?_
  refine r_iload rfl dX3_add_18 ?_
  refine r_iload_n rfl dX3_add_20 ?_
  refine r_ias hL.2.2.1 rfl hn (by decide) dX3_add_21 ?_
  refine r_aload_n rfl dX3_add_22 ?_
  refine r_getR foX3_22 hL.1 rfl dX3_add_23 ?_
  refine r_iload rfl dX3_add_26 ?_
  refine r_iload_n rfl dX3_add_28 ?_
  refine r_ias hL.2.2.2.1 rfl hn (by decide) dX3_add_29 ?_
  refine r_aload_n rfl dX3_add_30 ?_
  refine r_getR foX3_25 hL.1 rfl dX3_add_31 ?_
  refine r_iload rfl dX3_add_34 ?_
  refine r_iload rfl dX3_add_36 ?_
  refine r_ias hL.2.2.2.2 rfl hn (by decide) dX3_add_38 ?_
  refine r_aload_n rfl dX3_add_39 ?_
  refine r_dup rfl dX3_add_40 ?_
  refine r_getI foX3_28 hL.1 rfl dX3_add_41 ?_
  refine r_iconst (v := (1 : Int32)) (by decide) dX3_add_44 ?_
  refine r_iadd dX3_add_45 ?_
  refine r_putI fpX3_28 hL.1 rfl dX3_add_46 ?_
  refine r_aload_n rfl dX3_add_49 ?_
  refine r_dup rfl dX3_add_50 ?_
  refine r_getI foX3_9 hL.1 rfl dX3_add_51 ?_
  refine r_iconst (v := (1 : Int32)) (by decide) dX3_add_54 ?_
  refine r_iadd dX3_add_55 ?_
  refine r_putI fpX3_9 hL.1 rfl dX3_add_56 ?_
  refine r_iload rfl dX3_add_59 ?_
  refine ret_i dX3_add_61 rfl ?_
  exact ⟨rfl, rfl⟩

set_option maxRecDepth 100000 in
set_option maxHeartbeats 4000000 in
theorem c_copyL {g : GG} {L S : Nat} {h : Hp} (hL : LandAt L) (hS : LandAt S) (hd : L + 5 ≤ S ∨ S + 5 ≤ L) : R g mX3_copy 0 [some (.ref (ad g L)), some (.ref (ad g S)), none] [] h (Rv fun h1 => (∀ q, ¬ (L ≤ q ∧ q ≤ L + 4) → h1 q = h q) ∧ h1 L 0 = h S 0 ∧ h1 L 1 = h S 1 ∧ h1 L 2 = h S 2 ∧ h1 L 3 = h L 3 + 1 ∧ ∀ j, j < 6 → h1 (L + 1) j = h (S + 1) j ∧ h1 (L + 2) j = h (S + 2) j ∧ h1 (L + 3) j = h (S + 3) j ∧ h1 (L + 4) j = h (S + 4) j) := by
  have loop : ∀ (m l : Nat) (h1 : Hp), l ≤ 6 → 6 < l + m → ((∀ q, ¬ (L ≤ q ∧ q ≤ L + 4) → h1 q = h q) ∧ h1 L 0 = h S 0 ∧ h1 L 1 = h S 1 ∧ h1 L 2 = h S 2 ∧ h1 L 3 = h L 3 ∧ ∀ j, j < l → h1 (L + 1) j = h (S + 1) j ∧ h1 (L + 2) j = h (S + 2) j ∧ h1 (L + 3) j = h (S + 3) j ∧ h1 (L + 4) j = h (S + 4) j) → R g mX3_copy 26 [some (.ref (ad g L)), some (.ref (ad g S)), some (.int (nI l))] [] h1 (Rv fun h1 => (∀ q, ¬ (L ≤ q ∧ q ≤ L + 4) → h1 q = h q) ∧ h1 L 0 = h S 0 ∧ h1 L 1 = h S 1 ∧ h1 L 2 = h S 2 ∧ h1 L 3 = h L 3 + 1 ∧ ∀ j, j < 6 → h1 (L + 1) j = h (S + 1) j ∧ h1 (L + 2) j = h (S + 2) j ∧ h1 (L + 3) j = h (S + 3) j ∧ h1 (L + 4) j = h (S + 4) j) := by
    intro m
    induction m with
    | zero => intro l h1 a b; omega
    | succ m ih =>
      rintro l h1 a b ⟨H1, H2, H3, H4, H5, H6⟩
      refine r_iload_n rfl dX3_copy_26 ?_
      refine r_bipush (v := nI 6) (by decide) dX3_copy_27 ?_
      refine r_icmp_ge 86 dX3_copy_29 (by decide) (fun c_29 => ?_) (fun c_29 => ?_)
      · refine r_aload_n rfl dX3_copy_86 ?_
        refine r_dup rfl dX3_copy_87 ?_
        refine r_getI foX3_9 hL.1 rfl dX3_copy_88 ?_
        refine r_iconst (v := (1 : Int32)) (by decide) dX3_copy_91 ?_
        refine r_iadd dX3_copy_92 ?_
        refine r_putI fpX3_9 hL.1 rfl dX3_copy_93 ?_
        refine ret_v dX3_copy_96 rfl ?_
        have e : l = 6 := by have := ge_y (by omega) (by omega) c_29; omega
        subst e
        refine ⟨fun q x => by rw [hset_ne (by omega)]; exact H1 q x, ?_, ?_, ?_, ?_, fun j hj => ?_⟩
        · rw [hset_same, upd_ne (by omega)]; exact H2
        · rw [hset_same, upd_ne (by omega)]; exact H3
        · rw [hset_same, upd_ne (by omega)]; exact H4
        · rw [hset_same, upd_eq, H5]
        · rw [hset_ne (by omega), hset_ne (by omega), hset_ne (by omega), hset_ne (by omega)]; exact H6 j hj
      · have hlk : l < 6 := ge_n (by omega) c_29
        refine r_aload_n rfl dX3_copy_32 ?_
        refine r_getR foX3_15 hL.1 rfl dX3_copy_33 ?_
        refine r_iload_n rfl dX3_copy_36 ?_
        refine r_aload_n rfl dX3_copy_37 ?_
        refine r_getR foX3_15 hS.1 rfl dX3_copy_38 ?_
        refine r_iload_n rfl dX3_copy_41 ?_
        refine r_ild hS.2.1 rfl (by omega) (by decide) dX3_copy_42 ?_
        refine r_ias hL.2.1 rfl (by omega) (by decide) dX3_copy_43 ?_
        refine r_aload_n rfl dX3_copy_44 ?_
        refine r_getR foX3_19 hL.1 rfl dX3_copy_45 ?_
        refine r_iload_n rfl dX3_copy_48 ?_
        refine r_aload_n rfl dX3_copy_49 ?_
        refine r_getR foX3_19 hS.1 rfl dX3_copy_50 ?_
        refine r_iload_n rfl dX3_copy_53 ?_
        refine r_ild hS.2.2.1 rfl (by omega) (by decide) dX3_copy_54 ?_
        refine r_ias hL.2.2.1 rfl (by omega) (by decide) dX3_copy_55 ?_
        refine r_aload_n rfl dX3_copy_56 ?_
        refine r_getR foX3_22 hL.1 rfl dX3_copy_57 ?_
        refine r_iload_n rfl dX3_copy_60 ?_
        refine r_aload_n rfl dX3_copy_61 ?_
        refine r_getR foX3_22 hS.1 rfl dX3_copy_62 ?_
        refine r_iload_n rfl dX3_copy_65 ?_
        refine r_ild hS.2.2.2.1 rfl (by omega) (by decide) dX3_copy_66 ?_
        refine r_ias hL.2.2.2.1 rfl (by omega) (by decide) dX3_copy_67 ?_
        refine r_aload_n rfl dX3_copy_68 ?_
        refine r_getR foX3_25 hL.1 rfl dX3_copy_69 ?_
        refine r_iload_n rfl dX3_copy_72 ?_
        refine r_aload_n rfl dX3_copy_73 ?_
        refine r_getR foX3_25 hS.1 rfl dX3_copy_74 ?_
        refine r_iload_n rfl dX3_copy_77 ?_
        refine r_ild hS.2.2.2.2 rfl (by omega) (by decide) dX3_copy_78 ?_
        refine r_ias hL.2.2.2.2 rfl (by omega) (by decide) dX3_copy_79 ?_
        first | refine r_incN2 rfl (by decide) dX3_copy_80 ?_ | refine r_incP2 rfl (by decide) dX3_copy_80 ?_
        refine r_goto 26 dX3_copy_83 (by decide) ?_
        refine ih (l + 1) _ (by omega) (by omega) ⟨fun q x => ?_, ?_, ?_, ?_, ?_, fun j hj => ?_⟩
        · rw [hset_ne (by omega), hset_ne (by omega), hset_ne (by omega), hset_ne (by omega)]; exact H1 q x
        · rw [hset_ne (by omega), hset_ne (by omega), hset_ne (by omega), hset_ne (by omega)]; exact H2
        · rw [hset_ne (by omega), hset_ne (by omega), hset_ne (by omega), hset_ne (by omega)]; exact H3
        · rw [hset_ne (by omega), hset_ne (by omega), hset_ne (by omega), hset_ne (by omega)]; exact H4
        · rw [hset_ne (by omega), hset_ne (by omega), hset_ne (by omega), hset_ne (by omega)]; exact H5
        · by_cases e : j = l
          · subst e
            refine ⟨?_, ?_, ?_, ?_⟩
            · rw [hset_ne (by omega), hset_ne (by omega), hset_ne (by omega), hset_same, upd_eq, H1 _ (by omega)]
            · rw [hset_ne (by omega), hset_ne (by omega), hset_same, upd_eq, hset_ne (by omega), H1 _ (by omega)]
            · rw [hset_ne (by omega), hset_same, upd_eq, hset_ne (by omega), hset_ne (by omega), H1 _ (by omega)]
            · rw [hset_same, upd_eq, hset_ne (by omega), hset_ne (by omega), hset_ne (by omega), H1 _ (by omega)]
          · obtain ⟨a1, a2, a3, a4⟩ := H6 j (by omega)
            refine ⟨?_, ?_, ?_, ?_⟩
            · rw [hset_ne (by omega), hset_ne (by omega), hset_ne (by omega), hset_same, upd_ne e]; exact a1
            · rw [hset_ne (by omega), hset_ne (by omega), hset_same, upd_ne e, hset_ne (by omega)]; exact a2
            · rw [hset_ne (by omega), hset_same, upd_ne e, hset_ne (by omega), hset_ne (by omega)]; exact a3
            · rw [hset_same, upd_ne e, hset_ne (by omega), hset_ne (by omega), hset_ne (by omega)]; exact a4
  refine r_aload_n rfl dX3_copy_0 ?_
  refine r_aload_n rfl dX3_copy_1 ?_
  refine r_getI foX3_28 hS.1 rfl dX3_copy_2 ?_
  refine r_putI fpX3_28 hL.1 rfl dX3_copy_5 ?_
  refine r_aload_n rfl dX3_copy_8 ?_
  refine r_aload_n rfl dX3_copy_9 ?_
  refine r_getI foX3_35 hS.1 rfl dX3_copy_10 ?_
  refine r_putI fpX3_35 hL.1 rfl dX3_copy_13 ?_
  refine r_aload_n rfl dX3_copy_16 ?_
  refine r_aload_n rfl dX3_copy_17 ?_
  refine r_getI foX3_38 hS.1 rfl dX3_copy_18 ?_
  refine r_putI fpX3_38 hL.1 rfl dX3_copy_21 ?_
  refine r_iconst (v := nI 0) (by decide) dX3_copy_24 ?_
  refine r_ist2 rfl (by decide) dX3_copy_25 ?_
  refine loop 7 0 _ (by omega) (by omega) ⟨fun q x => by rw [hset_ne (by omega), hset_ne (by omega), hset_ne (by omega)], ?_, ?_, ?_, ?_, fun j hj => by omega⟩
  · rw [hset_same, upd_ne (by omega), hset_same, upd_ne (by omega), hset_same, upd_eq]
  · rw [hset_same, upd_ne (by omega), hset_same, upd_eq, hset_ne (by omega)]
  · rw [hset_same, upd_eq, hset_ne (by omega), hset_ne (by omega)]
  · rw [hset_same, upd_ne (by omega), hset_same, upd_ne (by omega), hset_same, upd_ne (by omega)]

