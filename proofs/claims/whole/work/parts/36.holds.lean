theorem CP.trav {g : GG} {h h' : Hp} {n m b : Nat} {c : Nat → Nat} (I : CI g h n c m b) (k : KeepT 42 2 h h') (gx : GC h' 2 n) : CP g h h' n c m b (eH h 3 n) (h 55) := CP.jud I (fun q a b _ => k q (by omega) (by omega)) gx (I.2.1.keep (k _ (by omega) (by omega)) (k _ (by omega) (by omega)) (by rw [k _ (by omega) (by omega)]) (eH_keep (fun q a b => k q (by omega) (by omega))))
theorem CP.judg {g : GG} {h h' : Hp} {n m b : Nat} {c : Nat → Nat} (I : CI g h n c m b) (k : ∀ q, ¬ (8 < q ∧ q ≤ 19) → ¬ (59 ≤ q ∧ q ≤ 61) → h' q = h q) (gx : GC h' 2 n) : CP g h h' n c m b (eH h 3 n) (h 55) := CP.jud I (fun q a _ d => k q a d) gx (I.2.1.keep (k _ (by omega) (by omega)) (k _ (by omega) (by omega)) (by rw [k _ (by omega) (by omega)]) (eH_keep (fun q a b => k q (by omega) (by omega))))
/-- the most that a land has by leaving -/
def hoF (E : Ec) (r : Nat → Int32) : Nat → Int32
  | 0 => 0
  | l + 1 => if hoF E r l < gLv E r l then gLv E r l else hoF E r l

set_option maxRecDepth 100000 in
set_option maxHeartbeats 400000 in
theorem c_holds {g : GG} {n m b : Nat} {h : Hp} {c : Nat → Nat} (I : CI g h n c m b) : R g mX8_holds 0 [some (.ref (ad g 0)), none, none] [] h (Ri fun v h' => v = hoF (eH h 3 n) (lab c) n ∧ CP g h h' n c m b (eH h 3 n) (h 55)) := by
  have hn6 := I.1.2.1
  have h0 : h 3 0 = nI n := I.1.2.2.1
  have loop : ∀ (z l : Nat) (hh : Hp) (x : Int32), l ≤ n → n < l + z → x = hoF (eH h 3 n) (lab c) l → KeepJ 2 h hh → GC hh 2 n → R g mX8_holds 4 [some (.ref (ad g 0)), some (.int x), some (.int (nI l))] [] hh (Ri fun v h' => v = hoF (eH h 3 n) (lab c) n ∧ CP g h h' n c m b (eH h 3 n) (h 55)) := by
    intro z
    induction z with
    | zero => intro l hh x a b; omega
    | succ z ih =>
      intro l hh x a b ex k1 g1
      subst ex
      refine r_iload_n rfl dX8_holds_4 ?_
      refine r_aload_n rfl dX8_holds_5 ?_
      refine r_getR foX8_23 rfl rfl dX8_holds_6 ?_
      refine r_getI foX8_73 rfl rfl dX8_holds_9 ?_
      rw [k1 3 (by omega), h0]
      refine r_icmp_ge 38 dX8_holds_12 (by decide) (fun c_12 => ?_) (fun c_12 => ?_)
      · refine r_iload_n rfl dX8_holds_38 ?_
        refine ret_i dX8_holds_39 rfl ?_
        have e : l = n := by have := ge_y (by omega) (by omega) c_12; omega
        exact ⟨by rw [e], CP.judg I (fun q a _ => k1 q (by omega)) g1⟩
      · have hlk : l < n := ge_n (by omega) c_12
        refine r_iload_n rfl dX8_holds_15 ?_
        refine r_aload_n rfl dX8_holds_16 ?_
        refine r_getR foX8_10 rfl rfl dX8_holds_17 ?_
        refine r_aload_n rfl dX8_holds_20 ?_
        refine r_getR foX8_60 rfl rfl dX8_holds_21 ?_
        refine r_iload_n rfl dX8_holds_24 ?_
        refine r_cV2i (T := TX2) (N := 3) moX2_gainByLeaving lkX8_227 rfl rfl (Nat.le_of_ble_eq_true rfl) ⟨by decide, by decide⟩ (Nat.le_of_ble_eq_true rfl) dX8_holds_25 rfl (c_gainByLeaving jd1 pa56 (Or.inl (by omega)) (k1.JI I.1 g1) I.2.2.2.1 (k1.PS (Or.inl (by omega)) I.2.2.2.2.1) hlk) (fun v1 h1 q1 => ?_)
        obtain ⟨e1, kx, gx⟩ := q1
        have kx := k1.trans kx
        rw [show eH hh (2 + 1) n = eH h 3 n from k1.eH] at e1
        subst e1
        refine r_max lkX8_171 ⟨by decide, Nat.le_of_ble_eq_true rfl⟩ dX8_holds_28 ?_
        refine r_ist1 rfl (by decide) dX8_holds_31 ?_
        first | refine r_incN2 rfl (by decide) dX8_holds_32 ?_ | refine r_incP2 rfl (by decide) dX8_holds_32 ?_
        refine r_goto 4 dX8_holds_35 (by decide) ?_
        exact ih (l + 1) _ _ (by omega) (by omega) rfl kx gx
  refine r_iconst (v := (0 : Int32)) (by decide) dX8_holds_0 ?_
  refine r_ist1 rfl (by decide) dX8_holds_1 ?_
  refine r_iconst (v := nI 0) (by decide) dX8_holds_2 ?_
  refine r_ist2 rfl (by decide) dX8_holds_3 ?_
  exact loop (n + 1) 0 _ _ (by omega) (by omega) rfl KeepJ.refl I.1.2.2.2.2

