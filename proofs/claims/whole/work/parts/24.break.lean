/-- the first from u on, of e, that p holds of; else the default -/
def inF (p : Nat → Bool) (val : Nat → Int32) (df : Int32) : Nat → Nat → Int32
  | 0, _ => df
  | e + 1, u => if p u = true then val u else inF p val df e (u + 1)
def staV (E : Ec) (r : Nat → Int32) : Int32 := inF (fun l => decide (¬ gLv E r l ≤ 0)) nI (-6) (eN E) 0
def joP (E : Ec) (r : Nat → Int32) (l u : Nat) : Bool := decide (¬ r l = nI u ∧ ¬ gJ E r l (nI u) ≤ 0)
def joF (E : Ec) (r : Nat → Int32) (U : Nat) : Nat → Nat → Int32
  | 0, _ => -6
  | d + 1, l => inF (joP E r l) (fun u => 100 + 10 * nI l + nI u) (joF E r U d (l + 1)) U 0
def joiV (E : Ec) (r : Nat → Int32) (U : Nat) : Int32 := joF E r U (eN E) 0
def corV (E : Ec) (r : Nat → Int32) : Int32 := inF (fun t => decide (allG E r (nI t))) (fun t => 1000 + nI t) (-6) (2 ^ eN E - 1) 1
def bgI (E : Ec) (r : Nat → Int32) (k : Nat) : Int32 × Int32 := if gLv E r k ≤ 0 then (-2, 0) else (-1, gLv E r k)
def bgF (E : Ec) (r : Nat → Int32) (k : Nat) : Nat → Int32 × Int32
  | 0 => bgI E r k
  | u + 1 => if r k = nI u then bgF E r k u else if gJ E r k (nI u) ≤ (bgF E r k u).2 then bgF E r k u else (nI u, gJ E r k (nI u))
theorem shl1 {n : Nat} (hn : n ≤ 6) : (1 : Int32) <<< (nI n &&& 31) = nI (2 ^ n) := by
  rcases small7 hn with rfl | rfl | rfl | rfl | rfl | rfl | rfl <;> decide
theorem pow6 {n : Nat} (hn : n ≤ 6) : 0 < 2 ^ n ∧ 2 ^ n ≤ 64 := by
  rcases small7 hn with rfl | rfl | rfl | rfl | rfl | rfl | rfl <;> decide

set_option maxRecDepth 100000 in
set_option maxHeartbeats 4000000 in
theorem c_stayBreaker {g : GG} {J G P n : Nat} {h : Hp} {c : Nat → Nat} (hJ : JudgeAt J G) (hP : PartAt P) (hd : G + 18 ≤ P ∨ P + 3 ≤ G) (j : JI g h G n) (hc : Can n c) (hs : PS h P n c) : R g mX2_stayBreaker 0 [some (.ref (ad g J)), some (.ref (ad g P)), none] [] h (Ri fun v h' => v = staV (eH h (G + 1) n) (lab c) ∧ KeepJ G h h' ∧ GC h' G n) := by
  have hn6 := j.2.1
  have loop : ∀ (m : Nat) (h1 : Hp) (d l : Nat), l + d = n → d < m → KeepJ G h h1 → GC h1 G n → R g mX2_stayBreaker 2 [some (.ref (ad g J)), some (.ref (ad g P)), some (.int (nI l))] [] h1 (Ri fun v h' => v = inF (fun l => decide (¬ gLv (eH h (G + 1) n) (lab c) l ≤ 0)) nI (-6) d l ∧ KeepJ G h h' ∧ GC h' G n) := by
    intro m
    induction m with
    | zero => intro h1 d l a b; omega
    | succ m ih =>
      intro h1 d l a b k1 g1
      refine r_iload_n rfl dX2_stayBreaker_2 ?_
      refine r_aload_n rfl dX2_stayBreaker_3 ?_
      refine r_getR foX2_22 hJ.1 rfl dX2_stayBreaker_4 ?_
      refine r_getI foX2_50 hJ.2.1.2.1.1 rfl dX2_stayBreaker_7 ?_
      refine r_icmp_ge 30 dX2_stayBreaker_10 (by decide) (fun c_10 => ?_) (fun c_10 => ?_)
      · rw [k1 (G + 1) (by omega), j.2.2.1] at c_10
        have e : l = n := by have := ge_y (by omega) (by omega) c_10; omega
        refine r_bipush (v := (-6 : Int32)) (by decide) dX2_stayBreaker_30 ?_
        refine ret_i dX2_stayBreaker_32 rfl ?_
        have e2 : d = 0 := by omega
        subst e2
        exact ⟨rfl, k1, g1⟩
      · rw [k1 (G + 1) (by omega), j.2.2.1] at c_10
        have hlk : l < n := ge_n (by omega) c_10
        refine r_aload_n rfl dX2_stayBreaker_13 ?_
        refine r_aload_n rfl dX2_stayBreaker_14 ?_
        refine r_iload_n rfl dX2_stayBreaker_15 ?_
        refine r_cV2i (T := TX2) (N := 3) moX2_gainByLeaving lkX2_63 hJ.1 rfl (Nat.le_of_ble_eq_true rfl) ⟨by decide, by decide⟩ (Nat.le_of_ble_eq_true rfl) dX2_stayBreaker_16 rfl (c_gainByLeaving hJ hP hd (k1.JI j g1) hc (k1.PS hd hs) (by omega)) (fun v1 h1 q1 => ?_)
        obtain ⟨e1, kx, gx⟩ := q1
        have kx := k1.trans kx
        rw [k1.eH] at e1
        subst e1
        refine r_if_le 24 dX2_stayBreaker_19 (by decide) (fun c_19 => ?_) (fun c_19 => ?_)
        · first | refine r_incN2 rfl (by decide) dX2_stayBreaker_24 ?_ | refine r_incP2 rfl (by decide) dX2_stayBreaker_24 ?_
          refine r_goto 2 dX2_stayBreaker_27 (by decide) ?_
          obtain ⟨d, rfl⟩ : ∃ d', d = d' + 1 := ⟨d - 1, by omega⟩
          refine Ri.imp (ih _ d (l + 1) (by omega) (by omega) kx gx) (fun v h' q => ⟨?_, q.2⟩)
          rw [q.1, inF, if_neg (by simpa using c_19)]
        · refine r_iload_n rfl dX2_stayBreaker_22 ?_
          refine ret_i dX2_stayBreaker_23 rfl ?_
          obtain ⟨d, rfl⟩ : ∃ d', d = d' + 1 := ⟨d - 1, by omega⟩
          exact ⟨by rw [inF, if_pos (by simpa using c_19)], kx, gx⟩
  refine r_iconst (v := nI 0) (by decide) dX2_stayBreaker_0 ?_
  refine r_ist2 rfl (by decide) dX2_stayBreaker_1 ?_
  exact loop (n + 1) _ n 0 (by omega) (by omega) KeepJ.refl j.2.2.2.2

set_option maxRecDepth 100000 in
set_option maxHeartbeats 4000000 in
theorem c_coreBreaker {g : GG} {J G P n : Nat} {h : Hp} {c : Nat → Nat} (hJ : JudgeAt J G) (hP : PartAt P) (hd : G + 18 ≤ P ∨ P + 3 ≤ G) (j : JI g h G n) (hc : Can n c) (hs : PS h P n c) : R g mX2_coreBreaker 0 [some (.ref (ad g J)), some (.ref (ad g P)), none] [] h (Ri fun v h' => v = corV (eH h (G + 1) n) (lab c) ∧ KeepJ G h h' ∧ GC h' G n) := by
  have hn6 := j.2.1
  have hp6 := pow6 hn6
  have loop : ∀ (m : Nat) (h1 : Hp) (d l : Nat), l + d = 2 ^ n → d < m → KeepJ G h h1 → GC h1 G n → R g mX2_coreBreaker 2 [some (.ref (ad g J)), some (.ref (ad g P)), some (.int (nI l))] [] h1 (Ri fun v h' => v = inF (fun t => decide (allG (eH h (G + 1) n) (lab c) (nI t))) (fun t => 1000 + nI t) (-6) d l ∧ KeepJ G h h' ∧ GC h' G n) := by
    intro m
    induction m with
    | zero => intro h1 d l a b; omega
    | succ m ih =>
      intro h1 d l a b k1 g1
      refine r_iload_n rfl dX2_coreBreaker_2 ?_
      refine r_iconst (v := (1 : Int32)) (by decide) dX2_coreBreaker_3 ?_
      refine r_aload_n rfl dX2_coreBreaker_4 ?_
      refine r_getI foX2_74 hP.1 rfl dX2_coreBreaker_5 ?_
      rw [(k1.PS hd hs).1]
      refine r_ishl dX2_coreBreaker_8 ?_
      rw [shl1 hn6]
      refine r_icmp_ge 33 dX2_coreBreaker_9 (by decide) (fun c_9 => ?_) (fun c_9 => ?_)
      · have e : l = 2 ^ n := by have := ge_y (by omega) (by omega) c_9; omega
        refine r_bipush (v := (-6 : Int32)) (by decide) dX2_coreBreaker_33 ?_
        refine ret_i dX2_coreBreaker_35 rfl ?_
        have e2 : d = 0 := by omega
        subst e2
        exact ⟨rfl, k1, g1⟩
      · have hlk : l < 2 ^ n := ge_n (by omega) c_9
        refine r_aload_n rfl dX2_coreBreaker_12 ?_
        refine r_aload_n rfl dX2_coreBreaker_13 ?_
        refine r_iload_n rfl dX2_coreBreaker_14 ?_
        refine r_cV2i (T := TX2) (N := 3) moX2_wouldAllGain lkX2_75 hJ.1 rfl (Nat.le_of_ble_eq_true rfl) ⟨by decide, by decide⟩ (Nat.le_of_ble_eq_true rfl) dX2_coreBreaker_15 rfl (c_wouldAllGain hJ hP hd (k1.JI j g1) hc (k1.PS hd hs)) (fun v1 h1 q1 => ?_)
        obtain ⟨e1, kx, gx⟩ := q1
        have kx := k1.trans kx
        rw [k1.eH] at e1
        subst e1
        refine r_if_eq 27 dX2_coreBreaker_18 (by decide) (fun c_18 => ?_) (fun c_18 => ?_)
        · first | refine r_incN2 rfl (by decide) dX2_coreBreaker_27 ?_ | refine r_incP2 rfl (by decide) dX2_coreBreaker_27 ?_
          refine r_goto 2 dX2_coreBreaker_30 (by decide) ?_
          obtain ⟨d, rfl⟩ : ∃ d', d = d' + 1 := ⟨d - 1, by omega⟩
          refine Ri.imp (ih _ d (l + 1) (by omega) (by omega) kx gx) (fun v h' q => ⟨?_, q.2⟩)
          have na : ¬ allG (eH h (G + 1) n) (lab c) (nI l) := fun z => by rw [if_pos z] at c_18; exact absurd c_18 (by decide)
          rw [q.1, inF, if_neg (by simpa using na)]
        · refine r_sipush (v := (1000 : Int32)) (by decide) dX2_coreBreaker_21 ?_
          refine r_iload_n rfl dX2_coreBreaker_24 ?_
          refine r_iadd dX2_coreBreaker_25 ?_
          refine ret_i dX2_coreBreaker_26 rfl ?_
          obtain ⟨d, rfl⟩ : ∃ d', d = d' + 1 := ⟨d - 1, by omega⟩
          have na : allG (eH h (G + 1) n) (lab c) (nI l) := Decidable.byContradiction fun z => c_18 (if_neg z)
          exact ⟨by rw [inF, if_pos (by simpa using na)], kx, gx⟩
  refine r_iconst (v := nI 1) (by decide) dX2_coreBreaker_0 ?_
  refine r_ist2 rfl (by decide) dX2_coreBreaker_1 ?_
  exact loop (2 ^ n) _ (2 ^ n - 1) 1 (by omega) (by omega) KeepJ.refl j.2.2.2.2

set_option maxRecDepth 100000 in
set_option maxHeartbeats 4000000 in
theorem c_joinBreaker {g : GG} {J G P n : Nat} {h : Hp} {c : Nat → Nat} (hJ : JudgeAt J G) (hP : PartAt P) (hd : G + 18 ≤ P ∨ P + 3 ≤ G) (j : JI g h G n) (hc : Can n c) (hs : PS h P n c) : R g mX2_joinBreaker 0 [some (.ref (ad g J)), some (.ref (ad g P)), none, none] [] h (Ri fun v h' => v = joiV (eH h (G + 1) n) (lab c) (mx c n) ∧ KeepJ G h h' ∧ GC h' G n) := by
  have hn6 := j.2.1
  have hmx := mx_le hc n (Nat.le_refl _)
  have inner : ∀ (d l : Nat), l + d + 1 = n → (∀ (h1 : Hp) {z : Int32}, KeepJ G h h1 → GC h1 G n → R g mX2_joinBreaker 2 [some (.ref (ad g J)), some (.ref (ad g P)), some (.int (nI (l + 1))), some (.int z)] [] h1 (Ri fun v h' => v = joF (eH h (G + 1) n) (lab c) (mx c n) d (l + 1) ∧ KeepJ G h h' ∧ GC h' G n)) → ∀ (m : Nat) (h1 : Hp) (e u : Nat), u + e = mx c n → e < m → KeepJ G h h1 → GC h1 G n → R g mX2_joinBreaker 15 [some (.ref (ad g J)), some (.ref (ad g P)), some (.int (nI l)), some (.int (nI u))] [] h1 (Ri fun v h' => v = inF (joP (eH h (G + 1) n) (lab c) l) (fun u => 100 + 10 * nI l + nI u) (joF (eH h (G + 1) n) (lab c) (mx c n) d (l + 1)) e u ∧ KeepJ G h h' ∧ GC h' G n) := by
    intro d l hl hout m
    have hln : l < n := by omega
    induction m with
    | zero => intro h1 e u a b; omega
    | succ m ih =>
      intro h1 e u a b k1 g1
      refine r_iload_n rfl dX2_joinBreaker_15 ?_
      refine r_aload_n rfl dX2_joinBreaker_16 ?_
      refine r_getI foX2_67 hP.1 rfl dX2_joinBreaker_17 ?_
      rw [(k1.PS hd hs).2.1]
      refine r_icmp_ge 59 dX2_joinBreaker_20 (by decide) (fun c_20 => ?_) (fun c_20 => ?_)
      · have e9 : u = mx c n := by have := ge_y (by omega) (by omega) c_20; omega
        first | refine r_incN2 rfl (by decide) dX2_joinBreaker_59 ?_ | refine r_incP2 rfl (by decide) dX2_joinBreaker_59 ?_
        refine r_goto 2 dX2_joinBreaker_62 (by decide) ?_
        have e2 : e = 0 := by omega
        subst e2
        exact Ri.imp (hout _ k1 g1) (fun v h' q => q)
      · have hlk : u < mx c n := ge_n (by omega) c_20
        refine r_aload_n rfl dX2_joinBreaker_23 ?_
        refine r_getR foX2_56 hP.1 rfl dX2_joinBreaker_24 ?_
        refine r_iload_n rfl dX2_joinBreaker_27 ?_
        refine r_ild hP.2.1 rfl (by omega) (by decide) dX2_joinBreaker_28 ?_
        rw [(k1.PS hd hs).2.2 l hln]
        refine r_iload_n rfl dX2_joinBreaker_29 ?_
        refine r_icmp_eq 53 dX2_joinBreaker_30 (by decide) (fun c_30 => ?_) (fun c_30 => ?_)
        · first | refine r_incN3 rfl (by decide) dX2_joinBreaker_53 ?_ | refine r_incP3 rfl (by decide) dX2_joinBreaker_53 ?_
          refine r_goto 15 dX2_joinBreaker_56 (by decide) ?_
          obtain ⟨e, rfl⟩ : ∃ e', e = e' + 1 := ⟨e - 1, by omega⟩
          first
            | (refine Ri.imp (ih _ e (u + 1) (by omega) (by omega) k1 g1) (fun v h' q => ⟨?_, q.2⟩)
               rw [q.1, inF, if_neg (by simp [joP, c_30])])
            | (refine Ri.imp (ih _ e (u + 1) (by omega) (by omega) kx gx) (fun v h' q => ⟨?_, q.2⟩)
               rw [q.1, inF, if_neg (by simp [joP, c_40])])
        · refine r_aload_n rfl dX2_joinBreaker_33 ?_
          refine r_aload_n rfl dX2_joinBreaker_34 ?_
          refine r_iload_n rfl dX2_joinBreaker_35 ?_
          refine r_iload_n rfl dX2_joinBreaker_36 ?_
          refine r_cV3i (T := TX2) (N := 3) moX2_gainByJoining lkX2_70 hJ.1 rfl (Nat.le_of_ble_eq_true rfl) ⟨by decide, by decide⟩ (Nat.le_of_ble_eq_true rfl) dX2_joinBreaker_37 rfl (c_gainByJoining hJ hP hd (k1.JI j g1) hc (k1.PS hd hs) (by omega)) (fun v1 h1 q1 => ?_)
          obtain ⟨e1, kx, gx⟩ := q1
          have kx := k1.trans kx
          rw [k1.eH] at e1
          subst e1
          refine r_if_le 53 dX2_joinBreaker_40 (by decide) (fun c_40 => ?_) (fun c_40 => ?_)
          · first | refine r_incN3 rfl (by decide) dX2_joinBreaker_53 ?_ | refine r_incP3 rfl (by decide) dX2_joinBreaker_53 ?_
            refine r_goto 15 dX2_joinBreaker_56 (by decide) ?_
            obtain ⟨e, rfl⟩ : ∃ e', e = e' + 1 := ⟨e - 1, by omega⟩
            first
              | (refine Ri.imp (ih _ e (u + 1) (by omega) (by omega) k1 g1) (fun v h' q => ⟨?_, q.2⟩)
                 rw [q.1, inF, if_neg (by simp [joP, c_30])])
              | (refine Ri.imp (ih _ e (u + 1) (by omega) (by omega) kx gx) (fun v h' q => ⟨?_, q.2⟩)
                 rw [q.1, inF, if_neg (by simp [joP, c_40])])
          · refine r_bipush (v := (100 : Int32)) (by decide) dX2_joinBreaker_43 ?_
            refine r_bipush (v := (10 : Int32)) (by decide) dX2_joinBreaker_45 ?_
            refine r_iload_n rfl dX2_joinBreaker_47 ?_
            refine r_imul dX2_joinBreaker_48 ?_
            refine r_iadd dX2_joinBreaker_49 ?_
            refine r_iload_n rfl dX2_joinBreaker_50 ?_
            refine r_iadd dX2_joinBreaker_51 ?_
            refine ret_i dX2_joinBreaker_52 rfl ?_
            obtain ⟨e, rfl⟩ : ∃ e', e = e' + 1 := ⟨e - 1, by omega⟩
            exact ⟨by rw [inF, if_pos (by simp [joP, c_30, c_40])], kx, gx⟩
  have loop : ∀ (m : Nat) (h1 : Hp) (d l : Nat) {z : Option Value}, l + d = n → d < m → KeepJ G h h1 → GC h1 G n → R g mX2_joinBreaker 2 [some (.ref (ad g J)), some (.ref (ad g P)), some (.int (nI l)), z] [] h1 (Ri fun v h' => v = joF (eH h (G + 1) n) (lab c) (mx c n) d l ∧ KeepJ G h h' ∧ GC h' G n) := by
    intro m
    induction m with
    | zero => intro h1 d l z a b; omega
    | succ m ih =>
      intro h1 d l z a b k1 g1
      refine r_iload_n rfl dX2_joinBreaker_2 ?_
      refine r_aload_n rfl dX2_joinBreaker_3 ?_
      refine r_getR foX2_22 hJ.1 rfl dX2_joinBreaker_4 ?_
      refine r_getI foX2_50 hJ.2.1.2.1.1 rfl dX2_joinBreaker_7 ?_
      refine r_icmp_ge 65 dX2_joinBreaker_10 (by decide) (fun c_10 => ?_) (fun c_10 => ?_)
      · rw [k1 (G + 1) (by omega), j.2.2.1] at c_10
        have e : l = n := by have := ge_y (by omega) (by omega) c_10; omega
        refine r_bipush (v := (-6 : Int32)) (by decide) dX2_joinBreaker_65 ?_
        refine ret_i dX2_joinBreaker_67 rfl ?_
        have e2 : d = 0 := by omega
        subst e2
        exact ⟨rfl, k1, g1⟩
      · rw [k1 (G + 1) (by omega), j.2.2.1] at c_10
        have hlk : l < n := ge_n (by omega) c_10
        refine r_iconst (v := nI 0) (by decide) dX2_joinBreaker_13 ?_
        refine r_ist3 rfl (by decide) dX2_joinBreaker_14 ?_
        obtain ⟨d, rfl⟩ : ∃ d', d = d' + 1 := ⟨d - 1, by omega⟩
        exact inner d l (by omega) (fun h2 _ k2 g2 => ih h2 d (l + 1) (by omega) (by omega) k2 g2) (mx c n + 1) h1 (mx c n) 0 (by omega) (by omega) k1 g1
  refine r_iconst (v := nI 0) (by decide) dX2_joinBreaker_0 ?_
  refine r_ist2 rfl (by decide) dX2_joinBreaker_1 ?_
  exact loop (n + 1) _ n 0 (by omega) (by omega) KeepJ.refl j.2.2.2.2

set_option maxRecDepth 100000 in
set_option maxHeartbeats 4000000 in
theorem c_bestGoal {g : GG} {J G P n k : Nat} {h : Hp} {c : Nat → Nat} (hJ : JudgeAt J G) (hP : PartAt P) (hd : G + 18 ≤ P ∨ P + 3 ≤ G) (j : JI g h G n) (hc : Can n c) (hs : PS h P n c) (hk : k < n) : R g mX2_bestGoal 0 [some (.ref (ad g J)), some (.ref (ad g P)), some (.int (nI k)), none, none, none, none] [] h (Ri fun v h' => v = (bgF (eH h (G + 1) n) (lab c) k (mx c n)).1 ∧ KeepJ G h h' ∧ GC h' G n) := by
  have hn6 := j.2.1
  have hmx := mx_le hc n (Nat.le_refl _)
  have loop : ∀ (m : Nat) (h1 : Hp) (u : Nat) (x3 x4 x5 : Int32), u ≤ mx c n → mx c n < u + m → x3 = (bgF (eH h (G + 1) n) (lab c) k u).1 → x4 = (bgF (eH h (G + 1) n) (lab c) k u).2 → KeepJ G h h1 → GC h1 G n → R g mX2_bestGoal 30 [some (.ref (ad g J)), some (.ref (ad g P)), some (.int (nI k)), some (.int x3), some (.int x4), some (.int x5), some (.int (nI u))] [] h1 (Ri fun v h' => v = (bgF (eH h (G + 1) n) (lab c) k (mx c n)).1 ∧ KeepJ G h h' ∧ GC h' G n) := by
    intro m
    induction m with
    | zero => intro h1 u x3 x4 x5 a b; omega
    | succ m ih =>
      intro h1 u x3 x4 x5 a b e3 e4 k1 g1
      subst e3; subst e4
      refine r_iload rfl dX2_bestGoal_30 ?_
      refine r_aload_n rfl dX2_bestGoal_32 ?_
      refine r_getI foX2_67 hP.1 rfl dX2_bestGoal_33 ?_
      rw [(k1.PS hd hs).2.1]
      refine r_icmp_ge 80 dX2_bestGoal_36 (by decide) (fun c_36 => ?_) (fun c_36 => ?_)
      · refine r_iload_n rfl dX2_bestGoal_80 ?_
        refine ret_i dX2_bestGoal_81 rfl ?_
        have e9 : u = mx c n := by have := ge_y (by omega) (by omega) c_36; omega
        exact ⟨by rw [e9], k1, g1⟩
      · have hlk : u < mx c n := ge_n (by omega) c_36
        refine r_aload_n rfl dX2_bestGoal_39 ?_
        refine r_getR foX2_56 hP.1 rfl dX2_bestGoal_40 ?_
        refine r_iload_n rfl dX2_bestGoal_43 ?_
        refine r_ild hP.2.1 rfl (by omega) (by decide) dX2_bestGoal_44 ?_
        rw [(k1.PS hd hs).2.2 k hk]
        refine r_iload rfl dX2_bestGoal_45 ?_
        refine r_icmp_eq 74 dX2_bestGoal_47 (by decide) (fun c_47 => ?_) (fun c_47 => ?_)
        · first | refine r_incN6 rfl (by decide) dX2_bestGoal_74 ?_ | refine r_incP6 rfl (by decide) dX2_bestGoal_74 ?_
          refine r_goto 30 dX2_bestGoal_77 (by decide) ?_
          first
            | exact ih _ (u + 1) _ _ _ (by omega) (by omega) (by rw [bgF, if_pos c_47]) (by rw [bgF, if_pos c_47]) k1 g1
            | exact ih _ (u + 1) _ _ _ (by omega) (by omega) (by rw [bgF, if_neg c_47, if_pos c_64]) (by rw [bgF, if_neg c_47, if_pos c_64]) kx gx
            | exact ih _ (u + 1) _ _ _ (by omega) (by omega) (by rw [bgF, if_neg c_47, if_neg c_64]) (by rw [bgF, if_neg c_47, if_neg c_64]) kx gx
        · refine r_aload_n rfl dX2_bestGoal_50 ?_
          refine r_aload_n rfl dX2_bestGoal_51 ?_
          refine r_iload_n rfl dX2_bestGoal_52 ?_
          refine r_iload rfl dX2_bestGoal_53 ?_
          refine r_cV3i (T := TX2) (N := 3) moX2_gainByJoining lkX2_70 hJ.1 rfl (Nat.le_of_ble_eq_true rfl) ⟨by decide, by decide⟩ (Nat.le_of_ble_eq_true rfl) dX2_bestGoal_55 rfl (c_gainByJoining hJ hP hd (k1.JI j g1) hc (k1.PS hd hs) (by omega)) (fun v1 h1 q1 => ?_)
          obtain ⟨e1, kx, gx⟩ := q1
          have kx := k1.trans kx
          rw [k1.eH] at e1
          subst e1
          refine r_ist5 rfl (by decide) dX2_bestGoal_58 ?_
          refine r_iload rfl dX2_bestGoal_60 ?_
          refine r_iload rfl dX2_bestGoal_62 ?_
          refine r_icmp_le 74 dX2_bestGoal_64 (by decide) (fun c_64 => ?_) (fun c_64 => ?_)
          · first | refine r_incN6 rfl (by decide) dX2_bestGoal_74 ?_ | refine r_incP6 rfl (by decide) dX2_bestGoal_74 ?_
            refine r_goto 30 dX2_bestGoal_77 (by decide) ?_
            first
              | exact ih _ (u + 1) _ _ _ (by omega) (by omega) (by rw [bgF, if_pos c_47]) (by rw [bgF, if_pos c_47]) k1 g1
              | exact ih _ (u + 1) _ _ _ (by omega) (by omega) (by rw [bgF, if_neg c_47, if_pos c_64]) (by rw [bgF, if_neg c_47, if_pos c_64]) kx gx
              | exact ih _ (u + 1) _ _ _ (by omega) (by omega) (by rw [bgF, if_neg c_47, if_neg c_64]) (by rw [bgF, if_neg c_47, if_neg c_64]) kx gx
          · refine r_iload rfl dX2_bestGoal_67 ?_
            refine r_ist3 rfl (by decide) dX2_bestGoal_69 ?_
            refine r_iload rfl dX2_bestGoal_70 ?_
            refine r_ist4 rfl (by decide) dX2_bestGoal_72 ?_
            first | refine r_incN6 rfl (by decide) dX2_bestGoal_74 ?_ | refine r_incP6 rfl (by decide) dX2_bestGoal_74 ?_
            refine r_goto 30 dX2_bestGoal_77 (by decide) ?_
            first
              | exact ih _ (u + 1) _ _ _ (by omega) (by omega) (by rw [bgF, if_pos c_47]) (by rw [bgF, if_pos c_47]) k1 g1
              | exact ih _ (u + 1) _ _ _ (by omega) (by omega) (by rw [bgF, if_neg c_47, if_pos c_64]) (by rw [bgF, if_neg c_47, if_pos c_64]) kx gx
              | exact ih _ (u + 1) _ _ _ (by omega) (by omega) (by rw [bgF, if_neg c_47, if_neg c_64]) (by rw [bgF, if_neg c_47, if_neg c_64]) kx gx
  refine r_bipush (v := (-2 : Int32)) (by decide) dX2_bestGoal_0 ?_
  refine r_ist3 rfl (by decide) dX2_bestGoal_2 ?_
  refine r_iconst (v := (0 : Int32)) (by decide) dX2_bestGoal_3 ?_
  refine r_ist4 rfl (by decide) dX2_bestGoal_4 ?_
  refine r_aload_n rfl dX2_bestGoal_6 ?_
  refine r_aload_n rfl dX2_bestGoal_7 ?_
  refine r_iload_n rfl dX2_bestGoal_8 ?_
  refine r_cV2i (T := TX2) (N := 3) moX2_gainByLeaving lkX2_63 hJ.1 rfl (Nat.le_of_ble_eq_true rfl) ⟨by decide, by decide⟩ (Nat.le_of_ble_eq_true rfl) dX2_bestGoal_9 rfl (c_gainByLeaving hJ hP hd j hc hs hk) (fun v1 h1 q1 => ?_)
  obtain ⟨e1, kx, gx⟩ := q1
  subst e1
  refine r_ist5 rfl (by decide) dX2_bestGoal_12 ?_
  refine r_iload rfl dX2_bestGoal_14 ?_
  refine r_iload rfl dX2_bestGoal_16 ?_
  refine r_icmp_le 27 dX2_bestGoal_18 (by decide) (fun c_18 => ?_) (fun c_18 => ?_)
  · refine r_iconst (v := nI 0) (by decide) dX2_bestGoal_27 ?_
    refine r_ist6 rfl (by decide) dX2_bestGoal_28 ?_
    first
      | exact loop (mx c n + 1) _ 0 _ _ _ (by omega) (by omega) (by rw [bgF, bgI, if_pos c_18]) (by rw [bgF, bgI, if_pos c_18]) kx gx
      | exact loop (mx c n + 1) _ 0 _ _ _ (by omega) (by omega) (by rw [bgF, bgI, if_neg c_18]) (by rw [bgF, bgI, if_neg c_18]) kx gx
  · refine r_iconst (v := (-1 : Int32)) (by decide) dX2_bestGoal_21 ?_
    refine r_ist3 rfl (by decide) dX2_bestGoal_22 ?_
    refine r_iload rfl dX2_bestGoal_23 ?_
    refine r_ist4 rfl (by decide) dX2_bestGoal_25 ?_
    refine r_iconst (v := nI 0) (by decide) dX2_bestGoal_27 ?_
    refine r_ist6 rfl (by decide) dX2_bestGoal_28 ?_
    first
      | exact loop (mx c n + 1) _ 0 _ _ _ (by omega) (by omega) (by rw [bgF, bgI, if_pos c_18]) (by rw [bgF, bgI, if_pos c_18]) kx gx
      | exact loop (mx c n + 1) _ 0 _ _ _ (by omega) (by omega) (by rw [bgF, bgI, if_neg c_18]) (by rw [bgF, bgI, if_neg c_18]) kx gx

