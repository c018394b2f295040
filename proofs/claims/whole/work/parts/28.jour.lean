def JouAt (Y : Nat) : Prop := shl[Y]? = some (.inr (1, [some (Y + 1), none, none, none, none, none, some (Y + 4)])) ∧ PartAt (Y + 1) ∧ shl[Y + 4]? = some (.inl 501)
def bh (n l : Nat) : Nat := if n ≤ l + 1 then 0 else l + 1
theorem bh_lt {n l : Nat} (hl : l < n) : bh n l < n := by rw [bh]; split <;> omega
def wh (n : Nat) (c : Nat → Nat) (x : Nat) : Nat := plc n c n * 6 + x
/-- who goes, and where: d lands looked at from x on -/
def fgF (E : Ec) (r : Nat → Int32) (U : Nat) : Nat → Nat → Option (Nat × Int32)
  | 0, _ => none
  | d + 1, x => if (bgF E r x U).1 = -2 then fgF E r U d (bh (eN E) x) else some (x, (bgF E r x U).1)

set_option maxRecDepth 100000 in
set_option maxHeartbeats 400000 in
theorem c_behind {g : GG} {Y n x : Nat} {h : Hp} {c : Nat → Nat} (hY : JouAt Y) (hn : n ≤ 6) (hx : x < 7) (hs : PS h (Y + 1) n c) : R g mX1_behind 0 [some (.ref (ad g Y)), some (.int (nI x))] [] h (Ri fun v h' => h' = h ∧ v = nI (bh n x)) := by
  refine r_iload_n rfl dX1_behind_0 ?_
  refine r_iconst (v := (1 : Int32)) (by decide) dX1_behind_1 ?_
  refine r_iadd dX1_behind_2 ?_
  rw [nI_1]
  refine r_aload_n rfl dX1_behind_3 ?_
  refine r_getR foX1_12 hY.1 rfl dX1_behind_4 ?_
  refine r_getI foX1_57 hY.2.1.1 rfl dX1_behind_7 ?_
  rw [hs.1]
  refine r_icmp_ge 19 dX1_behind_10 (by decide) (fun c_10 => ?_) (fun c_10 => ?_)
  · refine r_iconst (v := (0 : Int32)) (by decide) dX1_behind_19 ?_
    refine ret_i dX1_behind_20 rfl ?_
    first
      | exact ⟨rfl, by rw [bh, if_pos (ge_y (by omega) (by omega) c_10)]; rfl⟩
      | exact ⟨rfl, by rw [bh, if_neg (fun q => c_10 (nI_le q (by omega)))]⟩
  · refine r_iload_n rfl dX1_behind_13 ?_
    refine r_iconst (v := (1 : Int32)) (by decide) dX1_behind_14 ?_
    refine r_iadd dX1_behind_15 ?_
    rw [nI_1]
    refine r_goto 20 dX1_behind_16 (by decide) ?_
    refine ret_i dX1_behind_20 rfl ?_
    first
      | exact ⟨rfl, by rw [bh, if_pos (ge_y (by omega) (by omega) c_10)]; rfl⟩
      | exact ⟨rfl, by rw [bh, if_neg (fun q => c_10 (nI_le q (by omega)))]⟩

set_option maxRecDepth 100000 in
set_option maxHeartbeats 400000 in
theorem c_where {g : GG} {Y n x : Nat} {h : Hp} {c : Nat → Nat} (hY : JouAt Y) (hn : n ≤ 6) (hc : Can n c) (hs : PS h (Y + 1) n c) (hro : ROv g) (hx : h Y 3 = nI x) : R g mX1_where 0 [some (.ref (ad g Y))] [] h (Ri fun v h' => h' = h ∧ v = nI (wh n c x)) := by
  refine r_aload_n rfl dX1_where_0 ?_
  refine r_getR foX1_12 hY.1 rfl dX1_where_1 ?_
  refine r_cV0i (T := TX6) (N := 4) moX6_place lkX1_51 hY.2.1.1 rfl (Nat.le_of_ble_eq_true rfl) ⟨by decide, by decide⟩ (Nat.le_of_ble_eq_true rfl) dX1_where_4 rfl (c_place hY.2.1 hn hc hs hro) (fun v1 h1 q1 => ?_)
  obtain ⟨e1, e2⟩ := q1
  subst e2
  rw [e1]
  refine r_bipush (v := (6 : Int32)) (by decide) dX1_where_7 ?_
  refine r_imul dX1_where_9 ?_
  rw [show (6 : Int32) = nI 6 by decide, nI_mul]
  refine r_aload_n rfl dX1_where_10 ?_
  refine r_getI foX1_26 hY.1 rfl dX1_where_11 ?_
  rw [hx]
  refine r_iadd dX1_where_14 ?_
  rw [nI_add]
  refine ret_i dX1_where_15 rfl ?_
  exact ⟨rfl, rfl⟩

set_option maxRecDepth 100000 in
set_option maxHeartbeats 400000 in
theorem c_firstSeen {g : GG} {Y K w : Nat} {h : Hp} {ws : Nat → Nat} (hY : JouAt Y) (hK : K ≤ 501) (hws : ∀ i, i < K → h (Y + 4) i = nI (ws i)) (hb : ∀ i, i < K → ws i < 2 ^ 31) (hw : w < 2 ^ 31) : R g mX1_firstSeen 0 [some (.ref (ad g Y)), some (.int (nI w)), some (.int (nI K)), none] [] h (Ri fun v h' => h' = h ∧ ((∃ b, b < K ∧ ws b = w ∧ (∀ j, j < b → ¬ ws j = w) ∧ v = nI b) ∨ ((∀ j, j < K → ¬ ws j = w) ∧ v = -1))) := by
  have loop : ∀ (m l : Nat), l ≤ K → K < l + m → (∀ j, j < l → ¬ ws j = w) → R g mX1_firstSeen 2 [some (.ref (ad g Y)), some (.int (nI w)), some (.int (nI K)), some (.int (nI l))] [] h (Ri fun v h' => h' = h ∧ ((∃ b, b < K ∧ ws b = w ∧ (∀ j, j < b → ¬ ws j = w) ∧ v = nI b) ∨ ((∀ j, j < K → ¬ ws j = w) ∧ v = -1))) := by
    intro m
    induction m with
    | zero => intro l a b; omega
    | succ m ih =>
      intro l a b hf
      refine r_iload_n rfl dX1_firstSeen_2 ?_
      refine r_iload_n rfl dX1_firstSeen_3 ?_
      refine r_icmp_ge 25 dX1_firstSeen_4 (by decide) (fun c_4 => ?_) (fun c_4 => ?_)
      · refine r_iconst (v := (-1 : Int32)) (by decide) dX1_firstSeen_25 ?_
        refine ret_i dX1_firstSeen_26 rfl ?_
        have e : l = K := by have := ge_y (by omega) (by omega) c_4; omega
        subst e
        exact ⟨rfl, Or.inr ⟨hf, rfl⟩⟩
      · have hlk : l < K := ge_n (by omega) c_4
        refine r_aload_n rfl dX1_firstSeen_7 ?_
        refine r_getR foX1_18 hY.1 rfl dX1_firstSeen_8 ?_
        refine r_iload_n rfl dX1_firstSeen_11 ?_
        refine r_ild hY.2.2 rfl (by omega) (by decide) dX1_firstSeen_12 ?_
        rw [hws l hlk]
        refine r_iload_n rfl dX1_firstSeen_13 ?_
        refine r_icmp_ne 19 dX1_firstSeen_14 (by decide) (fun c_14 => ?_) (fun c_14 => ?_)
        · first | refine r_incN3 rfl (by decide) dX1_firstSeen_19 ?_ | refine r_incP3 rfl (by decide) dX1_firstSeen_19 ?_
          refine r_goto 2 dX1_firstSeen_22 (by decide) ?_
          refine ih (l + 1) (by omega) (by omega) (fun i hi => ?_)
          by_cases e : i = l
          · subst e; exact fun q => c_14 (by rw [q])
          · exact hf i (by omega)
        · refine r_iload_n rfl dX1_firstSeen_17 ?_
          refine ret_i dX1_firstSeen_18 rfl ?_
          exact ⟨rfl, Or.inl ⟨l, hlk, nI_inj (hb l hlk) hw c_14, hf, rfl⟩⟩
  refine r_iconst (v := nI 0) (by decide) dX1_firstSeen_0 ?_
  refine r_ist3 rfl (by decide) dX1_firstSeen_1 ?_
  exact loop (K + 1) 0 (by omega) (by omega) (fun j hj => by omega)

def KeepY (Y G : Nat) (h h' : Hp) : Prop := (∀ q, ¬ (G + 6 < q ∧ q ≤ G + 17) → ¬ q = Y → h' q = h q) ∧ ∀ i, ¬ i = 4 → ¬ i = 5 → h' Y i = h Y i
theorem KeepY.J {Y G : Nat} {h h1 h2 : Hp} (hd : G + 18 ≤ Y ∨ Y + 5 ≤ G) (a : KeepY Y G h h1) (b : KeepJ G h1 h2) : KeepY Y G h h2 := ⟨fun q x y => (b q x).trans (a.1 q x y), fun i x y => by rw [b Y (by omega)]; exact a.2 i x y⟩
theorem KeepY.set {Y G i : Nat} {h h1 : Hp} {x : Int32} (a : KeepY Y G h h1) (hi : i = 4 ∨ i = 5) : KeepY Y G h (hset h1 Y i x) := ⟨fun q u v => by rw [hset_ne v]; exact a.1 q u v, fun k u v => by rw [hset_same, upd_ne (by omega)]; exact a.2 k u v⟩
theorem KeepY.eH {Y G n : Nat} {h h' : Hp} (hd : G + 18 ≤ Y ∨ Y + 5 ≤ G) (H : KeepY Y G h h') : eH h' (G + 1) n = eH h (G + 1) n := eH_keep (fun q a b => H.1 q (by omega) (by omega))
theorem KeepY.JI {g : GG} {Y G n : Nat} {h h' : Hp} (hd : G + 18 ≤ Y ∨ Y + 5 ≤ G) (H : KeepY Y G h h') (j : JI g h G n) (k : GC h' G n) : JI g h' G n := ⟨j.1, j.2.1, by rw [H.1 _ (by omega) (by omega)]; exact j.2.2.1, by rw [H.eH hd]; exact j.2.2.2.1, k⟩
theorem KeepY.PS {Y G n : Nat} {h h' : Hp} {c : Nat → Nat} (hd : G + 18 ≤ Y ∨ Y + 5 ≤ G) (H : KeepY Y G h h') (s : PS h (Y + 1) n c) : PS h' (Y + 1) n c := s.keep (fun q a b => H.1 q (by omega) (by omega))

set_option maxRecDepth 100000 in
set_option maxHeartbeats 400000 in
theorem c_findGoer {g : GG} {Y J G n x0 : Nat} {h : Hp} {c : Nat → Nat} (hY : JouAt Y) (hJ : JudgeAt J G) (hd : G + 18 ≤ Y ∨ Y + 5 ≤ G) (j : JI g h G n) (hc : Can n c) (hs : PS h (Y + 1) n c) (hx0 : x0 < n) (hx3 : h Y 3 = nI x0) : R g mX1_findGoer 0 [some (.ref (ad g Y)), some (.ref (ad g J)), none] [] h (Ri fun v h' => KeepY Y G h h' ∧ GC h' G n ∧ ((fgF (eH h (G + 1) n) (lab c) (mx c n) n x0 = none ∧ v = 0) ∨ ∃ l gl, fgF (eH h (G + 1) n) (lab c) (mx c n) n x0 = some (l, gl) ∧ l < n ∧ v = 1 ∧ h' Y 4 = nI l ∧ h' Y 5 = gl)) := by
  have hn6 := j.2.1
  have loop : ∀ (m : Nat) (h0 : Hp) (d k x : Nat), k + d = n → d < m → x < n → h0 Y 4 = nI x → KeepY Y G h h0 → GC h0 G n → R g mX1_findGoer 10 [some (.ref (ad g Y)), some (.ref (ad g J)), some (.int (nI k))] [] h0 (Ri fun v h' => KeepY Y G h h' ∧ GC h' G n ∧ ((fgF (eH h (G + 1) n) (lab c) (mx c n) d x = none ∧ v = 0) ∨ ∃ l gl, fgF (eH h (G + 1) n) (lab c) (mx c n) d x = some (l, gl) ∧ l < n ∧ v = 1 ∧ h' Y 4 = nI l ∧ h' Y 5 = gl)) := by
    intro m
    induction m with
    | zero => intro h0 d k x a b; omega
    | succ m ih =>
      intro h0 d k x a b hxn hx k1 g1
      refine r_iload_n rfl dX1_findGoer_10 ?_
      refine r_aload_n rfl dX1_findGoer_11 ?_
      refine r_getR foX1_12 hY.1 rfl dX1_findGoer_12 ?_
      refine r_getI foX1_57 hY.2.1.1 rfl dX1_findGoer_15 ?_
      rw [(k1.PS hd hs).1]
      refine r_icmp_ge 66 dX1_findGoer_18 (by decide) (fun c_18 => ?_) (fun c_18 => ?_)
      · have e : k = n := by have := ge_y (by omega) (by omega) c_18; omega
        obtain rfl : d = 0 := by omega
        refine r_iconst (v := (0 : Int32)) (by decide) dX1_findGoer_66 ?_
        refine ret_z dX1_findGoer_67 rfl (by decide) ?_
        exact ⟨k1, g1, Or.inl ⟨rfl, rfl⟩⟩
      · have hlk : k < n := ge_n (by omega) c_18
        obtain ⟨d, rfl⟩ : ∃ d', d = d' + 1 := ⟨d - 1, by omega⟩
        refine r_aload_n rfl dX1_findGoer_21 ?_
        refine r_aload_n rfl dX1_findGoer_22 ?_
        refine r_aload_n rfl dX1_findGoer_23 ?_
        refine r_getR foX1_12 hY.1 rfl dX1_findGoer_24 ?_
        refine r_aload_n rfl dX1_findGoer_27 ?_
        refine r_getI foX1_54 hY.1 rfl dX1_findGoer_28 ?_
        rw [hx]
        refine r_cV2i (T := TX2) (N := 3) moX2_bestGoal lkX1_60 hJ.1 rfl (Nat.le_of_ble_eq_true rfl) ⟨by decide, by decide⟩ (Nat.le_of_ble_eq_true rfl) dX1_findGoer_31 rfl (c_bestGoal hJ hY.2.1 (by omega) (k1.JI hd j g1) hc (k1.PS hd hs) hxn) (fun v1 h1 q1 => ?_)
        obtain ⟨e1, kx, gx⟩ := q1
        rw [k1.eH hd] at e1
        subst e1
        have k2 := k1.J hd kx
        have hx2 := (kx Y (by omega)).symm ▸ hx
        refine r_putI fpX1_66 hY.1 rfl dX1_findGoer_34 ?_
        refine r_aload_n rfl dX1_findGoer_37 ?_
        refine r_getI foX1_66 hY.1 rfl dX1_findGoer_38 ?_
        refine r_bipush (v := (-2 : Int32)) (by decide) dX1_findGoer_41 ?_
        refine r_icmp_eq 48 dX1_findGoer_43 (by decide) (fun c_43 => ?_) (fun c_43 => ?_)
        · rw [hset_same, upd_eq] at c_43
          refine r_aload_n rfl dX1_findGoer_48 ?_
          refine r_aload_n rfl dX1_findGoer_49 ?_
          refine r_aload_n rfl dX1_findGoer_50 ?_
          refine r_getI foX1_54 hY.1 rfl dX1_findGoer_51 ?_
          rw [hset_same, upd_ne (by omega), hx2]
          refine r_cV1i (T := TX1) (N := 7) moX1_behind lkX1_69 hY.1 rfl (Nat.le_of_ble_eq_true rfl) ⟨by decide, by decide⟩ (Nat.le_of_ble_eq_true rfl) dX1_findGoer_54 rfl (c_behind hY hn6 (by omega) ((k2.PS hd hs).keep (fun q a b => hset_ne (by omega)))) (fun v2 h2 q2 => ?_)
          obtain ⟨e3, e4⟩ := q2
          subst e4
          rw [e3]
          refine r_putI fpX1_54 hY.1 rfl dX1_findGoer_57 ?_
          first | refine r_incN2 rfl (by decide) dX1_findGoer_60 ?_ | refine r_incP2 rfl (by decide) dX1_findGoer_60 ?_
          refine r_goto 10 dX1_findGoer_63 (by decide) ?_
          have k3 : KeepY Y G h (hset (hset h1 Y 5 (bgF (eH h (G + 1) n) (lab c) x (mx c n)).1) Y 4 (nI (bh n x))) := (k2.set (Or.inr rfl)).set (Or.inl rfl)
          refine Ri.imp (ih _ d (k + 1) (bh n x) (by omega) (by omega) (bh_lt hxn) (by rw [hset_same, upd_eq]) k3 (gx.keep (fun q a b => by rw [hset_ne (by omega), hset_ne (by omega)]))) (fun v h' q => ⟨q.1, q.2.1, ?_⟩)
          rw [fgF, if_pos c_43]
          exact q.2.2
        · rw [hset_same, upd_eq] at c_43
          refine r_iconst (v := (1 : Int32)) (by decide) dX1_findGoer_46 ?_
          refine ret_z dX1_findGoer_47 rfl (by decide) ⟨k2.set (Or.inr rfl), gx.keep (fun q a b => hset_ne (by omega)), Or.inr ⟨x, (bgF (eH h (G + 1) n) (lab c) x (mx c n)).1, ?_, hxn, rfl, ?_, ?_⟩⟩
          · rw [fgF, if_neg c_43]
          · rw [hset_same, upd_ne (by omega)]; exact hx2
          · rw [hset_same, upd_eq]
  refine r_aload_n rfl dX1_findGoer_0 ?_
  refine r_aload_n rfl dX1_findGoer_1 ?_
  refine r_getI foX1_26 hY.1 rfl dX1_findGoer_2 ?_
  rw [hx3]
  refine r_putI fpX1_54 hY.1 rfl dX1_findGoer_5 ?_
  refine r_iconst (v := nI 0) (by decide) dX1_findGoer_8 ?_
  refine r_ist2 rfl (by decide) dX1_findGoer_9 ?_
  exact loop (n + 1) _ n 0 x0 (by omega) (by omega) hx0 (by rw [hset_same, upd_eq]) (KeepY.set ⟨fun _ _ _ => rfl, fun _ _ _ => rfl⟩ (Or.inl rfl)) (j.2.2.2.2.keep (fun q a b => hset_ne (by omega)))

