/-- behind a call of the class: its state, the lands, the signs; the reference's cells are as they were -/
def CP (g : GG) (h h' : Hp) (n : Nat) (c : Nat → Nat) (m b : Nat) (E : Ec) (s : Nat → Int32) : Prop := (∀ q, 62 ≤ q → h' q = h q) ∧ CI g h' n c m b ∧ eH h' 3 n = E ∧ h' 55 = s
def setE (E : Ec) (w k : Nat) (v : Int32) : Ec := (eN E, if w = 0 then upd (eW E) k v else eW E, if w = 1 then upd (eC E) k v else eC E, if w = 2 then upd (eG E) k v else eG E, if w = 3 then upd (eT E) k v else eT E, eWa E, eSh E)
def addE (E : Ec) (a b c d : Int32) : Ec := (eN E + 1, upd (eW E) (eN E) a, upd (eC E) (eN E) b, upd (eG E) (eN E) c, upd (eT E) (eN E) d, eWa E, eSh E)
def ruE (E : Ec) (w : Nat) (v : Int32) : Ec := (eN E, eW E, eC E, eG E, eT E, if w = 0 then v else eWa E, if w = 0 then eSh E else v)
theorem Bd_of {lo hi : Nat} {a : Int32} (hl : lo < 2 ^ 31) (hh : hi < 2 ^ 31) (h1 : ¬ a < nI lo) (h2 : ¬ nI hi < a) : Bd lo hi a := by
  have h0 : ¬ a < 0 := fun q => h1 (Int32.lt_of_lt_of_le q (nI_pos' hl))
  obtain ⟨j, hj, e⟩ := nI_of h0
  subst e
  refine ⟨j, rfl, ?_, ?_⟩
  · rcases Nat.lt_or_ge j lo with q | q
    · exact absurd (nI_lt q hl) h1
    · exact q
  · rcases Nat.lt_or_ge hi j with q | q
    · exact absurd (nI_lt q hj) h2
    · exact q
theorem rng_bd {lo hi : Nat} {l2 h2 a : Int32} (e1 : l2 = nI lo) (e2 : h2 = nI hi) (hl : lo < 2 ^ 31) (hh : hi < 2 ^ 31) (h : ¬ rng l2 h2 a = 0) : Bd lo hi a := by
  subst e1; subst e2
  rw [rng] at h
  by_cases q : a < nI lo
  · rw [if_pos q] at h; exact absurd rfl h
  · rw [if_neg q] at h
    by_cases z : nI hi < a
    · rw [if_pos z] at h; exact absurd rfl h
    · exact Bd_of hl hh q z
theorem fit0 (v : Int32) : fitV (nI 0) v = rng 1 99 v := by rw [fitV, if_pos rfl]
theorem fit1 (v : Int32) : fitV (nI 1) v = rng 1 99 v := by rw [fitV, if_neg (by decide), if_pos rfl]
theorem fit2 (v : Int32) : fitV (nI 2) v = rng 0 20 v := by rw [fitV, if_neg (by decide), if_neg (by decide), if_pos rfl]
theorem fit3 (v : Int32) : fitV (nI 3) v = rng 0 60 v := by rw [fitV, if_neg (by decide), if_neg (by decide), if_neg (by decide), if_pos rfl]
def okL (a b c d : Int32) : Prop := ¬ fitV (nI 0) a = 0 ∧ ¬ fitV (nI 1) b = 0 ∧ ¬ fitV (nI 2) c = 0 ∧ ¬ fitV (nI 3) d = 0
theorem fit_w {w v : Int32} (h : ¬ fitV w v = 0) : ∃ i, i < 4 ∧ w = nI i := by
  rw [fitV] at h
  by_cases a : w = nI 0
  · exact ⟨0, by omega, a⟩
  · by_cases b : w = nI 1
    · exact ⟨1, by omega, b⟩
    · by_cases c : w = nI 2
      · exact ⟨2, by omega, c⟩
      · by_cases d : w = nI 3
        · exact ⟨3, by omega, d⟩
        · rw [if_neg a, if_neg b, if_neg c, if_neg d] at h; exact absurd rfl h
theorem EOK.set {E : Ec} {i k : Nat} {v : Int32} (h : EOK E) (hk : k < eN E) (hi : i < 4) (hf : ¬ fitV (nI i) v = 0) : EOK (setE E i k v) := by
  obtain ⟨h1, h2, h3, h4⟩ := h
  refine ⟨h1, fun l hl => ?_, h3, h4⟩
  obtain ⟨a1, a2, a3, a4⟩ := h2 l hl
  have key : ∀ (f : Nat → Int32) (lo hi : Nat), Bd lo hi (f l) → Bd lo hi v → Bd lo hi (upd f k v l) := by
    intro f lo hi p q
    by_cases e : l = k
    · subst e; rw [upd_eq]; exact q
    · rw [upd_ne e]; exact p
  rcases (show i = 0 ∨ i = 1 ∨ i = 2 ∨ i = 3 by omega) with rfl | rfl | rfl | rfl
  · exact ⟨key _ _ _ a1 (rng_bd (by decide) (by decide) (by decide) (by decide) ((fit0 v) ▸ hf)), a2, a3, a4⟩
  · exact ⟨a1, key _ _ _ a2 (rng_bd (by decide) (by decide) (by decide) (by decide) ((fit1 v) ▸ hf)), a3, a4⟩
  · exact ⟨a1, a2, key _ _ _ a3 (rng_bd (by decide) (by decide) (by decide) (by decide) ((fit2 v) ▸ hf)), a4⟩
  · exact ⟨a1, a2, a3, key _ _ _ a4 (rng_bd (by decide) (by decide) (by decide) (by decide) ((fit3 v) ▸ hf))⟩
theorem EOK.add {E : Ec} {a b c d : Int32} (h : EOK E) (hn : eN E < 6) (hf : okL a b c d) : EOK (addE E a b c d) := by
  obtain ⟨h1, h2, h3, h4⟩ := h
  obtain ⟨f0, f1, f2, f3⟩ := hf
  rw [fit0] at f0
  rw [fit1] at f1
  rw [fit2] at f2
  rw [fit3] at f3
  refine ⟨by show eN E + 1 ≤ 6; omega, fun l hl => ?_, h3, h4⟩
  have hl : l < eN E + 1 := hl
  by_cases e : l = eN E
  · subst e
    refine ⟨?_, ?_, ?_, ?_⟩
    · show Bd 1 99 (upd _ _ _ _); rw [upd_eq]; exact rng_bd (by decide) (by decide) (by decide) (by decide) f0
    · show Bd 1 99 (upd _ _ _ _); rw [upd_eq]; exact rng_bd (by decide) (by decide) (by decide) (by decide) f1
    · show Bd 0 20 (upd _ _ _ _); rw [upd_eq]; exact rng_bd (by decide) (by decide) (by decide) (by decide) f2
    · show Bd 0 60 (upd _ _ _ _); rw [upd_eq]; exact rng_bd (by decide) (by decide) (by decide) (by decide) f3
  · obtain ⟨a1, a2, a3, a4⟩ := h2 l (by omega)
    refine ⟨?_, ?_, ?_, ?_⟩
    · show Bd 1 99 (upd _ _ _ _); rw [upd_ne e]; exact a1
    · show Bd 1 99 (upd _ _ _ _); rw [upd_ne e]; exact a2
    · show Bd 0 20 (upd _ _ _ _); rw [upd_ne e]; exact a3
    · show Bd 0 60 (upd _ _ _ _); rw [upd_ne e]; exact a4
theorem EOK.rule {E : Ec} {i : Nat} {v : Int32} (h : EOK E) (hv : Bd 0 2 v) : EOK (ruE E i v) := by
  obtain ⟨h1, h2, h3, h4⟩ := h
  refine ⟨h1, h2, ?_, ?_⟩
  · show Bd 0 2 (if i = 0 then v else eWa E); split
    · exact hv
    · exact h3
  · show Bd 0 2 (if i = 0 then eSh E else v); split
    · exact h4
    · exact hv
/-- the lands changed, a version on; the parting, the pad, the other judge as they were -/
theorem CI.lands {g : GG} {h h' : Hp} {n n' m b : Nat} {c c' : Nat → Nat} (I : CI g h n c m b) (hb : b < 2 ^ 29) (hk : ∀ q, ¬ (3 ≤ q ∧ q ≤ 7) → ¬ (56 ≤ q ∧ q ≤ 58) → h' q = h q) (h3 : h' 3 3 = h 3 3 + 1) (h0 : h' 3 0 = nI n') (hn : n' ≤ 6) (hE : EOK (eH h' 3 n')) (hc : Can n' c') (hs : PS h' 56 n' c') : CI g h' n' c' m (b + 1) := by
  obtain ⟨i1, i2, i3, i4, i5, i6, ⟨v, e1, e2⟩, ⟨v2, e3, e4⟩⟩ := I
  refine ⟨⟨i1.1, hn, h0, hE, i1.2.2.2.2.rb.bump hn e1 (by omega) h3 (hk _ (by omega) (by omega))⟩, i2.bump hn e1 (by omega) h3 (hk _ (by omega) (by omega)), i3.keep (by rw [hk _ (by omega) (by omega)]) (hk _ (by omega) (by omega)), hc, hs, by rw [hk _ (by omega) (by omega)]; exact i6, ⟨v + 1, by rw [h3, e1]; exact nI_1 v, by omega⟩, ⟨v2, by rw [hk _ (by omega) (by omega)]; exact e3, by omega⟩⟩
theorem Can.new {n : Nat} {c : Nat → Nat} (h : Can n c) : Can (n + 1) (uc c n (mx c n)) := by
  intro l hl
  by_cases e : l = n
  · subst e; rw [uc_eq, mx_uc]; exact Nat.le_refl _
  · rw [uc_ne e, mx_congr (c' := c) (fun i q => uc_ne (by omega))]; exact h l (by omega)

theorem CP_land {g : GG} {h h1 h2 : Hp} {n m b : Nat} {c : Nat → Nat} {a1 a2 a3 a4 : Int32} (I : CI g h n c m b) (hb : b < 2 ^ 29) (hn : n < 6) (hok : okL a1 a2 a3 a4) (eh : h1 = hset (hset (hset (hset (hset (hset h (3 + 1) n a1) (3 + 2) n a2) (3 + 3) n a3) (3 + 4) n a4) 3 0 ((hset (hset (hset (hset h (3 + 1) n a1) (3 + 2) n a2) (3 + 3) n a3) (3 + 4) n a4) 3 0 + 1)) 3 3 (hset (hset (hset (hset (hset h (3 + 1) n a1) (3 + 2) n a2) (3 + 3) n a3) (3 + 4) n a4) 3 0 ((hset (hset (hset (hset h (3 + 1) n a1) (3 + 2) n a2) (3 + 3) n a3) (3 + 4) n a4) 3 0 + 1) 3 3 + 1)) (kp : KeepP 56 h1 h2) (sp : PS h2 56 (n + 1) (uc c n (mx c n))) : CP g h h2 (n + 1) (uc c n (mx c n)) m (b + 1) (addE (eH h 3 n) a1 a2 a3 a4) (h 55) := by
  have hk1 : ∀ q, ¬ (3 ≤ q ∧ q ≤ 7) → h1 q = h q := fun q a => by
    rw [eh, hset_ne (by omega), hset_ne (by omega), hset_ne (by omega), hset_ne (by omega), hset_ne (by omega), hset_ne (by omega)]
  have hk : ∀ q, ¬ (3 ≤ q ∧ q ≤ 7) → ¬ (56 ≤ q ∧ q ≤ 58) → h2 q = h q := fun q a b => by rw [kp q (by omega) (by omega) (by omega)]; exact hk1 q a
  have hL : ∀ q, 3 ≤ q → q ≤ 7 → h2 q = h1 q := fun q a b => kp q (by omega) (by omega) (by omega)
  have e4 : h2 4 = upd (h 4) n a1 := by rw [hL 4 (by omega) (by omega), eh, hset_ne (by omega), hset_ne (by omega), hset_ne (by omega), hset_ne (by omega), hset_ne (by omega)]; exact hset_same _ _ _ _
  have e5 : h2 5 = upd (h 5) n a2 := by rw [hL 5 (by omega) (by omega), eh, hset_ne (by omega), hset_ne (by omega), hset_ne (by omega), hset_ne (by omega)]; refine (hset_same _ _ _ _).trans ?_; rw [hset_ne (by omega)]
  have e6 : h2 6 = upd (h 6) n a3 := by rw [hL 6 (by omega) (by omega), eh, hset_ne (by omega), hset_ne (by omega), hset_ne (by omega)]; refine (hset_same _ _ _ _).trans ?_; rw [hset_ne (by omega), hset_ne (by omega)]
  have e7 : h2 7 = upd (h 7) n a4 := by rw [hL 7 (by omega) (by omega), eh, hset_ne (by omega), hset_ne (by omega)]; refine (hset_same _ _ _ _).trans ?_; rw [hset_ne (by omega), hset_ne (by omega), hset_ne (by omega)]
  have eo : ∀ i, h2 3 i = if i = 3 then h 3 3 + 1 else if i = 0 then h 3 0 + 1 else h 3 i := fun i => by
    rw [hL 3 (by omega) (by omega), eh, hset_same, upd]
    by_cases q : i = 3
    · rw [if_pos q, if_pos q, hset_same, upd_ne (by omega), hset_ne (by omega), hset_ne (by omega), hset_ne (by omega), hset_ne (by omega)]
    · rw [if_neg q, if_neg q, hset_same, upd]
      by_cases z : i = 0
      · rw [if_pos z, if_pos z, hset_ne (by omega), hset_ne (by omega), hset_ne (by omega), hset_ne (by omega)]
      · rw [if_neg z, if_neg z, hset_ne (by omega), hset_ne (by omega), hset_ne (by omega), hset_ne (by omega)]
  have h0 : h 3 0 = nI n := I.1.2.2.1
  have eE : eH h2 3 (n + 1) = addE (eH h 3 n) a1 a2 a3 a4 := by
    show (n + 1, h2 4, h2 5, h2 6, h2 7, h2 3 1, h2 3 2) = (n + 1, upd (h 4) n a1, upd (h 5) n a2, upd (h 6) n a3, upd (h 7) n a4, h 3 1, h 3 2)
    rw [e4, e5, e6, e7, eo 1, eo 2]
    rfl
  refine ⟨fun q a => hk q (by omega) (by omega), CI.lands I hb hk ?_ ?_ (by omega) ?_ I.2.2.2.1.new sp, eE, hk 55 (by omega) (by omega)⟩
  · rw [eo 3]; rfl
  · rw [eo 0, h0]; exact nI_1 n
  · rw [eE]; exact EOK.add I.1.2.2.2.1 hn hok

set_option maxRecDepth 100000 in
set_option maxHeartbeats 400000 in
theorem c_land {g : GG} {n m b : Nat} {a1 a2 a3 a4 : Int32} {h : Hp} {c : Nat → Nat} (I : CI g h n c m b) (hb : b < 2 ^ 29) : R g mX8_land 0 [some (.ref (ad g 0)), some (.int a1), some (.int a2), some (.int a3), some (.int a4), none, none] [] h (Ri fun v h' => (¬ okL a1 a2 a3 a4 ∧ v = -2 ∧ h' = h) ∨ (okL a1 a2 a3 a4 ∧ n = 6 ∧ v = -4 ∧ h' = h) ∨ (okL a1 a2 a3 a4 ∧ n < 6 ∧ v = nI n ∧ CP g h h' (n + 1) (uc c n (mx c n)) m (b + 1) (addE (eH h 3 n) a1 a2 a3 a4) (h 55))) := by
  have hn6 := I.1.2.1
  have h0 : h 3 0 = nI n := I.1.2.2.1
  have hs := I.2.2.2.2.1
  refine r_iconst (v := nI 0) (by decide) dX8_land_0 ?_
  refine r_iload_n rfl dX8_land_1 ?_
  refine r_cS2i moX3_fits lkX8_67 (Nat.le_of_ble_eq_true rfl) ⟨by decide, by decide⟩ (Nat.le_of_ble_eq_true rfl) dX8_land_2 rfl c_fits (fun v1 h1 q1 => ?_)
  obtain ⟨e1, f1⟩ := q1
  subst f1
  rw [e1]
  refine r_if_eq 37 dX8_land_5 (by decide) (fun c_5 => ?_) (fun c_5 => ?_)
  · refine r_iconst (v := (0 : Int32)) (by decide) dX8_land_37 ?_
    refine r_ist5 rfl (by decide) dX8_land_38 ?_
    refine r_iload rfl dX8_land_40 ?_
    refine r_if_ne 48 dX8_land_42 (by decide) (fun c_42 => ?_) (fun c_42 => ?_)
    · refine r_aload_n rfl dX8_land_48 ?_
      refine r_getR foX8_23 rfl rfl dX8_land_49 ?_
      refine r_getI foX8_73 rfl rfl dX8_land_52 ?_
      rw [h0]
      refine r_bipush (v := nI 6) (by decide) dX8_land_55 ?_
      refine r_icmp_lt 63 dX8_land_57 (by decide) (fun c_57 => ?_) (fun c_57 => ?_)
      · have hn5 : n < 6 := by have := (nI_ltI (by omega) (by omega)).mp c_57; omega
        refine r_aload_n rfl dX8_land_63 ?_
        refine r_getR foX8_23 rfl rfl dX8_land_64 ?_
        refine r_iload_n rfl dX8_land_67 ?_
        refine r_iload_n rfl dX8_land_68 ?_
        refine r_iload_n rfl dX8_land_69 ?_
        refine r_iload rfl dX8_land_70 ?_
        refine r_cV4i (T := TX3) (N := 8) moX3_add lkX8_77 rfl rfl (Nat.le_of_ble_eq_true rfl) ⟨by decide, by decide⟩ (Nat.le_of_ble_eq_true rfl) dX8_land_72 rfl (c_addL la3 hn5 h0) (fun v2 h2 q2 => ?_)
        obtain ⟨ev, eh⟩ := q2
        subst ev
        refine r_ist6 rfl (by decide) dX8_land_75 ?_
        refine r_aload_n rfl dX8_land_77 ?_
        refine r_getR foX8_60 rfl rfl dX8_land_78 ?_
        refine r_cV0v (T := TX6) (N := 4) moX6_addApart lkX8_81 rfl rfl (Nat.le_of_ble_eq_true rfl) ⟨by decide, by decide⟩ (Nat.le_of_ble_eq_true rfl) dX8_land_81 rfl (c_addApart pa56 hn5 (hs.keep (fun q a b => by rw [eh]; rw [hset_ne (by omega), hset_ne (by omega), hset_ne (by omega), hset_ne (by omega), hset_ne (by omega), hset_ne (by omega)]))) (fun h3 q3 => ?_)
        obtain ⟨kp, sp⟩ := q3
        refine r_iload rfl dX8_land_84 ?_
        refine ret_i dX8_land_86 rfl ?_
        first
          | exact absurd rfl c_42
          | exact Or.inr (Or.inr ⟨⟨c_5, c_13, c_21, c_30⟩, hn5, rfl, CP_land I hb hn5 ⟨c_5, c_13, c_21, c_30⟩ eh kp sp⟩)
      · refine r_bipush (v := (-4 : Int32)) (by decide) dX8_land_60 ?_
        refine ret_i dX8_land_62 rfl ?_
        first
          | exact Or.inr (Or.inl ⟨⟨c_5, c_13, c_21, c_30⟩, by have : ¬ n < 6 := fun q => c_57 (nI_lt q (by omega)); omega, rfl, rfl⟩)
          | exact absurd rfl c_42
    · refine r_bipush (v := (-2 : Int32)) (by decide) dX8_land_45 ?_
      refine ret_i dX8_land_47 rfl ?_
      first
        | exact Or.inl ⟨fun q => q.1 c_5, rfl, rfl⟩
        | exact Or.inl ⟨fun q => q.2.1 c_13, rfl, rfl⟩
        | exact Or.inl ⟨fun q => q.2.2.1 c_21, rfl, rfl⟩
        | exact Or.inl ⟨fun q => q.2.2.2 c_30, rfl, rfl⟩
        | exact absurd c_42 (by decide)
  · refine r_iconst (v := nI 1) (by decide) dX8_land_8 ?_
    refine r_iload_n rfl dX8_land_9 ?_
    refine r_cS2i moX3_fits lkX8_67 (Nat.le_of_ble_eq_true rfl) ⟨by decide, by decide⟩ (Nat.le_of_ble_eq_true rfl) dX8_land_10 rfl c_fits (fun v4 h4 q4 => ?_)
    obtain ⟨e4, f4⟩ := q4
    subst f4
    rw [e4]
    refine r_if_eq 37 dX8_land_13 (by decide) (fun c_13 => ?_) (fun c_13 => ?_)
    · refine r_iconst (v := (0 : Int32)) (by decide) dX8_land_37 ?_
      refine r_ist5 rfl (by decide) dX8_land_38 ?_
      refine r_iload rfl dX8_land_40 ?_
      refine r_if_ne 48 dX8_land_42 (by decide) (fun c_42 => ?_) (fun c_42 => ?_)
      · refine r_aload_n rfl dX8_land_48 ?_
        refine r_getR foX8_23 rfl rfl dX8_land_49 ?_
        refine r_getI foX8_73 rfl rfl dX8_land_52 ?_
        rw [h0]
        refine r_bipush (v := nI 6) (by decide) dX8_land_55 ?_
        refine r_icmp_lt 63 dX8_land_57 (by decide) (fun c_57 => ?_) (fun c_57 => ?_)
        · have hn5 : n < 6 := by have := (nI_ltI (by omega) (by omega)).mp c_57; omega
          refine r_aload_n rfl dX8_land_63 ?_
          refine r_getR foX8_23 rfl rfl dX8_land_64 ?_
          refine r_iload_n rfl dX8_land_67 ?_
          refine r_iload_n rfl dX8_land_68 ?_
          refine r_iload_n rfl dX8_land_69 ?_
          refine r_iload rfl dX8_land_70 ?_
          refine r_cV4i (T := TX3) (N := 8) moX3_add lkX8_77 rfl rfl (Nat.le_of_ble_eq_true rfl) ⟨by decide, by decide⟩ (Nat.le_of_ble_eq_true rfl) dX8_land_72 rfl (c_addL la3 hn5 h0) (fun v5 h5 q5 => ?_)
          obtain ⟨ev, eh⟩ := q5
          subst ev
          refine r_ist6 rfl (by decide) dX8_land_75 ?_
          refine r_aload_n rfl dX8_land_77 ?_
          refine r_getR foX8_60 rfl rfl dX8_land_78 ?_
          refine r_cV0v (T := TX6) (N := 4) moX6_addApart lkX8_81 rfl rfl (Nat.le_of_ble_eq_true rfl) ⟨by decide, by decide⟩ (Nat.le_of_ble_eq_true rfl) dX8_land_81 rfl (c_addApart pa56 hn5 (hs.keep (fun q a b => by rw [eh]; rw [hset_ne (by omega), hset_ne (by omega), hset_ne (by omega), hset_ne (by omega), hset_ne (by omega), hset_ne (by omega)]))) (fun h6 q6 => ?_)
          obtain ⟨kp, sp⟩ := q6
          refine r_iload rfl dX8_land_84 ?_
          refine ret_i dX8_land_86 rfl ?_
          first
            | exact absurd rfl c_42
            | exact Or.inr (Or.inr ⟨⟨c_5, c_13, c_21, c_30⟩, hn5, rfl, CP_land I hb hn5 ⟨c_5, c_13, c_21, c_30⟩ eh kp sp⟩)
        · refine r_bipush (v := (-4 : Int32)) (by decide) dX8_land_60 ?_
          refine ret_i dX8_land_62 rfl ?_
          first
            | exact Or.inr (Or.inl ⟨⟨c_5, c_13, c_21, c_30⟩, by have : ¬ n < 6 := fun q => c_57 (nI_lt q (by omega)); omega, rfl, rfl⟩)
            | exact absurd rfl c_42
      · refine r_bipush (v := (-2 : Int32)) (by decide) dX8_land_45 ?_
        refine ret_i dX8_land_47 rfl ?_
        first
          | exact Or.inl ⟨fun q => q.1 c_5, rfl, rfl⟩
          | exact Or.inl ⟨fun q => q.2.1 c_13, rfl, rfl⟩
          | exact Or.inl ⟨fun q => q.2.2.1 c_21, rfl, rfl⟩
          | exact Or.inl ⟨fun q => q.2.2.2 c_30, rfl, rfl⟩
          | exact absurd c_42 (by decide)
    · refine r_iconst (v := nI 2) (by decide) dX8_land_16 ?_
      refine r_iload_n rfl dX8_land_17 ?_
      refine r_cS2i moX3_fits lkX8_67 (Nat.le_of_ble_eq_true rfl) ⟨by decide, by decide⟩ (Nat.le_of_ble_eq_true rfl) dX8_land_18 rfl c_fits (fun v7 h7 q7 => ?_)
      obtain ⟨e7, f7⟩ := q7
      subst f7
      rw [e7]
      refine r_if_eq 37 dX8_land_21 (by decide) (fun c_21 => ?_) (fun c_21 => ?_)
      · refine r_iconst (v := (0 : Int32)) (by decide) dX8_land_37 ?_
        refine r_ist5 rfl (by decide) dX8_land_38 ?_
        refine r_iload rfl dX8_land_40 ?_
        refine r_if_ne 48 dX8_land_42 (by decide) (fun c_42 => ?_) (fun c_42 => ?_)
        · refine r_aload_n rfl dX8_land_48 ?_
          refine r_getR foX8_23 rfl rfl dX8_land_49 ?_
          refine r_getI foX8_73 rfl rfl dX8_land_52 ?_
          rw [h0]
          refine r_bipush (v := nI 6) (by decide) dX8_land_55 ?_
          refine r_icmp_lt 63 dX8_land_57 (by decide) (fun c_57 => ?_) (fun c_57 => ?_)
          · have hn5 : n < 6 := by have := (nI_ltI (by omega) (by omega)).mp c_57; omega
            refine r_aload_n rfl dX8_land_63 ?_
            refine r_getR foX8_23 rfl rfl dX8_land_64 ?_
            refine r_iload_n rfl dX8_land_67 ?_
            refine r_iload_n rfl dX8_land_68 ?_
            refine r_iload_n rfl dX8_land_69 ?_
            refine r_iload rfl dX8_land_70 ?_
            refine r_cV4i (T := TX3) (N := 8) moX3_add lkX8_77 rfl rfl (Nat.le_of_ble_eq_true rfl) ⟨by decide, by decide⟩ (Nat.le_of_ble_eq_true rfl) dX8_land_72 rfl (c_addL la3 hn5 h0) (fun v8 h8 q8 => ?_)
            obtain ⟨ev, eh⟩ := q8
            subst ev
            refine r_ist6 rfl (by decide) dX8_land_75 ?_
            refine r_aload_n rfl dX8_land_77 ?_
            refine r_getR foX8_60 rfl rfl dX8_land_78 ?_
            refine r_cV0v (T := TX6) (N := 4) moX6_addApart lkX8_81 rfl rfl (Nat.le_of_ble_eq_true rfl) ⟨by decide, by decide⟩ (Nat.le_of_ble_eq_true rfl) dX8_land_81 rfl (c_addApart pa56 hn5 (hs.keep (fun q a b => by rw [eh]; rw [hset_ne (by omega), hset_ne (by omega), hset_ne (by omega), hset_ne (by omega), hset_ne (by omega), hset_ne (by omega)]))) (fun h9 q9 => ?_)
            obtain ⟨kp, sp⟩ := q9
            refine r_iload rfl dX8_land_84 ?_
            refine ret_i dX8_land_86 rfl ?_
            first
              | exact absurd rfl c_42
              | exact Or.inr (Or.inr ⟨⟨c_5, c_13, c_21, c_30⟩, hn5, rfl, CP_land I hb hn5 ⟨c_5, c_13, c_21, c_30⟩ eh kp sp⟩)
          · refine r_bipush (v := (-4 : Int32)) (by decide) dX8_land_60 ?_
            refine ret_i dX8_land_62 rfl ?_
            first
              | exact Or.inr (Or.inl ⟨⟨c_5, c_13, c_21, c_30⟩, by have : ¬ n < 6 := fun q => c_57 (nI_lt q (by omega)); omega, rfl, rfl⟩)
              | exact absurd rfl c_42
        · refine r_bipush (v := (-2 : Int32)) (by decide) dX8_land_45 ?_
          refine ret_i dX8_land_47 rfl ?_
          first
            | exact Or.inl ⟨fun q => q.1 c_5, rfl, rfl⟩
            | exact Or.inl ⟨fun q => q.2.1 c_13, rfl, rfl⟩
            | exact Or.inl ⟨fun q => q.2.2.1 c_21, rfl, rfl⟩
            | exact Or.inl ⟨fun q => q.2.2.2 c_30, rfl, rfl⟩
            | exact absurd c_42 (by decide)
      · refine r_iconst (v := nI 3) (by decide) dX8_land_24 ?_
        refine r_iload rfl dX8_land_25 ?_
        refine r_cS2i moX3_fits lkX8_67 (Nat.le_of_ble_eq_true rfl) ⟨by decide, by decide⟩ (Nat.le_of_ble_eq_true rfl) dX8_land_27 rfl c_fits (fun v10 h10 q10 => ?_)
        obtain ⟨e10, f10⟩ := q10
        subst f10
        rw [e10]
        refine r_if_eq 37 dX8_land_30 (by decide) (fun c_30 => ?_) (fun c_30 => ?_)
        · refine r_iconst (v := (0 : Int32)) (by decide) dX8_land_37 ?_
          refine r_ist5 rfl (by decide) dX8_land_38 ?_
          refine r_iload rfl dX8_land_40 ?_
          refine r_if_ne 48 dX8_land_42 (by decide) (fun c_42 => ?_) (fun c_42 => ?_)
          · refine r_aload_n rfl dX8_land_48 ?_
            refine r_getR foX8_23 rfl rfl dX8_land_49 ?_
            refine r_getI foX8_73 rfl rfl dX8_land_52 ?_
            rw [h0]
            refine r_bipush (v := nI 6) (by decide) dX8_land_55 ?_
            refine r_icmp_lt 63 dX8_land_57 (by decide) (fun c_57 => ?_) (fun c_57 => ?_)
            · have hn5 : n < 6 := by have := (nI_ltI (by omega) (by omega)).mp c_57; omega
              refine r_aload_n rfl dX8_land_63 ?_
              refine r_getR foX8_23 rfl rfl dX8_land_64 ?_
              refine r_iload_n rfl dX8_land_67 ?_
              refine r_iload_n rfl dX8_land_68 ?_
              refine r_iload_n rfl dX8_land_69 ?_
              refine r_iload rfl dX8_land_70 ?_
              refine r_cV4i (T := TX3) (N := 8) moX3_add lkX8_77 rfl rfl (Nat.le_of_ble_eq_true rfl) ⟨by decide, by decide⟩ (Nat.le_of_ble_eq_true rfl) dX8_land_72 rfl (c_addL la3 hn5 h0) (fun v11 h11 q11 => ?_)
              obtain ⟨ev, eh⟩ := q11
              subst ev
              refine r_ist6 rfl (by decide) dX8_land_75 ?_
              refine r_aload_n rfl dX8_land_77 ?_
              refine r_getR foX8_60 rfl rfl dX8_land_78 ?_
              refine r_cV0v (T := TX6) (N := 4) moX6_addApart lkX8_81 rfl rfl (Nat.le_of_ble_eq_true rfl) ⟨by decide, by decide⟩ (Nat.le_of_ble_eq_true rfl) dX8_land_81 rfl (c_addApart pa56 hn5 (hs.keep (fun q a b => by rw [eh]; rw [hset_ne (by omega), hset_ne (by omega), hset_ne (by omega), hset_ne (by omega), hset_ne (by omega), hset_ne (by omega)]))) (fun h12 q12 => ?_)
              obtain ⟨kp, sp⟩ := q12
              refine r_iload rfl dX8_land_84 ?_
              refine ret_i dX8_land_86 rfl ?_
              first
                | exact absurd rfl c_42
                | exact Or.inr (Or.inr ⟨⟨c_5, c_13, c_21, c_30⟩, hn5, rfl, CP_land I hb hn5 ⟨c_5, c_13, c_21, c_30⟩ eh kp sp⟩)
            · refine r_bipush (v := (-4 : Int32)) (by decide) dX8_land_60 ?_
              refine ret_i dX8_land_62 rfl ?_
              first
                | exact Or.inr (Or.inl ⟨⟨c_5, c_13, c_21, c_30⟩, by have : ¬ n < 6 := fun q => c_57 (nI_lt q (by omega)); omega, rfl, rfl⟩)
                | exact absurd rfl c_42
          · refine r_bipush (v := (-2 : Int32)) (by decide) dX8_land_45 ?_
            refine ret_i dX8_land_47 rfl ?_
            first
              | exact Or.inl ⟨fun q => q.1 c_5, rfl, rfl⟩
              | exact Or.inl ⟨fun q => q.2.1 c_13, rfl, rfl⟩
              | exact Or.inl ⟨fun q => q.2.2.1 c_21, rfl, rfl⟩
              | exact Or.inl ⟨fun q => q.2.2.2 c_30, rfl, rfl⟩
              | exact absurd c_42 (by decide)
        · refine r_iconst (v := (1 : Int32)) (by decide) dX8_land_33 ?_
          refine r_goto 38 dX8_land_34 (by decide) ?_
          refine r_ist5 rfl (by decide) dX8_land_38 ?_
          refine r_iload rfl dX8_land_40 ?_
          refine r_if_ne 48 dX8_land_42 (by decide) (fun c_42 => ?_) (fun c_42 => ?_)
          · refine r_aload_n rfl dX8_land_48 ?_
            refine r_getR foX8_23 rfl rfl dX8_land_49 ?_
            refine r_getI foX8_73 rfl rfl dX8_land_52 ?_
            rw [h0]
            refine r_bipush (v := nI 6) (by decide) dX8_land_55 ?_
            refine r_icmp_lt 63 dX8_land_57 (by decide) (fun c_57 => ?_) (fun c_57 => ?_)
            · have hn5 : n < 6 := by have := (nI_ltI (by omega) (by omega)).mp c_57; omega
              refine r_aload_n rfl dX8_land_63 ?_
              refine r_getR foX8_23 rfl rfl dX8_land_64 ?_
              refine r_iload_n rfl dX8_land_67 ?_
              refine r_iload_n rfl dX8_land_68 ?_
              refine r_iload_n rfl dX8_land_69 ?_
              refine r_iload rfl dX8_land_70 ?_
              refine r_cV4i (T := TX3) (N := 8) moX3_add lkX8_77 rfl rfl (Nat.le_of_ble_eq_true rfl) ⟨by decide, by decide⟩ (Nat.le_of_ble_eq_true rfl) dX8_land_72 rfl (c_addL la3 hn5 h0) (fun v13 h13 q13 => ?_)
              obtain ⟨ev, eh⟩ := q13
              subst ev
              refine r_ist6 rfl (by decide) dX8_land_75 ?_
              refine r_aload_n rfl dX8_land_77 ?_
              refine r_getR foX8_60 rfl rfl dX8_land_78 ?_
              refine r_cV0v (T := TX6) (N := 4) moX6_addApart lkX8_81 rfl rfl (Nat.le_of_ble_eq_true rfl) ⟨by decide, by decide⟩ (Nat.le_of_ble_eq_true rfl) dX8_land_81 rfl (c_addApart pa56 hn5 (hs.keep (fun q a b => by rw [eh]; rw [hset_ne (by omega), hset_ne (by omega), hset_ne (by omega), hset_ne (by omega), hset_ne (by omega), hset_ne (by omega)]))) (fun h14 q14 => ?_)
              obtain ⟨kp, sp⟩ := q14
              refine r_iload rfl dX8_land_84 ?_
              refine ret_i dX8_land_86 rfl ?_
              first
                | exact absurd rfl c_42
                | exact Or.inr (Or.inr ⟨⟨c_5, c_13, c_21, c_30⟩, hn5, rfl, CP_land I hb hn5 ⟨c_5, c_13, c_21, c_30⟩ eh kp sp⟩)
            · refine r_bipush (v := (-4 : Int32)) (by decide) dX8_land_60 ?_
              refine ret_i dX8_land_62 rfl ?_
              first
                | exact Or.inr (Or.inl ⟨⟨c_5, c_13, c_21, c_30⟩, by have : ¬ n < 6 := fun q => c_57 (nI_lt q (by omega)); omega, rfl, rfl⟩)
                | exact absurd rfl c_42
          · refine r_bipush (v := (-2 : Int32)) (by decide) dX8_land_45 ?_
            refine ret_i dX8_land_47 rfl ?_
            first
              | exact Or.inl ⟨fun q => q.1 c_5, rfl, rfl⟩
              | exact Or.inl ⟨fun q => q.2.1 c_13, rfl, rfl⟩
              | exact Or.inl ⟨fun q => q.2.2.1 c_21, rfl, rfl⟩
              | exact Or.inl ⟨fun q => q.2.2.2 c_30, rfl, rfl⟩
              | exact absurd c_42 (by decide)

