def Bd (lo hi : Nat) (x : Int32) : Prop := ∃ a : Nat, x = nI a ∧ lo ≤ a ∧ a ≤ hi
def EOK (E : Ec) : Prop := eN E ≤ 6 ∧ (∀ l, l < eN E → Bd 1 99 (eW E l) ∧ Bd 1 99 (eC E l) ∧ Bd 0 20 (eG E l) ∧ Bd 0 60 (eT E l)) ∧ Bd 0 2 (eWa E) ∧ Bd 0 2 (eSh E)
theorem EOK.wt {E : Ec} (h : EOK E) {l : Nat} (hl : l < eN E) : Bd 1 99 (wtS E l) := by
  rw [wtS]
  split
  · exact ⟨1, by decide, by omega, by omega⟩
  · exact (h.2.1 l hl).1
theorem smF_bd {T r : Nat → Int32} {u : Int32} {n B : Nat} (hT : ∀ l, l < n → Bd 1 B (T l)) : ∀ l, l ≤ n → ∃ z, smF T r u l = nI z ∧ ctF r u l ≤ z ∧ z ≤ B * l := by
  intro l
  induction l with
  | zero => intro _; exact ⟨0, nI_0.symm, by simp [ctF], by omega⟩
  | succ l ih =>
    intro hl
    obtain ⟨z, h1, h2, h3⟩ := ih (by omega)
    obtain ⟨a, e, a1, a2⟩ := hT l (by omega)
    have hB : B * (l + 1) = B * l + B := by rw [Nat.mul_add, Nat.mul_one]
    rw [smF, ctF]
    by_cases q : r l = u
    · rw [if_pos q, if_pos q]
      exact ⟨z + a, by rw [h1, e, nI_add], by omega, by omega⟩
    · rw [if_neg q, if_neg q]
      exact ⟨z, h1, h2, by omega⟩
theorem smF_pos {T r : Nat → Int32} {u : Int32} {n k : Nat} (hn : n ≤ 6) (hT : ∀ l, l < n → Bd 1 99 (T l)) (hk : k < n) (hu : r k = u) : 0 < smF T r u n := by
  obtain ⟨z, h1, h2, h3⟩ := smF_bd (r := r) (u := u) hT n (Nat.le_refl _)
  have h4 := ctF_pos hu n hk
  rw [h1, ← nI_0]
  exact nI_lt (by omega) (by omega)
theorem EOK.pos {E : Ec} {c : Nat → Nat} {r : Nat → Int32} (h : EOK E) (hc : Can (eN E) c) (hr : ∀ j, j < eN E → r j = nI (c j)) : ∀ u, u < mx c (eN E) → 0 < smF (wtS E) r (nI u) (eN E) := by
  intro u hu
  obtain ⟨j, hj, e⟩ := mx_hit hc _ (Nat.le_refl _) u hu
  exact smF_pos h.1 (fun l hl => h.wt hl) hj (by rw [hr j hj, e])
def GoodAt (G : Nat) : Prop := shl[G]? = some (.inr (0, [some (G + 1), some (G + 6), some (G + 13), some (G + 14)])) ∧ LandAt (G + 1) ∧ MarkAt (G + 6) ∧ shl[G + 13]? = some (.inl 203) ∧ shl[G + 14]? = some (.inl 1218)
/-- the goods that are kept are right where they were reckoned at this version -/
def GC (h : Hp) (G n : Nat) : Prop := ∃ ver, h (G + 1) 3 = nI ver ∧ 0 < ver ∧ ver < 2 ^ 30 ∧ (∀ p, p < 203 → ∃ a, h (G + 13) p = nI a ∧ a ≤ ver) ∧ ∀ c, Can n c → h (G + 13) (plc n c n) = nI ver → ∀ l, l < n → h (G + 14) (plc n c n * 6 + l) = goodS (eH h (G + 1) n) (fun j => nI (c j)) l
/-- the goods of this parting are kept -/
def Kn (h : Hp) (G n : Nat) (c : Nat → Nat) : Prop := h (G + 13) (plc n c n) = h (G + 1) 3
theorem GC.val {h : Hp} {G n : Nat} {c : Nat → Nat} (H : GC h G n) (hc : Can n c) (k : Kn h G n c) {l : Nat} (hl : l < n) : h (G + 14) (plc n c n * 6 + l) = goodS (eH h (G + 1) n) (fun j => nI (c j)) l := by
  obtain ⟨ver, h1, h2, h3, h4, h5⟩ := H
  exact h5 c hc (by rw [← h1]; exact k) l hl
def KeepG (G : Nat) (h h' : Hp) : Prop := ∀ q, ¬ (G + 6 < q ∧ q ≤ G + 14) → h' q = h q
theorem KeepG.eH {G n : Nat} {h h' : Hp} (H : KeepG G h h') : eH h' (G + 1) n = eH h (G + 1) n := eH_keep (fun q a b => H q (by omega))
/-- rows copied so far -/
def C1 (G p l : Nat) (f : Nat → Int32) (h1 h2 : Hp) : Prop := KeepA (G + 14) h1 h2 ∧ (∀ j, j < l → h2 (G + 14) (p * 6 + j) = f j) ∧ ∀ i, (i < p * 6 ∨ p * 6 + l ≤ i) → h2 (G + 14) i = h1 (G + 14) i
theorem C1_step {G p l : Nat} {f : Nat → Int32} {h1 h2 : Hp} {x : Int32} (H : C1 G p l f h1 h2) (hx : x = f l) : C1 G p (l + 1) f h1 (hset h2 (G + 14) (p * 6 + l) x) := by
  refine ⟨fun q a => by rw [hset_ne a]; exact H.1 q a, fun j hj => ?_, fun i hi => ?_⟩
  · rw [hset_same]
    by_cases e : j = l
    · subst e; rw [upd_eq, hx]
    · rw [upd_ne (by omega)]; exact H.2.1 j (by omega)
  · rw [hset_same, upd_ne (by omega)]; exact H.2.2 i (by omega)
theorem GC_new {h h1 h2 : Hp} {G n p : Nat} {c : Nat → Nat} {r : Nat → Int32} (hn : n ≤ 6) (hc : Can n c) (hp : p = plc n c n) (hr : ∀ j, j < n → r j = nI (c j)) (H : GC h G n) (k1 : ∀ q, ¬ (G + 6 < q ∧ q ≤ G + 6 + 6) → h1 q = h q) (k2 : C1 G p n (goodS (eH h (G + 1) n) r) h1 h2) :
    KeepG G h (hset h2 (G + 13) p (h2 (G + 1) 3)) ∧ GC (hset h2 (G + 13) p (h2 (G + 1) 3)) G n ∧ Kn (hset h2 (G + 13) p (h2 (G + 1) 3)) G n c ∧ ∀ c', Can n c' → Kn h G n c' → Kn (hset h2 (G + 13) p (h2 (G + 1) 3)) G n c' := by
  subst hp
  have kG : KeepG G h (hset h2 (G + 13) (plc n c n) (h2 (G + 1) 3)) := fun q a => by rw [hset_ne (by omega), k2.1 q (by omega)]; exact k1 q (by omega)
  have hv : h2 (G + 1) 3 = h (G + 1) 3 := by rw [k2.1 _ (by omega), k1 _ (by omega)]
  have hpl := plc_lt hn hc
  have hra : ∀ p', ¬ p' = plc n c n → hset h2 (G + 13) (plc n c n) (h2 (G + 1) 3) (G + 13) p' = h (G + 13) p' := fun p' a => by rw [hset_same, upd_ne a, k2.1 _ (by omega), k1 _ (by omega)]
  have hrs : hset h2 (G + 13) (plc n c n) (h2 (G + 1) 3) (G + 13) (plc n c n) = h (G + 1) 3 := by rw [hset_same, upd_eq, hv]
  have hvv : hset h2 (G + 13) (plc n c n) (h2 (G + 1) 3) (G + 1) 3 = h (G + 1) 3 := by rw [hset_ne (by omega), hv]
  obtain ⟨ver, g1, g2, g3, g4, g5⟩ := H
  refine ⟨kG, ⟨ver, by rw [hvv, g1], g2, g3, fun p' hp' => ?_, fun c' hc' he l hl => ?_⟩, by rw [Kn, hrs, hvv], fun c' hc' k => ?_⟩
  · by_cases e : p' = plc n c n
    · subst e; rw [hrs]; exact ⟨ver, g1, Nat.le_refl _⟩
    · rw [hra p' e]; exact g4 p' hp'
  · rw [kG.eH, hset_ne (by omega)]
    by_cases e : plc n c' n = plc n c n
    · rw [e, k2.2.1 l hl]
      have hcc := plc_inj hn hc' hc e
      exact goodS_pat (EcEq.refl _) (Pat.of_eq (fun j hj => by rw [hr j hj, hcc j hj])) hl
    · rw [hra _ e] at he
      rw [k2.2.2 _ (by omega), k1 _ (by omega)]
      exact g5 c' hc' he l hl
  · rw [Kn, hvv]
    by_cases e : plc n c' n = plc n c n
    · rw [e, hrs]
    · rw [hra _ e]; exact k

set_option maxRecDepth 100000 in
set_option maxHeartbeats 4000000 in
theorem c_rowOf {g : GG} {G P n : Nat} {h : Hp} {c : Nat → Nat} (hG : GoodAt G) (hP : PartAt P) (hGP : G + 15 ≤ P ∨ P + 3 ≤ G) (hro : ROv g) (hn : n ≤ 6) (h0 : h (G + 1) 0 = nI n) (hE : EOK (eH h (G + 1) n)) (hc : Can n c) (hs : PS h P n c) (hgc : GC h G n) : R g mX0_rowOf 0 [some (.ref (ad g G)), some (.ref (ad g P)), none, none, none] [] h (Ri fun v h' => v = nI (plc n c n * 6) ∧ KeepG G h h' ∧ GC h' G n ∧ Kn h' G n c ∧ ∀ c', Can n c' → Kn h G n c' → Kn h' G n c') := by
  have hpl := plc_lt hn hc
  have loop : ∀ (h1 : Hp), ((∀ q, ¬ (G + 6 < q ∧ q ≤ G + 6 + 6) → h1 q = h q) ∧ ∀ j, j < n → I4 (G + 6) (eH h (G + 1) n) (h (P + 1)) h1 j ∧ h1 (G + 6 + 5) j = takS (eH h (G + 1) n) (h (P + 1)) j ∧ h1 (G + 6 + 6) j = goodS (eH h (G + 1) n) (h (P + 1)) j) → ∀ (m l : Nat) (h2 : Hp), l ≤ n → n < l + m → C1 G (plc n c n) l (goodS (eH h (G + 1) n) (h (P + 1))) h1 h2 → R g mX0_rowOf 41 [some (.ref (ad g G)), some (.ref (ad g P)), some (.int (nI (plc n c n))), some (.int (nI (plc n c n * 6))), some (.int (nI l))] [] h2 (Ri fun v h' => v = nI (plc n c n * 6) ∧ KeepG G h h' ∧ GC h' G n ∧ Kn h' G n c ∧ ∀ c', Can n c' → Kn h G n c' → Kn h' G n c') := by
    intro h1 q1 m
    induction m with
    | zero => intro l h2 a b; omega
    | succ m ih =>
      intro l h2 a b H
      refine r_iload rfl dX0_rowOf_41 ?_
      refine r_aload_n rfl dX0_rowOf_43 ?_
      refine r_getR foX0_12 hG.1 rfl dX0_rowOf_44 ?_
      refine r_getI foX0_46 hG.2.1.1 rfl dX0_rowOf_47 ?_
      refine r_icmp_ge 78 dX0_rowOf_50 (by decide) (fun c_50 => ?_) (fun c_50 => ?_)
      · rw [H.1 (G + 1) (by omega), q1.1 (G + 1) (by omega), h0] at c_50
        have e : l = n := by have := ge_y (by omega) (by omega) c_50; omega
        subst e
        refine r_aload_n rfl dX0_rowOf_78 ?_
        refine r_getR foX0_25 hG.1 rfl dX0_rowOf_79 ?_
        refine r_iload_n rfl dX0_rowOf_82 ?_
        refine r_aload_n rfl dX0_rowOf_83 ?_
        refine r_getR foX0_12 hG.1 rfl dX0_rowOf_84 ?_
        refine r_getI foX0_38 hG.2.1.1 rfl dX0_rowOf_87 ?_
        refine r_ias hG.2.2.2.1 rfl hpl (by decide) dX0_rowOf_90 ?_
        refine r_iload_n rfl dX0_rowOf_91 ?_
        refine ret_i dX0_rowOf_92 rfl ?_
        obtain ⟨a1, a2, a3, a4⟩ := GC_new hn hc rfl hs.2.2 hgc q1.1 H
        exact ⟨rfl, a1, a2, a3, a4⟩
      · rw [H.1 (G + 1) (by omega), q1.1 (G + 1) (by omega), h0] at c_50
        have hlk : l < n := ge_n (by omega) c_50
        refine r_aload_n rfl dX0_rowOf_53 ?_
        refine r_getR foX0_29 hG.1 rfl dX0_rowOf_54 ?_
        refine r_iload_n rfl dX0_rowOf_57 ?_
        refine r_iload rfl dX0_rowOf_58 ?_
        refine r_iadd dX0_rowOf_60 ?_
        rw [nI_add]
        refine r_aload_n rfl dX0_rowOf_61 ?_
        refine r_getR foX0_21 hG.1 rfl dX0_rowOf_62 ?_
        refine r_getR foX0_49 hG.2.2.1.1 rfl dX0_rowOf_65 ?_
        refine r_iload rfl dX0_rowOf_68 ?_
        refine r_ild hG.2.2.1.2.2.2.2.2.2 rfl (by omega) (by decide) dX0_rowOf_70 ?_
        rw [H.1 (G + 6 + 6) (by omega), (q1.2 l hlk).2.2]
        refine r_ias hG.2.2.2.2 rfl (by omega) (by decide) dX0_rowOf_71 ?_
        first | refine r_incN4 rfl (by decide) dX0_rowOf_72 ?_ | refine r_incP4 rfl (by decide) dX0_rowOf_72 ?_
        refine r_goto 41 dX0_rowOf_75 (by decide) ?_
        exact ih (l + 1) _ (by omega) (by omega) (C1_step H rfl)
  refine r_aload_n rfl dX0_rowOf_0 ?_
  refine r_cV0i (T := TX6) (N := 4) moX6_place lkX0_32 hP.1 rfl (Nat.le_of_ble_eq_true rfl) ⟨by decide, by decide⟩ (Nat.le_of_ble_eq_true rfl) dX0_rowOf_1 rfl (c_place hP hn hc hs hro) (fun v1 h1 q1 => ?_)
  obtain ⟨e1, e2⟩ := q1
  subst e2
  rw [e1]
  refine r_ist2 rfl (by decide) dX0_rowOf_4 ?_
  refine r_iload_n rfl dX0_rowOf_5 ?_
  refine r_bipush (v := (6 : Int32)) (by decide) dX0_rowOf_6 ?_
  refine r_imul dX0_rowOf_8 ?_
  rw [show (6 : Int32) = nI 6 by decide, nI_mul]
  refine r_ist3 rfl (by decide) dX0_rowOf_9 ?_
  refine r_aload_n rfl dX0_rowOf_10 ?_
  refine r_getR foX0_25 hG.1 rfl dX0_rowOf_11 ?_
  refine r_iload_n rfl dX0_rowOf_14 ?_
  refine r_ild hG.2.2.2.1 rfl hpl (by decide) dX0_rowOf_15 ?_
  refine r_aload_n rfl dX0_rowOf_16 ?_
  refine r_getR foX0_12 hG.1 rfl dX0_rowOf_17 ?_
  refine r_getI foX0_38 hG.2.1.1 rfl dX0_rowOf_20 ?_
  refine r_icmp_eq 91 dX0_rowOf_23 (by decide) (fun c_23 => ?_) (fun c_23 => ?_)
  · refine r_iload_n rfl dX0_rowOf_91 ?_
    refine ret_i dX0_rowOf_92 rfl ?_
    exact ⟨rfl, fun _ _ => rfl, hgc, c_23, fun _ _ k => k⟩
  · refine r_aload_n rfl dX0_rowOf_26 ?_
    refine r_getR foX0_21 hG.1 rfl dX0_rowOf_27 ?_
    refine r_aload_n rfl dX0_rowOf_30 ?_
    refine r_getR foX0_12 hG.1 rfl dX0_rowOf_31 ?_
    refine r_aload_n rfl dX0_rowOf_34 ?_
    refine r_cV2v (T := TX4) (N := 6) moX4_reckon lkX0_42 hG.2.2.1.1 rfl (Nat.le_of_ble_eq_true rfl) ⟨by decide, by decide⟩ (Nat.le_of_ble_eq_true rfl) dX0_rowOf_35 rfl (c_reckon (n := n) (c := c) hG.2.2.1 hG.2.1 hP (Or.inr (by omega)) (by omega) hn h0 hc hs (hE.pos hc hs.2.2)) (fun h2 q2 => ?_)
    refine r_iconst (v := nI 0) (by decide) dX0_rowOf_38 ?_
    refine r_ist4 rfl (by decide) dX0_rowOf_39 ?_
    exact loop _ q2 (n + 1) 0 _ (by omega) (by omega) ⟨fun _ _ => rfl, fun j hj => by omega, fun _ _ => rfl⟩

set_option maxRecDepth 100000 in
set_option maxHeartbeats 4000000 in
theorem c_at {g : GG} {G p l : Nat} {h : Hp} (hG : GoodAt G) (hp : p < 203) (hl : l < 6) : R g mX0_at 0 [some (.ref (ad g G)), some (.int (nI (p * 6))), some (.int (nI l))] [] h (Ri fun v h' => h' = h ∧ v = h (G + 14) (p * 6 + l)) := by
  refine r_aload_n rfl dX0_at_0 ?_
  refine r_getR foX0_29 hG.1 rfl dX0_at_1 ?_
  refine r_iload_n rfl dX0_at_4 ?_
  refine r_iload_n rfl dX0_at_5 ?_
  refine r_iadd dX0_at_6 ?_
  rw [nI_add]
  refine r_ild hG.2.2.2.2 rfl (by omega) (by decide) dX0_at_7 ?_
  refine ret_i dX0_at_8 rfl ?_
  exact ⟨rfl, rfl⟩

