theorem CanOf.snew {l : Nat} {r : Nat → Int32} {c : Nat → Nat} (H : CanOf l r c) (hf : ∀ j, j < l → ¬ r j = r l) : CanOf (l + 1) r (uc c l (mx c l)) := by
  obtain ⟨hc1, hc2⟩ := H
  refine ⟨fun j hj => ?_, fun a b ha hb => ?_⟩
  · by_cases e : j = l
    · subst e; rw [uc_eq, mx_uc]; exact Nat.le_refl _
    · rw [uc_ne e, mx_congr (c' := c) (fun i q => uc_ne (by omega))]; exact hc1 j (by omega)
  · by_cases ea : a = l
    · subst ea
      by_cases eb : b = a
      · subst eb; simp
      · rw [uc_eq, uc_ne eb]
        have := mx_lt (c := c) (show b < a by omega)
        exact ⟨fun e => by omega, fun e => absurd e.symm (hf b (by omega))⟩
    · by_cases eb : b = l
      · subst eb
        rw [uc_eq, uc_ne ea]
        have := mx_lt (c := c) (show a < b by omega)
        exact ⟨fun e => by omega, fun e => absurd e (hf a (by omega))⟩
      · rw [uc_ne ea, uc_ne eb]; exact hc2 a b (by omega) (by omega)
theorem CanOf.sold {l f : Nat} {r : Nat → Int32} {c : Nat → Nat} (H : CanOf l r c) (hl : f < l) (hf : r f = r l) : CanOf (l + 1) r (uc c l (c f)) := by
  obtain ⟨hc1, hc2⟩ := H
  have hlt := mx_lt (c := c) hl
  refine ⟨fun j hj => ?_, fun a b ha hb => ?_⟩
  · by_cases e : j = l
    · subst e; rw [uc_eq, mx_uc]; omega
    · rw [uc_ne e, mx_congr (c' := c) (fun i q => uc_ne (by omega))]; exact hc1 j (by omega)
  · by_cases ea : a = l
    · subst ea
      by_cases eb : b = a
      · subst eb; simp
      · rw [uc_eq, uc_ne eb, ← hf]; exact hc2 f b hl (by omega)
    · by_cases eb : b = l
      · subst eb
        rw [uc_eq, uc_ne ea, ← hf]; exact hc2 a f (by omega) hl
      · rw [uc_ne ea, uc_ne eb]; exact hc2 a b (by omega) (by omega)
theorem nI_m6 {c : Nat} (h : c < 2 ^ 31) : ¬ nI c = -6 := fun q => absurd (q ▸ nI_pos' h : (0 : Int32) ≤ -6) (by decide)
/-- the reference's numbers, handed out so far -/
def Nu (h : Hp) (A : Nat) (d : Nat → Nat) (l : Nat) (x : Int32) (hh : Hp) : Prop := (∀ q, ¬ q = A → ¬ q = 67 → hh q = h q) ∧ ∃ c, CanOf l (h A) c ∧ x = nI (mx c l) ∧ (∀ j, j < l → hh A j = nI (c j)) ∧ (∀ j, l ≤ j → hh A j = h A j) ∧ (∀ j, j < l → hh 67 (d j) = nI (c j)) ∧ ∀ y, (∀ j, j < l → ¬ d j = y) → y < 8 → hh 67 y = -6
theorem Nu_new {h hh : Hp} {A n l : Nat} {d : Nat → Nat} {x : Int32} (hA : ¬ A = 67) (hn : n ≤ 6) (hd : ∀ j, j < n → h A j = nI (d j)) (hb : ∀ j, j < n → d j < 8) (hl : l < n) (H : Nu h A d l x hh) (c0 : hh 67 (d l) = -6) : Nu h A d (l + 1) (x + 1) (hset (hset hh 67 (d l) x) A l (hset hh 67 (d l) x 67 (d l))) := by
  obtain ⟨k, c, hc, ex, h1, h2, h3, h4⟩ := H
  have hnew : ∀ j, j < l → ¬ d j = d l := fun j hj e => nI_m6 (by have := hc.1.le hj; omega) ((h3 j hj).symm.trans (e ▸ c0))
  have hu : uc c l (mx c l) l = mx c l := uc_eq _ _ _
  refine ⟨fun q a b => by rw [hset_ne a, hset_ne b]; exact k q a b, uc c l (mx c l), hc.snew (fun j hj e => hnew j hj (nI_inj (by have := hb j (by omega); omega) (by have := hb l hl; omega) (by rw [← hd j (by omega), ← hd l hl]; exact e))), ?_, ?_, ?_, ?_, ?_⟩
  · rw [ex, mx, mx_uc, hu, show max (mx c l) (mx c l + 1) = mx c l + 1 by omega]; exact nI_1 _
  · intro j hj
    rw [hset_same, hset_same, upd_eq]
    by_cases e : j = l
    · subst e; rw [upd_eq, hu]; exact ex
    · rw [upd_ne e, uc_ne e, hset_ne hA]; exact h1 j (by omega)
  · intro j hj
    rw [hset_same, upd_ne (by omega), hset_ne hA]; exact h2 j (by omega)
  · intro j hj
    rw [hset_ne (Ne.symm hA), hset_same]
    by_cases e : j = l
    · subst e; rw [upd_eq, hu]; exact ex
    · rw [upd_ne (hnew j (by omega)), uc_ne e]; exact h3 j (by omega)
  · intro y hy hy8
    rw [hset_ne (Ne.symm hA), hset_same, upd_ne (fun e => hy l (by omega) e.symm)]
    exact h4 y (fun j hj => hy j (by omega)) hy8
theorem Nu_old {h hh : Hp} {A n l : Nat} {d : Nat → Nat} {x : Int32} (hA : ¬ A = 67) (hn : n ≤ 6) (hd : ∀ j, j < n → h A j = nI (d j)) (hb : ∀ j, j < n → d j < 8) (hl : l < n) (H : Nu h A d l x hh) (c0 : ¬ hh 67 (d l) = -6) : Nu h A d (l + 1) x (hset hh A l (hh 67 (d l))) := by
  obtain ⟨k, c, hc, ex, h1, h2, h3, h4⟩ := H
  obtain ⟨f, hf, ef⟩ : ∃ f, f < l ∧ d f = d l := Classical.byContradiction fun z => c0 (h4 (d l) (fun j hj e => z ⟨j, hj, e⟩) (hb l hl))
  have hu : uc c l (c f) l = c f := uc_eq _ _ _
  have hlt := mx_lt (c := c) hf
  refine ⟨fun q a b => by rw [hset_ne a]; exact k q a b, uc c l (c f), hc.sold hf (by rw [hd f (by omega), hd l hl, ef]), ?_, ?_, ?_, ?_, ?_⟩
  · rw [ex, mx, mx_uc, hu, show max (mx c l) (c f + 1) = mx c l by omega]
  · intro j hj
    rw [hset_same]
    by_cases e : j = l
    · subst e; rw [upd_eq, hu, ← ef]; exact h3 f hf
    · rw [upd_ne e, uc_ne e]; exact h1 j (by omega)
  · intro j hj
    rw [hset_same, upd_ne (by omega)]; exact h2 j (by omega)
  · intro j hj
    rw [hset_ne (Ne.symm hA)]
    by_cases e : j = l
    · subst e; rw [hu, ← ef]; exact h3 f hf
    · rw [uc_ne e]; exact h3 j (by omega)
  · intro y hy hy8
    rw [hset_ne (Ne.symm hA)]
    exact h4 y (fun j hj => hy j (by omega)) hy8

set_option maxRecDepth 100000 in
set_option maxHeartbeats 400000 in
theorem m_number {g : GG} {A n : Nat} {h : Hp} {d : Nat → Nat} (hA : shl[A]? = some (.inl 6)) (hA67 : ¬ A = 67) (hA62 : ¬ A = 62) (hn : n ≤ 6) (h0 : h 62 1 = nI n) (hd : ∀ j, j < n → h A j = nI (d j)) (hb : ∀ j, j < n → d j < 8) : R g mX9_number 0 [some (.ref (ad g 62)), some (.ref (ad g A)), none, none] [] h (Rv fun h' => (∀ q, ¬ q = A → ¬ q = 67 → h' q = h q) ∧ ∃ c, CanOf n (h A) c ∧ ∀ l, l < n → h' A l = nI (c l)) := by
  have loop2 : ∀ (v l : Nat) (x : Int32) (hh : Hp), l ≤ n → n < l + v → Nu h A d l x hh → R g mX9_number 26 [some (.ref (ad g 62)), some (.ref (ad g A)), some (.int x), some (.int (nI l))] [] hh (Rv fun h' => (∀ q, ¬ q = A → ¬ q = 67 → h' q = h q) ∧ ∃ c, CanOf n (h A) c ∧ ∀ l, l < n → h' A l = nI (c l)) := by
    intro v
    induction v with
    | zero => intro l x hh a b; omega
    | succ v ih =>
      intro l x hh a b H
      refine r_iload_n rfl dX9_number_26 ?_
      refine r_aload_n rfl dX9_number_27 ?_
      refine r_getI foX9_55 rfl rfl dX9_number_28 ?_
      rw [H.1 62 (fun e => hA62 e.symm) (by omega), h0]
      refine r_icmp_ge 76 dX9_number_31 (by decide) (fun c_31 => ?_) (fun c_31 => ?_)
      · refine ret_v dX9_number_76 rfl ?_
        have e : l = n := by have := ge_y (by omega) (by omega) c_31; omega
        subst e
        obtain ⟨k, c, hc, ex, k1, _⟩ := H
        exact ⟨k, c, hc, k1⟩
      · have hlk : l < n := ge_n (by omega) c_31
        have eA : hh A l = nI (d l) := by obtain ⟨_, c, _, _, _, k2, _⟩ := H; rw [k2 l (by omega)]; exact hd l hlk
        have hd8 := hb l hlk
        refine r_aload_n rfl dX9_number_34 ?_
        refine r_getR foX9_22 rfl rfl dX9_number_35 ?_
        refine r_aload_n rfl dX9_number_38 ?_
        refine r_iload_n rfl dX9_number_39 ?_
        refine r_ild hA rfl (by omega) (by decide) dX9_number_40 ?_
        rw [eA]
        refine r_ild rfl rfl (by omega) (by decide) dX9_number_41 ?_
        refine r_bipush (v := (-6 : Int32)) (by decide) dX9_number_42 ?_
        refine r_icmp_ne 59 dX9_number_44 (by decide) (fun c_44 => ?_) (fun c_44 => ?_)
        · refine r_aload_n rfl dX9_number_59 ?_
          refine r_iload_n rfl dX9_number_60 ?_
          refine r_aload_n rfl dX9_number_61 ?_
          refine r_getR foX9_22 rfl rfl dX9_number_62 ?_
          refine r_aload_n rfl dX9_number_65 ?_
          refine r_iload_n rfl dX9_number_66 ?_
          refine r_ild hA rfl (by omega) (by decide) dX9_number_67 ?_
          first
            | rw [hset_ne hA67, eA]
            | rw [eA]
          refine r_ild rfl rfl (by omega) (by decide) dX9_number_68 ?_
          refine r_ias hA rfl (by omega) (by decide) dX9_number_69 ?_
          first | refine r_incN3 rfl (by decide) dX9_number_70 ?_ | refine r_incP3 rfl (by decide) dX9_number_70 ?_
          refine r_goto 26 dX9_number_73 (by decide) ?_
          first
            | exact ih (l + 1) _ _ (by omega) (by omega) (Nu_new hA67 hn hd hb hlk H c_44)
            | exact ih (l + 1) _ _ (by omega) (by omega) (Nu_old hA67 hn hd hb hlk H c_44)
        · refine r_aload_n rfl dX9_number_47 ?_
          refine r_getR foX9_22 rfl rfl dX9_number_48 ?_
          refine r_aload_n rfl dX9_number_51 ?_
          refine r_iload_n rfl dX9_number_52 ?_
          refine r_ild hA rfl (by omega) (by decide) dX9_number_53 ?_
          rw [eA]
          refine r_iload_n rfl dX9_number_54 ?_
          refine r_ias rfl rfl (by omega) (by decide) dX9_number_55 ?_
          first | refine r_incN2 rfl (by decide) dX9_number_56 ?_ | refine r_incP2 rfl (by decide) dX9_number_56 ?_
          refine r_aload_n rfl dX9_number_59 ?_
          refine r_iload_n rfl dX9_number_60 ?_
          refine r_aload_n rfl dX9_number_61 ?_
          refine r_getR foX9_22 rfl rfl dX9_number_62 ?_
          refine r_aload_n rfl dX9_number_65 ?_
          refine r_iload_n rfl dX9_number_66 ?_
          refine r_ild hA rfl (by omega) (by decide) dX9_number_67 ?_
          first
            | rw [hset_ne hA67, eA]
            | rw [eA]
          refine r_ild rfl rfl (by omega) (by decide) dX9_number_68 ?_
          refine r_ias hA rfl (by omega) (by decide) dX9_number_69 ?_
          first | refine r_incN3 rfl (by decide) dX9_number_70 ?_ | refine r_incP3 rfl (by decide) dX9_number_70 ?_
          refine r_goto 26 dX9_number_73 (by decide) ?_
          first
            | exact ih (l + 1) _ _ (by omega) (by omega) (Nu_new hA67 hn hd hb hlk H c_44)
            | exact ih (l + 1) _ _ (by omega) (by omega) (Nu_old hA67 hn hd hb hlk H c_44)
  have loop : ∀ (v l : Nat) (hh : Hp), l ≤ 8 → 8 < l + v → S1 67 l (fun _ => -6) h hh → R g mX9_number 4 [some (.ref (ad g 62)), some (.ref (ad g A)), some (.int (nI 0)), some (.int (nI l))] [] hh (Rv fun h' => (∀ q, ¬ q = A → ¬ q = 67 → h' q = h q) ∧ ∃ c, CanOf n (h A) c ∧ ∀ l, l < n → h' A l = nI (c l)) := by
    intro v
    induction v with
    | zero => intro l hh a b; omega
    | succ v ih =>
      intro l hh a b H
      refine r_iload_n rfl dX9_number_4 ?_
      refine r_bipush (v := nI 8) (by decide) dX9_number_5 ?_
      refine r_icmp_ge 24 dX9_number_7 (by decide) (fun c_7 => ?_) (fun c_7 => ?_)
      · have e : l = 8 := by have := ge_y (by omega) (by omega) c_7; omega
        subst e
        refine r_iconst (v := nI 0) (by decide) dX9_number_24 ?_
        refine r_ist3 rfl (by decide) dX9_number_25 ?_
        exact loop2 (n + 1) 0 _ _ (by omega) (by omega) ⟨fun q _ a => H.1 q a, fun _ => 0, ⟨fun j hj => by omega, fun a b ha => by omega⟩, rfl, fun j hj => by omega, fun j hj => by rw [H.1 A hA67], fun j hj => by omega, fun y _ hy => H.2.1 y hy⟩
      · have hlk : l < 8 := ge_n (by omega) c_7
        refine r_aload_n rfl dX9_number_10 ?_
        refine r_getR foX9_22 rfl rfl dX9_number_11 ?_
        refine r_iload_n rfl dX9_number_14 ?_
        refine r_bipush (v := (-6 : Int32)) (by decide) dX9_number_15 ?_
        refine r_ias rfl rfl (by omega) (by decide) dX9_number_17 ?_
        first | refine r_incN3 rfl (by decide) dX9_number_18 ?_ | refine r_incP3 rfl (by decide) dX9_number_18 ?_
        refine r_goto 4 dX9_number_21 (by decide) ?_
        exact ih (l + 1) _ (by omega) (by omega) (S1_set H rfl)
  refine r_iconst (v := nI 0) (by decide) dX9_number_0 ?_
  refine r_ist2 rfl (by decide) dX9_number_1 ?_
  refine r_iconst (v := nI 0) (by decide) dX9_number_2 ?_
  refine r_ist3 rfl (by decide) dX9_number_3 ?_
  exact loop 9 0 _ (by omega) (by omega) S1_0

set_option maxRecDepth 100000 in
set_option maxHeartbeats 400000 in
theorem m_firstParting {g : GG} {h : Hp} : R g mX9_firstParting 0 [some (.ref (ad g 62)), none] [] h (Rv fun h' => S1 74 6 (fun _ => nI 0) h h') := by
  have loop : ∀ (v l : Nat) (hh : Hp), l ≤ 6 → 6 < l + v → S1 74 l (fun _ => nI 0) h hh → R g mX9_firstParting 2 [some (.ref (ad g 62)), some (.int (nI l))] [] hh (Rv fun h' => S1 74 6 (fun _ => nI 0) h h') := by
    intro v
    induction v with
    | zero => intro l hh a b; omega
    | succ v ih =>
      intro l hh a b H
      refine r_iload_n rfl dX9_firstParting_2 ?_
      refine r_bipush (v := nI 6) (by decide) dX9_firstParting_3 ?_
      refine r_icmp_ge 21 dX9_firstParting_5 (by decide) (fun c_5 => ?_) (fun c_5 => ?_)
      · refine ret_v dX9_firstParting_21 rfl ?_
        have e : l = 6 := by have := ge_y (by omega) (by omega) c_5; omega
        subst e
        exact H
      · have hlk : l < 6 := ge_n (by omega) c_5
        refine r_aload_n rfl dX9_firstParting_8 ?_
        refine r_getR foX9_43 rfl rfl dX9_firstParting_9 ?_
        refine r_iload_n rfl dX9_firstParting_12 ?_
        refine r_iconst (v := nI 0) (by decide) dX9_firstParting_13 ?_
        refine r_ias rfl rfl (by omega) (by decide) dX9_firstParting_14 ?_
        first | refine r_incN1 rfl (by decide) dX9_firstParting_15 ?_ | refine r_incP1 rfl (by decide) dX9_firstParting_15 ?_
        refine r_goto 2 dX9_firstParting_18 (by decide) ?_
        exact ih (l + 1) _ (by omega) (by omega) (S1_set H rfl)
  refine r_iconst (v := nI 0) (by decide) dX9_firstParting_0 ?_
  refine r_ist1 rfl (by decide) dX9_firstParting_1 ?_
  exact loop 7 0 _ (by omega) (by omega) S1_0

/-- is there no further parting? -/
def lst (c : Nat → Nat) : Nat → Bool
  | 0 => true
  | l + 1 => if c (l + 1) < mx c (l + 1) then false else lst c l
def A7 (l m : Nat) (c : Nat → Nat) (h h1 : Hp) : Prop := (∀ q, ¬ q = 74 → h1 q = h q) ∧ (∀ j, j < m → h1 74 j = nI (if j ≤ l then c j else if j = l + 1 then c (l + 1) + 1 else 0))
theorem A7_step {l m : Nat} {c : Nat → Nat} {h h1 : Hp} (hm : l + 1 < m) (H : A7 l m c h h1) : A7 l (m + 1) c h (hset h1 74 m (nI 0)) := by
  refine ⟨fun q a => by rw [hset_ne a]; exact H.1 q a, fun j hj => ?_⟩
  rw [hset_same]
  by_cases e : j = m
  · subst e; rw [upd_eq, if_neg (by omega), if_neg (by omega)]
  · rw [upd_ne e]; exact H.2 j (by omega)
theorem mx_pos {c : Nat → Nat} {l : Nat} (h : 0 < l) : 0 < mx c l := by
  obtain ⟨k, rfl⟩ : ∃ k, l = k + 1 := ⟨l - 1, by omega⟩
  rw [mx]; omega

theorem nI_npos {a : Nat} (h : 0 < a) (ha : a < 2 ^ 31) : ¬ nI a ≤ 0 := by
  rw [show (0 : Int32) = nI 0 by decide]
  exact nI_ge h ha
set_option maxRecDepth 100000 in
set_option maxHeartbeats 400000 in
theorem m_nextParting {g : GG} {n : Nat} {h : Hp} {c : Nat → Nat} (hn : n ≤ 6) (h0 : h 62 1 = nI n) (hcan : Can n c) (hc : ∀ j, j < n → h 74 j = nI (c j)) : R g mX9_nextParting 0 [some (.ref (ad g 62)), none, none, none] [] h (Ri fun v h' => v = (if lst c (n - 1) then 0 else 1) ∧ (∀ q, ¬ q = 74 → h' q = h q) ∧ ∀ j, j < n → h' 74 j = nI (adv c (n - 1) j)) := by
  have hb : ∀ j, j < n → c j < 7 := fun j hj => by have := hcan.le hj; omega
  have hmx : ∀ j, j ≤ n → mx c j ≤ 6 := fun j hj => by have := mx_le hcan j hj; omega
  have loop3 : ∀ l, l + 1 < n → c (l + 1) < mx c (l + 1) → ∀ (x : Int32) (v k : Nat) (hh : Hp), l + 1 < k → k ≤ n → n < k + v → A7 l k c h hh → R g mX9_nextParting 71 [some (.ref (ad g 62)), some (.int (nI (l + 1))), some (.int x), some (.int (nI k))] [] hh (Ri fun v h' => v = (if lst c (l + 1) then 0 else 1) ∧ (∀ q, ¬ q = 74 → h' q = h q) ∧ ∀ j, j < n → h' 74 j = nI (adv c (l + 1) j)) := by
    intro l hl hlt x v
    induction v with
    | zero => intro k hh a b; omega
    | succ v ih3 =>
      intro k hh a0 a b H
      refine r_iload_n rfl dX9_nextParting_71 ?_
      refine r_aload_n rfl dX9_nextParting_72 ?_
      refine r_getI foX9_55 rfl rfl dX9_nextParting_73 ?_
      rw [H.1 62 (by omega), h0]
      refine r_icmp_ge 92 dX9_nextParting_76 (by decide) (fun c_76 => ?_) (fun c_76 => ?_)
      · refine r_iconst (v := (1 : Int32)) (by decide) dX9_nextParting_92 ?_
        refine ret_z dX9_nextParting_93 rfl (by decide) ?_
        have e : k = n := by have := ge_y (by omega) (by omega) c_76; omega
        subst e
        refine ⟨by rw [lst, if_pos hlt]; rfl, H.1, fun j hj => ?_⟩
        rw [adv, if_pos hlt]
        exact H.2 j hj
      · have hlk : k < n := ge_n (by omega) c_76
        refine r_aload_n rfl dX9_nextParting_79 ?_
        refine r_getR foX9_43 rfl rfl dX9_nextParting_80 ?_
        refine r_iload_n rfl dX9_nextParting_83 ?_
        refine r_iconst (v := nI 0) (by decide) dX9_nextParting_84 ?_
        refine r_ias rfl rfl (by omega) (by decide) dX9_nextParting_85 ?_
        first | refine r_incN3 rfl (by decide) dX9_nextParting_86 ?_ | refine r_incP3 rfl (by decide) dX9_nextParting_86 ?_
        refine r_goto 71 dX9_nextParting_89 (by decide) ?_
        exact ih3 (k + 1) _ (by omega) (by omega) (by omega) (A7_step (by omega) H)
  have loop : ∀ l (z2 z3 : Option Value), l < n → R g mX9_nextParting 7 [some (.ref (ad g 62)), some (.int (nI l)), z2, z3] [] h (Ri fun v h' => v = (if lst c l then 0 else 1) ∧ (∀ q, ¬ q = 74 → h' q = h q) ∧ ∀ j, j < n → h' 74 j = nI (adv c l j)) := by
    intro l
    induction l with
    | zero =>
      intro z2 z3 hl
      refine r_iload_n rfl dX9_nextParting_7 ?_
      refine r_if_le 100 dX9_nextParting_8 (by decide) (fun c_8 => ?_) (fun c_8 => ?_)
      · refine r_iconst (v := (0 : Int32)) (by decide) dX9_nextParting_100 ?_
        refine ret_z dX9_nextParting_101 rfl (by decide) ?_
        exact ⟨rfl, fun _ _ => rfl, hc⟩
      · exact absurd (by decide : nI 0 ≤ 0) c_8
    | succ l ih =>
      intro z2 z3 hl
      have loop2 : ∀ (v k : Nat) (x : Int32), k ≤ l + 1 → l + 1 < k + v → x = nI (mx c k - 1) → R g mX9_nextParting 15 [some (.ref (ad g 62)), some (.int (nI (l + 1))), some (.int x), some (.int (nI k))] [] h (Ri fun v h' => v = (if lst c (l + 1) then 0 else 1) ∧ (∀ q, ¬ q = 74 → h' q = h q) ∧ ∀ j, j < n → h' 74 j = nI (adv c (l + 1) j)) := by
        intro v
        induction v with
        | zero => intro k x a b; omega
        | succ v ih2 =>
          intro k x a b ex
          subst ex
          refine r_iload_n rfl dX9_nextParting_15 ?_
          refine r_iload_n rfl dX9_nextParting_16 ?_
          refine r_icmp_ge 47 dX9_nextParting_17 (by decide) (fun c_17 => ?_) (fun c_17 => ?_)
          · have e : k = l + 1 := by have := ge_y (by omega) (by omega) c_17; omega
            subst e
            have hp := mx_pos (c := c) (l := l + 1) (by omega)
            have hcl := hb (l + 1) hl
            refine r_aload_n rfl dX9_nextParting_47 ?_
            refine r_getR foX9_43 rfl rfl dX9_nextParting_48 ?_
            refine r_iload_n rfl dX9_nextParting_51 ?_
            refine r_ild rfl rfl (by omega) (by decide) dX9_nextParting_52 ?_
            rw [hc _ hl]
            refine r_iload_n rfl dX9_nextParting_53 ?_
            refine r_icmp_gt 94 dX9_nextParting_54 (by decide) (fun c_54 => ?_) (fun c_54 => ?_)
            · first | refine r_incM1 rfl (by decide) dX9_nextParting_94 ?_ | refine r_incQ1 rfl (by decide) dX9_nextParting_94 ?_
              refine r_goto 7 dX9_nextParting_97 (by decide) ?_
              have hmk : mx c (l + 1) ≤ 6 := hmx _ (by omega)
              have hge : ¬ c (l + 1) < mx c (l + 1) := fun q => absurd c_54 (nI_nlt (by omega) (by omega))
              refine Ri.imp (ih _ _ (by omega)) (fun v h' q => ?_)
              rw [lst, if_neg hge, adv, if_neg hge]
              exact q
            · refine r_aload_n rfl dX9_nextParting_57 ?_
              refine r_getR foX9_43 rfl rfl dX9_nextParting_58 ?_
              refine r_iload_n rfl dX9_nextParting_61 ?_
              refine r_dup2 rfl rfl dX9_nextParting_62 ?_
              refine r_ild rfl rfl (by omega) (by decide) dX9_nextParting_63 ?_
              rw [hc _ hl]
              refine r_iconst (v := (1 : Int32)) (by decide) dX9_nextParting_64 ?_
              refine r_iadd dX9_nextParting_65 ?_
              rw [nI_1]
              refine r_ias rfl rfl (by omega) (by decide) dX9_nextParting_66 ?_
              refine r_iload_n rfl dX9_nextParting_67 ?_
              refine r_iconst (v := (1 : Int32)) (by decide) dX9_nextParting_68 ?_
              refine r_iadd dX9_nextParting_69 ?_
              rw [nI_1]
              refine r_ist3 rfl (by decide) dX9_nextParting_70 ?_
              have hmk : mx c (l + 1) ≤ 6 := hmx _ (by omega)
              have hlt : c (l + 1) < mx c (l + 1) := Classical.byContradiction fun q => c_54 (nI_lt (by omega) (by omega))
              refine loop3 l hl hlt _ (n + 1) (l + 2) _ (by omega) (by omega) (by omega) ⟨fun q a => hset_ne a, fun j hj => ?_⟩
              rw [hset_same]
              by_cases e : j = l + 1
              · subst e; rw [upd_eq, if_neg (by omega), if_pos rfl]
              · rw [upd_ne e, if_pos (by omega)]; exact hc j (by omega)
          · have hlk : k < l + 1 := ge_n (by omega) c_17
            have hck := hb k (by omega)
            refine r_aload_n rfl dX9_nextParting_20 ?_
            refine r_getR foX9_43 rfl rfl dX9_nextParting_21 ?_
            refine r_iload_n rfl dX9_nextParting_24 ?_
            refine r_ild rfl rfl (by omega) (by decide) dX9_nextParting_25 ?_
            rw [hc k (by omega)]
            refine r_iload_n rfl dX9_nextParting_26 ?_
            refine r_icmp_le 39 dX9_nextParting_27 (by decide) (fun c_27 => ?_) (fun c_27 => ?_)
            · refine r_iload_n rfl dX9_nextParting_39 ?_
              refine r_ist2 rfl (by decide) dX9_nextParting_40 ?_
              first | refine r_incN3 rfl (by decide) dX9_nextParting_41 ?_ | refine r_incP3 rfl (by decide) dX9_nextParting_41 ?_
              refine r_goto 15 dX9_nextParting_44 (by decide) ?_
              have hmk : mx c k ≤ 6 := hmx k (by omega)
              first
                | (have hle := (nI_leI (by omega) (by omega)).mp c_27
                   exact ih2 (k + 1) _ (by omega) (by omega) (by rw [mx]; congr 1; omega))
                | (have hgt : ¬ c k ≤ mx c k - 1 := fun q => c_27 (nI_le q (by omega))
                   exact ih2 (k + 1) _ (by omega) (by omega) (by rw [mx]; congr 1; omega))
            · refine r_aload_n rfl dX9_nextParting_30 ?_
              refine r_getR foX9_43 rfl rfl dX9_nextParting_31 ?_
              refine r_iload_n rfl dX9_nextParting_34 ?_
              refine r_ild rfl rfl (by omega) (by decide) dX9_nextParting_35 ?_
              rw [hc k (by omega)]
              refine r_goto 40 dX9_nextParting_36 (by decide) ?_
              refine r_ist2 rfl (by decide) dX9_nextParting_40 ?_
              first | refine r_incN3 rfl (by decide) dX9_nextParting_41 ?_ | refine r_incP3 rfl (by decide) dX9_nextParting_41 ?_
              refine r_goto 15 dX9_nextParting_44 (by decide) ?_
              have hmk : mx c k ≤ 6 := hmx k (by omega)
              first
                | (have hle := (nI_leI (by omega) (by omega)).mp c_27
                   exact ih2 (k + 1) _ (by omega) (by omega) (by rw [mx]; congr 1; omega))
                | (have hgt : ¬ c k ≤ mx c k - 1 := fun q => c_27 (nI_le q (by omega))
                   exact ih2 (k + 1) _ (by omega) (by omega) (by rw [mx]; congr 1; omega))
      refine r_iload_n rfl dX9_nextParting_7 ?_
      refine r_if_le 100 dX9_nextParting_8 (by decide) (fun c_8 => ?_) (fun c_8 => ?_)
      · exact absurd c_8 (nI_npos (by omega) (by omega))
      · refine r_iconst (v := nI 0) (by decide) dX9_nextParting_11 ?_
        refine r_ist2 rfl (by decide) dX9_nextParting_12 ?_
        refine r_iconst (v := nI 0) (by decide) dX9_nextParting_13 ?_
        refine r_ist3 rfl (by decide) dX9_nextParting_14 ?_
        exact loop2 (l + 2) 0 _ (by omega) (by omega) rfl
  cases n with
  | zero =>
    refine r_aload_n rfl dX9_nextParting_0 ?_
    refine r_getI foX9_55 rfl rfl dX9_nextParting_1 ?_
    rw [h0]
    refine r_iconst (v := (1 : Int32)) (by decide) dX9_nextParting_4 ?_
    refine r_isub dX9_nextParting_5 ?_
    refine r_ist1 rfl (by decide) dX9_nextParting_6 ?_
    refine r_iload_n rfl dX9_nextParting_7 ?_
    refine r_if_le 100 dX9_nextParting_8 (by decide) (fun c_8 => ?_) (fun c_8 => ?_)
    · refine r_iconst (v := (0 : Int32)) (by decide) dX9_nextParting_100 ?_
      refine ret_z dX9_nextParting_101 rfl (by decide) ?_
      exact ⟨rfl, fun _ _ => rfl, fun j hj => by omega⟩
    · exact absurd (by decide : nI 0 - 1 ≤ 0) c_8
  | succ n =>
    refine r_aload_n rfl dX9_nextParting_0 ?_
    refine r_getI foX9_55 rfl rfl dX9_nextParting_1 ?_
    rw [h0]
    refine r_iconst (v := (1 : Int32)) (by decide) dX9_nextParting_4 ?_
    refine r_isub dX9_nextParting_5 ?_
    rw [nI_pred]
    refine r_ist1 rfl (by decide) dX9_nextParting_6 ?_
    exact loop n _ _ (by omega)

def stN (c : Nat → Nat) (x : Nat) : Nat → Nat
  | 0 => x
  | l + 1 => 7 * stN c x l + c l
theorem stN_inj {c c' : Nat → Nat} {x x' : Nat} : ∀ n, (∀ l, l < n → c l < 7 ∧ c' l < 7) → stN c x n = stN c' x' n → x = x' ∧ ∀ l, l < n → c l = c' l := by
  intro n
  induction n with
  | zero => intro _ e; exact ⟨e, fun l hl => by omega⟩
  | succ n ih =>
    intro hb e
    rw [stN, stN] at e
    obtain ⟨b1, b2⟩ := hb n (by omega)
    obtain ⟨e1, e2⟩ := ih (fun l hl => hb l (by omega)) (by omega)
    refine ⟨e1, fun l hl => ?_⟩
    by_cases q : l = n
    · subst q; omega
    · exact e2 l (by omega)
theorem stN_congr {c c' : Nat → Nat} {x : Nat} : ∀ n, (∀ l, l < n → c l = c' l) → stN c x n = stN c' x n := by
  intro n
  induction n with
  | zero => intro _; rfl
  | succ n ih => intro h; rw [stN, stN, ih (fun l hl => h l (by omega)), h n (by omega)]
theorem stN_lt {c : Nat → Nat} {x : Nat} (hx : x < 7) : ∀ n, (∀ l, l < n → c l < 7) → stN c x n < 7 ^ (n + 1) := by
  intro n
  induction n with
  | zero => intro _; rw [stN]; omega
  | succ n ih =>
    intro hb
    have h1 := ih (fun l hl => hb l (by omega))
    have h2 := hb n (by omega)
    rw [stN, Nat.pow_succ]
    omega
theorem stN_lt31 {c : Nat → Nat} {x n : Nat} (hx : x < 7) (hn : n ≤ 6) (hb : ∀ l, l < n → c l < 7) : stN c x n < 2 ^ 31 := by
  have h1 := stN_lt hx n hb
  have h2 : 7 ^ (n + 1) ≤ 7 ^ 7 := Nat.pow_le_pow_right (by omega) (by omega)
  have h3 : 7 ^ 7 < 2 ^ 31 := by decide
  omega

set_option maxRecDepth 100000 in
set_option maxHeartbeats 400000 in
theorem m_stateOf {g : GG} {A n x : Nat} {h : Hp} {c : Nat → Nat} (hA : shl[A]? = some (.inl 6)) (hn : n ≤ 6) (h0 : h 62 1 = nI n) (hc : ∀ j, j < n → h A j = nI (c j)) : R g mX9_stateOf 0 [some (.ref (ad g 62)), some (.ref (ad g A)), some (.int (nI x)), none, none] [] h (Ri fun v h' => h' = h ∧ v = nI (stN c x n)) := by
  have loop : ∀ (v l : Nat) (y : Int32), l ≤ n → n < l + v → y = nI (stN c x l) → R g mX9_stateOf 5 [some (.ref (ad g 62)), some (.ref (ad g A)), some (.int (nI x)), some (.int y), some (.int (nI l))] [] h (Ri fun v h' => h' = h ∧ v = nI (stN c x n)) := by
    intro v
    induction v with
    | zero => intro l y a b; omega
    | succ v ih =>
      intro l y a b ey
      subst ey
      refine r_iload rfl dX9_stateOf_5 ?_
      refine r_aload_n rfl dX9_stateOf_7 ?_
      refine r_getI foX9_55 rfl rfl dX9_stateOf_8 ?_
      rw [h0]
      refine r_icmp_ge 30 dX9_stateOf_11 (by decide) (fun c_11 => ?_) (fun c_11 => ?_)
      · refine r_iload_n rfl dX9_stateOf_30 ?_
        refine ret_i dX9_stateOf_31 rfl ?_
        have e : l = n := by have := ge_y (by omega) (by omega) c_11; omega
        exact ⟨rfl, by rw [e]⟩
      · have hlk : l < n := ge_n (by omega) c_11
        refine r_bipush (v := (7 : Int32)) (by decide) dX9_stateOf_14 ?_
        refine r_iload_n rfl dX9_stateOf_16 ?_
        refine r_imul dX9_stateOf_17 ?_
        refine r_aload_n rfl dX9_stateOf_18 ?_
        refine r_iload rfl dX9_stateOf_19 ?_
        refine r_ild hA rfl (by omega) (by decide) dX9_stateOf_21 ?_
        rw [hc l hlk]
        refine r_iadd dX9_stateOf_22 ?_
        rw [show (7 : Int32) = nI 7 by decide, nI_mul, nI_add]
        refine r_ist3 rfl (by decide) dX9_stateOf_23 ?_
        first | refine r_incN4 rfl (by decide) dX9_stateOf_24 ?_ | refine r_incP4 rfl (by decide) dX9_stateOf_24 ?_
        refine r_goto 5 dX9_stateOf_27 (by decide) ?_
        exact ih (l + 1) _ (by omega) (by omega) rfl
  refine r_iload_n rfl dX9_stateOf_0 ?_
  refine r_ist3 rfl (by decide) dX9_stateOf_1 ?_
  refine r_iconst (v := nI 0) (by decide) dX9_stateOf_2 ?_
  refine r_ist4 rfl (by decide) dX9_stateOf_3 ?_
  exact loop (n + 1) 0 _ (by omega) (by omega) rfl

