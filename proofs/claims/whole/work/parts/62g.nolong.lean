theorem dW_5 : ∀ d, d < 5 → dW d 1 ≤ 52 := by decide
theorem plc_52 {n : Nat} {c : Nat → Nat} (hn : n ≤ 5) (h0 : 0 < n) (hc : Can n c) : plc n c n < 52 := by
  obtain ⟨d, hd⟩ : ∃ d, 1 + d = n := ⟨n - 1, by omega⟩
  rw [plc_0 hc d hd]
  have h1 := sfx_lt (by omega) hc d 1 hd (by omega)
  have h2 : mx c 1 = 1 := by
    show max (mx c 0) (c 0 + 1) = 1
    rw [can0 hc h0]; rfl
  rw [h2] at h1
  have := dW_5 d (by omega)
  omega
/-- all states of a long going differ -/
theorem long_diff {E : Ec} {n : Nat} {cs : Nat → Nat → Nat} {ns : Nat → Nat} (hr : RunT E n cs ns 500) (hw : ∀ j, j < 500 → ¬ wh n (cs j) (ns j) = wh n (cs 500) (ns 500)) : ∀ i j, i ≤ 500 → j ≤ 500 → wh n (cs i) (ns i) = wh n (cs j) (ns j) → i = j := by
  have key : ∀ i j, j < i → i ≤ 500 → ¬ wh n (cs j) (ns j) = wh n (cs i) (ns i) := by
    intro i j hji hi
    by_cases e : i = 500
    · subst e; exact hw j hji
    · exact hr.2.2 i (by omega) j hji
  intro i j hi hj e
  rcases Nat.lt_trichotomy i j with q | q | q
  · exact absurd e (key j i q hj)
  · exact q
  · exact absurd e.symm (key i j q hi)
theorem noLong_5 {E : Ec} {n : Nat} (hn : n ≤ 5) : noLong E n := by
  intro cs ns hr hw
  have hd := long_diff hr hw
  have hp := pig (N := 312) (p := fun _ => true) (f := fun i => wh n (cs i) (ns i)) 501 (fun _ => true) (fun i hi _ => by
    obtain ⟨c1, c2⟩ := hr.1 i (by omega)
    have := plc_52 hn (by omega) c1
    refine ⟨?_, rfl⟩
    show plc n (cs i) n * 6 + ns i < 312
    omega) (fun i j hi hj _ _ e => hd i j (by omega) (by omega) e)
  rw [cnt_true, cnt_true] at hp
  omega
theorem noLong_6 {E : Ec} (hE : EOK E) (hn : eN E = 6) : noLong E 6 := by
  intro cs ns hr hw
  have hd := long_diff hr hw
  obtain ⟨k0, h0⟩ := fst_ex (n := 6) (a := pN E) 6 (by omega) (Nat.le_refl _)
  have hk0 := h0.1
  -- who goes, and where
  obtain ⟨κ, ο, hs⟩ := pick2 (m := 500) (fun i hi => stp_best hE hn (hr.2.1 i hi))
  have hcan : ∀ i, i ≤ 500 → Can 6 (cs i) := fun i hi => (hr.1 i hi).1
  -- the union-making of the others, as a parting in which the goer is alone
  obtain ⟨qr, hqr⟩ : ∃ qr : Nat → Nat → Nat, ∀ i, CanOf 6 (upd (lab (cs (i + 1))) (κ i) (-1)) (qr i) := ⟨fun i => (can_ex _ 6).choose, fun i => (can_ex _ 6).choose_spec⟩
  obtain ⟨q, hq⟩ : ∃ q : Nat → Nat, ∀ i, q i = plc 6 (qr i) 6 := ⟨_, fun _ => rfl⟩
  have q203 : ∀ i, q i < 203 := fun i => by rw [hq]; exact plc_lt (by omega) (hqr i).1
  have qrow : ∀ i l, l < 6 → qr i l = rwT (q i) l := fun i => by
    obtain ⟨t1, t2⟩ := tab_1 (q i) (q203 i)
    exact plc_inj (by omega) (hqr i).1 t1 (by rw [t2, hq])
  -- past the goer a step changes nothing
  have oth : ∀ i, i < 500 → ∀ a b, a < 6 → b < 6 → ¬ a = κ i → ¬ b = κ i → ((cs (i + 1) a = cs (i + 1) b ↔ cs i a = cs i b) ∧ (qr i a = qr i b ↔ cs (i + 1) a = cs (i + 1) b)) := fun i hi a b ha hb na nb => by
    obtain ⟨_, _, hc, _⟩ := hs i hi
    refine ⟨?_, ?_⟩
    · rw [hc.2 a b ha hb, upd_ne na, upd_ne nb]
      exact lab_iff (by omega) (hcan i (by omega)) ha hb
    · rw [(hqr i).2 a b ha hb, upd_ne na, upd_ne nb]
      exact lab_iff (by omega) (hcan (i + 1) (by omega)) ha hb
  have ink : ∀ i, i < 500 → ¬ κ i = k0 → (cs (i + 1) (κ i) = cs (i + 1) k0 ↔ lab (cs i) k0 = lbl (ο i)) := fun i hi ne => by
    obtain ⟨hk, _, hc, _⟩ := hs i hi
    rw [hc.2 _ _ hk hk0, upd_eq, upd_ne (fun z => ne z.symm)]
    exact ⟨fun z => z.symm, fun z => z.symm⟩
  -- is it with k0 that the goer is, where somebody apart has a greater toll?
  obtain ⟨fl, hfl⟩ : ∃ fl : Nat → Bool, ∀ i, (fl i = true ↔ (¬ κ i = k0 ∧ cs (i + 1) (κ i) = cs (i + 1) k0 ∧ ∃ j, j < 6 ∧ ¬ j = κ i ∧ ¬ cs (i + 1) j = cs (i + 1) k0 ∧ tN E (κ i) < tN E j)) := ⟨fun i => @decide _ (Classical.propDecidable _), fun i => @decide_eq_true_iff _ (Classical.propDecidable _)⟩
  have inj : ∀ i j, i < 500 → j < 500 → κ i = κ j → fl i = fl j → q i = q j → i = j := by
    intro i j hi hj ek ef eq
    obtain ⟨hk, b1, c1, n1⟩ := hs i hi
    obtain ⟨hk', b2, c2, n2⟩ := hs j hj
    rw [← ek] at b2 c2 n2
    have row : ∀ l, l < 6 → qr i l = qr j l := fun l hl => by rw [qrow i l hl, qrow j l hl, eq]
    have hsq1 : ∀ a b, a < 6 → b < 6 → ¬ a = κ i → ¬ b = κ i → (cs (i + 1) a = cs (i + 1) b ↔ cs (j + 1) a = cs (j + 1) b) := fun a b ha hb na nb => by
      rw [← (oth i hi a b ha hb na nb).2, ← (oth j hj a b ha hb (by rw [← ek]; exact na) (by rw [← ek]; exact nb)).2, row a ha, row b hb]
    have hsq : SQ 6 (cs i) (cs j) (κ i) := fun a b ha hb na nb => by
      rw [← (oth i hi a b ha hb na nb).1, ← (oth j hj a b ha hb (by rw [← ek]; exact na) (by rw [← ek]; exact nb)).1]
      exact hsq1 a b ha hb na nb
    have done : (∀ l, l < 6 → cs (i + 1) l = cs (j + 1) l) → i = j := fun h => by
      have e : wh 6 (cs (i + 1)) (ns (i + 1)) = wh 6 (cs (j + 1)) (ns (j + 1)) := by rw [n1, n2, wh_congr h]
      have := hd (i + 1) (j + 1) (by omega) (by omega) e
      omega
    rcases pair hE hn h0 hk (hcan i (by omega)) (hcan j (by omega)) hsq b1 b2 with hp | ⟨ne, hx, y, hy, yk, y0, yt⟩
    · exact done ((c1.pat hp).uniq c2)
    · exfalso
      have i1 := ink i hi ne
      have i2 := ink j hj (by rw [← ek]; exact ne)
      rw [← ek] at i2
      have y1 : ¬ cs (i + 1) y = cs (i + 1) k0 := fun z => y0 ((oth i hi y k0 hy hk0 yk (fun u => ne u.symm)).1.mp z)
      have y2 : ¬ cs (j + 1) y = cs (j + 1) k0 := fun z => y1 ((hsq1 y k0 hy hk0 yk (fun u => ne u.symm)).mpr z)
      have f1 : fl i = true ↔ lab (cs i) k0 = lbl (ο i) := (hfl i).trans ⟨fun z => i1.mp z.2.1, fun z => ⟨ne, i1.mpr z, y, hy, yk, y1, yt⟩⟩
      have f2 : fl j = true ↔ lab (cs j) k0 = lbl (ο j) := (hfl j).trans ⟨fun z => i2.mp (by have := z.2.1; rw [← ek] at this; exact this), fun z => ⟨by rw [← ek]; exact ne, by rw [← ek]; exact i2.mpr z, y, hy, by rw [← ek]; exact yk, y2, by rw [← ek]; exact yt⟩⟩
      rw [← f1, ← f2, ef] at hx
      by_cases z : fl j = true
      · exact (hx.mp z) z
      · exact z (hx.mpr z)
  -- alone, and apart, in the table
  have alone : ∀ i, i < 500 → (alT (q i)).testBit (κ i) = true := fun i hi => by
    obtain ⟨hk, _⟩ := hs i hi
    refine tab_2 (q i) (q203 i) (κ i) hk (fun j hj hne => ?_)
    rw [← qrow i j hj, ← qrow i _ hk]
    intro z
    have := ((hqr i).2 j (κ i) hj hk).mp z
    rw [upd_eq, upd_ne hne] at this
    exact absurd this (nI_m1 (by have := (hcan (i + 1) (by omega)).le hj; omega))
  have A : ∀ k, k < 6 → cnt (fun i => (κ i == k) && !fl i) 500 ≤ 52 := fun k hk => by
    refine Nat.le_trans (pig (N := 203) (f := q) 500 (fun x => (alT x).testBit k) (fun i hi hp => ?_) (fun i j hi hj hp hp' e => ?_)) (tab_4 k hk)
    · rw [Bool.and_eq_true, beq_iff_eq] at hp
      exact ⟨q203 i, by rw [← hp.1]; exact alone i hi⟩
    · rw [Bool.and_eq_true, beq_iff_eq] at hp hp'
      have e1 : fl i = false := by have := hp.2; simpa using this
      have e2 : fl j = false := by have := hp'.2; simpa using this
      exact inj i j hi hj (by rw [hp.1, hp'.1]) (by rw [e1, e2]) e
  have B : ∀ k, k < 6 → cnt (fun i => (κ i == k) && fl i) 500 ≤ rx (tN E) k0 k := fun k hk => by
    by_cases e0 : k = k0
    · rw [rx, if_pos e0]
      have : cnt (fun i => (κ i == k) && fl i) 500 = cnt (fun _ => false) 500 := cnt_congr 500 (fun i hi => by
        cases hz : fl i with
        | false => simp
        | true =>
          have := ((hfl i).mp hz).1
          have ne : (κ i == k) = false := beq_eq_false_iff_ne.mpr (by rw [e0]; exact this)
          rw [ne]; rfl)
      rw [this]
      have z0 : ∀ m, cnt (fun _ => false) m = 0 := fun m => by
        induction m with
        | zero => rfl
        | succ m ih => rw [cnt, ih]; rfl
      rw [z0]
      exact Nat.le_refl _
    · rw [rx, if_neg e0]
      obtain ⟨M, hM, hb⟩ := mask_ex (fun j => decide (tN E k < tN E j))
      have hbit : bits M k0 = rk (tN E) k0 k := cnt_congr 6 (fun j hj => by rw [hb j hj])
      rw [← hbit]
      have hk2 : M.testBit k = false := by rw [hb k hk]; exact decide_eq_false (Nat.lt_irrefl _)
      refine Nat.le_trans ?_ (tab_5 k hk k0 hk0 e0 M hM hk2)
      rw [← cnt_list k M tA (tD.getD k0 []) (by rcases (show k0 = 0 ∨ k0 = 1 ∨ k0 = 2 ∨ k0 = 3 ∨ k0 = 4 ∨ k0 = 5 by omega) with rfl | rfl | rfl | rfl | rfl | rfl <;> rfl)]
      refine pig (N := 203) (f := q) 500 (fun x => (tA.getD x 0).testBit k && !((tD.getD k0 []).getD x 0 &&& M == 0)) (fun i hi hp => ?_) (fun i j hi hj hp hp' e => ?_)
      · rw [Bool.and_eq_true, beq_iff_eq] at hp
        obtain ⟨ne, _, y, hy, yk, y0, yt⟩ := (hfl i).mp hp.2
        refine ⟨q203 i, ?_⟩
        have a1 : (tA.getD (q i) 0).testBit k = true := by rw [← hp.1]; exact alone i hi
        have a2 : (dfT k0 (q i)).testBit y = true := tab_3 k0 hk0 (q i) (q203 i) y hy (by
          rw [← qrow i y hy, ← qrow i k0 hk0]
          exact fun z => y0 ((oth i hi y k0 hy hk0 yk (fun u => ne u.symm)).2.mp z))
        have a3 : M.testBit y = true := by rw [hb y hy]; exact decide_eq_true (by rw [← hp.1]; exact yt)
        have a4 : ¬ (tD.getD k0 []).getD (q i) 0 &&& M = 0 := fun z => by
          have t := Nat.testBit_and ((tD.getD k0 []).getD (q i) 0) M y
          rw [z, a3, show ((tD.getD k0 []).getD (q i) 0).testBit y = true from a2] at t
          simp at t
        rw [a1, beq_eq_false_iff_ne.mpr a4]
        rfl
      · rw [Bool.and_eq_true, beq_iff_eq] at hp hp'
        exact inj i j hi hj (by rw [hp.1, hp'.1]) (by rw [hp.2, hp'.2]) e
  have S := cnt_six (κ := κ) 500 (fun i hi => (hs i hi).1)
  have X := rx_sum (tN E) k0 hk0
  have s0 := cnt_split (fun i => κ i == 0) fl 500
  have s1 := cnt_split (fun i => κ i == 1) fl 500
  have s2 := cnt_split (fun i => κ i == 2) fl 500
  have s3 := cnt_split (fun i => κ i == 3) fl 500
  have s4 := cnt_split (fun i => κ i == 4) fl 500
  have s5 := cnt_split (fun i => κ i == 5) fl 500
  have A0 := A 0 (by omega)
  have A1 := A 1 (by omega)
  have A2 := A 2 (by omega)
  have A3 := A 3 (by omega)
  have A4 := A 4 (by omega)
  have A5 := A 5 (by omega)
  have B0 := B 0 (by omega)
  have B1 := B 1 (by omega)
  have B2 := B 2 (by omega)
  have B3 := B 3 (by omega)
  have B4 := B 4 (by omega)
  have B5 := B 5 (by omega)
  omega
theorem noLong_all {E : Ec} {n : Nat} (hE : EOK E) (hn : eN E = n) : noLong E n := by
  by_cases h : n ≤ 5
  · exact noLong_5 h
  · have := hE.1
    obtain rfl : n = 6 := by omega
    exact noLong_6 hE hn
