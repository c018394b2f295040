/-! k0 loses by a land's coming only where the wall that it leaves rises -/
def tN (E : Ec) (l : Nat) : Nat := (eT E l).toNatClampNeg
theorem tN_eq {E : Ec} {l : Nat} (hE : EOK E) (hl : l < eN E) : eT E l = nI (tN E l) ∧ tN E l ≤ 60 := by
  obtain ⟨a, e1, a1, a2⟩ := (hE.2.1 l hl).2.2.2
  rw [tN, e1, nI_clamp (by omega)]
  exact ⟨rfl, a2⟩
/-- j stays behind in the union that k leaves -/
def Lft (n : Nat) (r r' : Nat → Int32) (k j : Nat) : Prop := r k = r j ∧ ¬ r' k = r' j ∧ ∀ i, i < n → ¬ i = k → (r i = r j ↔ r' i = r' j)
theorem lft_mn {T : Nat → Int32} {t : Nat → Nat} {r r' : Nat → Int32} {n k j : Nat} (hT : ∀ i, i < n → T i = nI (t i) ∧ t i ≤ 60) (hj : j < n) (h : Lft n r r' k j) (hle : t j ≤ t k) : ∀ l, l ≤ n → mnF T r j (T j) l = mnF T r' j (T j) l ∧ ∃ x, mnF T r j (T j) l = nI x ∧ x ≤ t j := by
  intro l
  induction l with
  | zero => intro _; exact ⟨rfl, t j, (hT j hj).1, Nat.le_refl _⟩
  | succ l ih =>
    intro hl
    obtain ⟨e, x, ex, hx⟩ := ih (by omega)
    have hb := (hT j hj).2
    have tl := hT l (by omega)
    rw [mnF, mnF, ← e, ex]
    by_cases q : l = k
    · subst q
      rw [if_pos h.1, if_neg h.2.1, if_pos (by rw [tl.1]; exact nI_le (by omega) (by omega))]
      exact ⟨rfl, x, rfl, hx⟩
    · by_cases z : r l = r j
      · rw [if_pos z, if_pos ((h.2.2 l (by omega) q).mp z)]
        refine ⟨rfl, ?_⟩
        by_cases y : nI x ≤ T l
        · rw [if_pos y]; exact ⟨x, rfl, hx⟩
        · rw [if_neg y]
          rw [tl.1] at y
          refine ⟨t l, tl.1, ?_⟩
          have : ¬ x ≤ t l := fun u => y (nI_le u (by omega))
          omega
      · rw [if_neg z, if_neg (fun y => z ((h.2.2 l (by omega) q).mpr y))]
        exact ⟨rfl, x, rfl, hx⟩
theorem lft_mx {T : Nat → Int32} {t : Nat → Nat} {r r' : Nat → Int32} {n k j : Nat} (hT : ∀ i, i < n → T i = nI (t i) ∧ t i ≤ 60) (hj : j < n) (h : Lft n r r' k j) : ∀ l, l ≤ n → ∃ x x', mxF T r j (T j) l = nI x ∧ mxF T r' j (T j) l = nI x' ∧ x' ≤ x ∧ x ≤ 60 := by
  have key : ∀ a b : Nat, a ≤ 60 → b ≤ 60 → (if nI b ≤ nI a then nI a else nI b) = nI (max a b) := by
    intro a b ha hb
    by_cases q : b ≤ a
    · rw [if_pos (nI_le q (by omega)), Nat.max_eq_left q]
    · rw [if_neg (nI_ge (by omega) (by omega)), Nat.max_eq_right (by omega)]
  intro l
  induction l with
  | zero => intro _; exact ⟨t j, t j, (hT j hj).1, (hT j hj).1, Nat.le_refl _, (hT j hj).2⟩
  | succ l ih =>
    intro hl
    obtain ⟨x, x', ex, ex', hx, hx2⟩ := ih (by omega)
    have tl := hT l (by omega)
    rw [mxF, mxF, ex, ex', tl.1, key x _ hx2 tl.2, key x' _ (by omega) tl.2]
    by_cases q : l = k
    · subst q
      rw [if_pos h.1, if_neg h.2.1]
      exact ⟨_, _, rfl, rfl, by omega, by omega⟩
    · by_cases z : r l = r j
      · rw [if_pos z, if_pos ((h.2.2 l (by omega) q).mp z)]
        exact ⟨_, _, rfl, rfl, by omega, by omega⟩
      · rw [if_neg z, if_neg (fun y => z ((h.2.2 l (by omega) q).mpr y))]
        exact ⟨_, _, rfl, rfl, hx, hx2⟩
theorem lft_sm {T : Nat → Int32} {t : Nat → Nat} {r r' : Nat → Int32} {n k j : Nat} (hT : ∀ i, i < n → T i = nI (t i) ∧ t i ≤ 60) (h : Lft n r r' k j) (hle : ∀ i, i < n → r i = r j → t i ≤ t k) : ∀ l, l ≤ n → ∃ s s', smF T r (r j) l = nI s ∧ smF T r' (r' j) l = nI s' ∧ s = s' + (if k < l then t k else 0) ∧ ctF r (r j) l = ctF r' (r' j) l + (if k < l then 1 else 0) ∧ s' ≤ ctF r' (r' j) l * t k := by
  intro l
  induction l with
  | zero => intro _; exact ⟨0, 0, rfl, rfl, by simp, by simp [ctF], by simp⟩
  | succ l ih =>
    intro hl
    obtain ⟨s, s', e1, e2, e3, e4, e5⟩ := ih (by omega)
    have tl := hT l (by omega)
    rw [smF, smF, ctF, ctF, e1, e2, tl.1]
    by_cases q : l = k
    · subst q
      rw [if_pos h.1, if_neg h.2.1, if_pos h.1, if_neg h.2.1]
      rw [if_neg (Nat.lt_irrefl _)] at e3 e4
      exact ⟨s + t l, s', nI_add _ _, rfl, by rw [if_pos (by omega)]; omega, by rw [if_pos (by omega)]; omega, e5⟩
    · have ek : (if k < l + 1 then t k else 0) = (if k < l then t k else 0) := by
        by_cases y : k < l
        · rw [if_pos y, if_pos (by omega)]
        · rw [if_neg y, if_neg (by omega)]
      have ec : (if k < l + 1 then 1 else 0) = (if k < l then 1 else 0) := by
        by_cases y : k < l
        · rw [if_pos y, if_pos (by omega)]
        · rw [if_neg y, if_neg (by omega)]
      rw [ek, ec]
      by_cases z : r l = r j
      · have z' := (h.2.2 l (by omega) q).mp z
        rw [if_pos z, if_pos z', if_pos z, if_pos z']
        have := hle l (by omega) z
        exact ⟨s + t l, s' + t l, nI_add _ _, nI_add _ _, by omega, by omega, by rw [Nat.add_mul, Nat.one_mul]; omega⟩
      · have z' : ¬ r' l = r' j := fun y => z ((h.2.2 l (by omega) q).mpr y)
        rw [if_neg z, if_neg z', if_neg z, if_neg z']
        exact ⟨s, s', rfl, rfl, e3, e4, e5⟩
theorem lft_wall {E : Ec} {r r' : Nat → Int32} {k j : Nat} (hE : EOK E) (hk : k < eN E) (hj : j < eN E) (h : Lft (eN E) r r' k j) (hle : ∀ i, i < eN E → r i = r j → tN E i ≤ tN E k) : ∃ w w', wallS E r j = nI w ∧ wallS E r' j = nI w' ∧ w' ≤ w ∧ w ≤ 60 := by
  have hT : ∀ i, i < eN E → eT E i = nI (tN E i) ∧ tN E i ≤ 60 := fun i hi => tN_eq hE hi
  have hn := hE.1
  rw [wallS, wallS]
  by_cases q0 : eWa E = 0
  · rw [if_pos q0, if_pos q0]
    obtain ⟨e, x, ex, hx⟩ := lft_mn hT hj h (hle j hj rfl) (eN E) (Nat.le_refl _)
    have := (hT j hj).2
    exact ⟨x, x, ex, by rw [← e]; exact ex, Nat.le_refl _, by omega⟩
  · rw [if_neg q0, if_neg q0]
    by_cases q1 : eWa E = 1
    · rw [if_pos q1, if_pos q1]
      exact lft_mx hT hj h (eN E) (Nat.le_refl _)
    · rw [if_neg q1, if_neg q1]
      obtain ⟨s, s', e1, e2, e3, e4, e5⟩ := lft_sm hT h hle (eN E) (Nat.le_refl _)
      rw [if_pos hk] at e3 e4
      have c1 := ctF_pos (r := r') (k := j) rfl (eN E) hj
      have c2 := ctF_le r' (r' j) (eN E)
      have tk := (hT k hk).2
      obtain ⟨C, hC⟩ : ∃ C, C = ctF r' (r' j) (eN E) := ⟨_, rfl⟩
      rw [← hC] at e4 e5 c1 c2
      have hs' : s' ≤ 6 * 60 := Nat.le_trans e5 (Nat.mul_le_mul (by omega) tk)
      refine ⟨s / (C + 1), s' / C, by rw [e1, e4, pk_div (by omega) (by omega) (by omega)], by rw [e2, ← hC, pk_div (by omega) (by omega) (by omega)], ?_, ?_⟩
      · rw [Nat.le_div_iff_mul_le (by omega), Nat.mul_add, Nat.mul_one]
        have a1 : s' / C * C ≤ s' := Nat.div_mul_le_self _ _
        have a2 : s' / C ≤ tN E k := by
          apply Nat.le_of_lt_succ
          rw [Nat.div_lt_iff_lt_mul (by omega), Nat.succ_mul]
          rw [Nat.mul_comm] at e5
          omega
        omega
      · apply Nat.le_of_lt_succ
        rw [Nat.div_lt_iff_lt_mul (by omega)]
        have : C * tN E k ≤ C * 60 := Nat.mul_le_mul (Nat.le_refl _) tk
        omega
theorem bS_N {E : Ec} {r : Nat → Int32} {j p : Nat} (hE : EOK E) (hj : j < eN E) (hp : pS E r j = nI p) (hp2 : p ≤ 179) : bS E r j = nI ((eW E j).toNatClampNeg - p) ∧ (eW E j).toNatClampNeg ≤ 99 := by
  obtain ⟨a, e1, a1, a2⟩ := (hE.2.1 j hj).1
  have hp : priS E r j (wallS E r j) = nI p := hp
  rw [e1, nI_clamp (by omega), bS, bouS, hp, e1]
  refine ⟨?_, a2⟩
  by_cases q : a ≤ p
  · rw [if_pos (nI_le q (by omega)), show a - p = 0 by omega, nI_0]
  · rw [if_neg (nI_ge (by omega) (by omega)), nI_subk (by omega)]
theorem aN_le {E : Ec} {r : Nat → Int32} {k w l : Nat} (hE : EOK E) (hl : l < eN E) (hw : w ≤ 60) : aN E r k w l ≤ 179 := by
  have := (pN_eq hE hl).2
  rw [aN]; split <;> omega
/-- k goes from another union to k0's -/
def Cme (n : Nat) (r r' : Nat → Int32) (k k0 : Nat) : Prop := ¬ r k = r k0 ∧ r' k = r' k0 ∧ ∀ i j, i < n → j < n → ¬ i = k → ¬ j = k → (r i = r j ↔ r' i = r' j)
theorem sell_more {E : Ec} {r r' : Nat → Int32} {k k0 l : Nat} (hE : EOK E) (hk : k < eN E) (h0 : Fst (eN E) (pN E) k0) (hne : ¬ k = k0) (hC : Cme (eN E) r r' k k0) (hle : ∀ i, i < eN E → r i = r k → tN E i ≤ tN E k) (hl : l < eN E) (hs : sS E r l = k0) : sS E r' l = k0 ∧ ∃ b b', bS E r l = nI b ∧ bS E r' l = nI b' ∧ b ≤ b' ∧ b' ≤ 99 := by
  obtain ⟨c1, c2, c3⟩ := hC
  obtain ⟨w, hw, _, hw2⟩ := wall_bd (r := r) hE hl
  obtain ⟨hf, hp⟩ := sS_fst hE hl hw hw2
  have hpl := aN_le (r := r) (k := l) (l := sS E r l) hE hf.1 hw2
  obtain ⟨hb, hW⟩ := bS_N hE hl hp hpl
  have p0 := h0.2.1 (sS E r l) hf.1
  have plo : pN E (sS E r l) ≤ aN E r l w (sS E r l) := by rw [aN]; split <;> omega
  by_cases q : l = k
  · subst q
    obtain ⟨s1, s2⟩ := sell_in (r := r') hE hl h0 c2.symm
    obtain ⟨hb', _⟩ := bS_N hE hl s2 (by have := (pN_eq hE h0.1).2; omega)
    exact ⟨s1, _, _, hb, hb', by omega, by omega⟩
  · by_cases z : r l = r k0
    · have z' : r' l = r' k0 := (c3 l k0 hl h0.1 q (fun y => hne y.symm)).mp z
      obtain ⟨s1, s2⟩ := sell_in (r := r') hE hl h0 z'.symm
      obtain ⟨hb', _⟩ := bS_N hE hl s2 (by have := (pN_eq hE h0.1).2; omega)
      exact ⟨s1, _, _, hb, hb', by omega, by omega⟩
    · have z' : ¬ r' l = r' k0 := fun y => z ((c3 l k0 hl h0.1 q (fun y => hne y.symm)).mpr y)
      by_cases y : r k = r l
      · have hL : Lft (eN E) r r' k l := ⟨y, by rw [c2]; exact fun u => z' u.symm, fun i hi hik => c3 i l hi hl hik q⟩
        obtain ⟨v, v', hv, hv', hvv, hv60⟩ := lft_wall hE hk hl hL (fun i hi e => hle i hi (by rw [e, y]))
        have ev : v = w := nI_inj (by omega) (by omega) (hv.symm.trans hw)
        subst ev
        obtain ⟨hf', hp'⟩ := sS_fst hE hl hv' (by omega)
        have a0 : aN E r l v k0 = pN E k0 + v := if_neg (fun u => z u.symm)
        have a0' : aN E r' l v' k0 = pN E k0 + v' := if_neg (fun u => z' u.symm)
        rw [hs] at hf hp
        have s1 : sS E r' l = k0 := by
          refine Fst.uniq hf' ⟨h0.1, fun i hi => ?_, fun i hi => ?_⟩
          · rw [a0']
            have m1 := hf.2.1 i hi
            have m2 := h0.2.1 i hi
            rw [a0] at m1
            rw [aN]
            by_cases u : r' i = r' l
            · rw [if_pos u]
              have ik : ¬ i = k := fun x => hL.2.1 (by rw [← x]; exact u)
              rw [aN, if_pos ((hL.2.2 i hi ik).mpr u)] at m1
              omega
            · rw [if_neg u]; omega
          · rw [a0']
            have hi2 : i < eN E := by have := h0.1; omega
            have m1 := hf.2.2 i hi
            have m2 := h0.2.2 i hi
            rw [a0] at m1
            rw [aN]
            by_cases u : r' i = r' l
            · rw [if_pos u]
              have ik : ¬ i = k := fun x => hL.2.1 (by rw [← x]; exact u)
              rw [aN, if_pos ((hL.2.2 i hi2 ik).mpr u)] at m1
              omega
            · rw [if_neg u]; omega
        rw [s1] at hp'
        obtain ⟨hb', _⟩ := bS_N hE hl hp' (aN_le hE h0.1 (by omega))
        rw [hs] at hb
        refine ⟨s1, _, _, hb, hb', ?_, by omega⟩
        rw [a0, a0']
        omega
      · have hB : Blk (eN E) r r' l := fun i hi => by
          by_cases ik : i = k
          · subst ik
            exact ⟨fun u => absurd u y, fun u => absurd (by rw [← c2]; exact u.symm) z'⟩
          · exact c3 i l hi hl ik q
        rw [← sS_b hB, ← bS_b hB]
        exact ⟨hs, _, _, hb, hb, Nat.le_refl _, by omega⟩
theorem smF_0 {T r : Nat → Int32} {u : Int32} {n : Nat} (h : ∀ l, l < n → r l = u → T l = 0) : ∀ l, l ≤ n → smF T r u l = 0 := by
  intro l
  induction l with
  | zero => intro _; rfl
  | succ l ih =>
    intro hl
    rw [smF, ih (by omega)]
    split
    · rename_i q; rw [h l (by omega) q]; rfl
    · rfl
theorem lfF_0 {r : Nat → Int32} {u : Int32} : ∀ l, lfF r u 0 l = 0 := by
  intro l
  induction l with
  | zero => rfl
  | succ l ih => rw [lfF, ih, if_pos (Int32.le_refl _)]
theorem tak_0 {E : Ec} {r : Nat → Int32} {k0 : Nat} (hE : EOK E) (h0 : Fst (eN E) (pN E) k0) : takS E r k0 = 0 := by
  have ht : ∀ l, l < eN E → r l = r k0 → tkO E r l = 0 := fun l hl e => by
    rw [tkO, (sell_in hE hl h0 e.symm).1, if_pos e.symm]
  rw [takS, ht k0 h0.1 rfl]
  split
  · rfl
  · have s0 : smF (tkO E r) r (r k0) (eN E) = 0 := smF_0 ht _ (Nat.le_refl _)
    obtain ⟨y, h3, h4, h5⟩ := smF_bd (r := r) (u := r k0) (fun l hl => hE.wt hl) (eN E) (Nat.le_refl _)
    have h6 := ctF_pos (r := r) (k := k0) rfl (eN E) h0.1
    have hn := hE.1
    have q0 : ∀ l, l < eN E → r l = r k0 → shQ E (tkO E r) r (r k0) l = 0 := fun l hl e => by
      rw [shQ, s0, Int32.zero_mul, h3, show (0 : Int32) = nI 0 by decide, pk_div (by omega) (by omega) (by omega), Nat.zero_div]
    have a0 : shA E (tkO E r) r (r k0) = 0 := by rw [shA, s0, smF_0 q0 _ (Nat.le_refl _)]; rfl
    rw [shO, if_pos rfl, a0, lfF_0, if_pos (Int32.le_refl _)]
    exact q0 k0 h0.1 rfl
/-- k0's good does not fall where k, the land of greatest toll in the union that it leaves, comes -/
theorem k0_more {E : Ec} {r r' : Nat → Int32} {k k0 : Nat} (hE : EOK E) (hk : k < eN E) (h0 : Fst (eN E) (pN E) k0) (hne : ¬ k = k0) (hC : Cme (eN E) r r' k k0) (hle : ∀ i, i < eN E → r i = r k → tN E i ≤ tN E k) : goodS E r k0 ≤ goodS E r' k0 := by
  have hn := hE.1
  obtain ⟨g, eg, _, g2⟩ := (hE.2.1 k0 h0.1).2.2.1
  have step : ∀ l, l ≤ eN E → ∃ z z', gdF E r k0 l = nI z ∧ gdF E r' k0 l = nI z' ∧ z ≤ z' ∧ z' ≤ 7300000 + 3960 * l := by
    intro l
    induction l with
    | zero =>
      intro _
      obtain ⟨z, e, _, z2⟩ := gdF_bd (r := r) hE h0.1 0 (by omega)
      obtain ⟨s1, s2⟩ := sell_in (r := r) (k := k0) hE h0.1 h0 rfl
      obtain ⟨s3, s4⟩ := sell_in (r := r') (k := k0) hE h0.1 h0 rfl
      have p9 : pN E k0 ≤ 179 := by have := (pN_eq hE h0.1).2; omega
      refine ⟨z, z, e, ?_, Nat.le_refl _, by omega⟩
      rw [← e, gdF, gdF, tak_0 hE h0, tak_0 hE h0, (bS_N hE h0.1 s2 p9).1, (bS_N hE h0.1 s4 p9).1]
    | succ l ih =>
      intro hl
      obtain ⟨z, z', e, e', hz, hz2⟩ := ih (by omega)
      rw [gdF, gdF, e, e', eg]
      by_cases q : sS E r l = k0
      · obtain ⟨q', b, b', hb, hb', hbb, hb9⟩ := sell_more hE hk h0 hne hC hle (show l < eN E by omega) q
        rw [if_pos q, if_pos q', hb, hb', show (2 : Int32) = nI 2 by decide, nI_mul, nI_mul, nI_mul, nI_add, nI_add]
        have m1 : 2 * g * b ≤ 2 * g * b' := Nat.mul_le_mul (Nat.le_refl _) hbb
        have m2 := Nat.mul_le_mul (show 2 * g ≤ 40 by omega) hb9
        exact ⟨_, _, rfl, rfl, by omega, by omega⟩
      · rw [if_neg q]
        by_cases q' : sS E r' l = k0
        · obtain ⟨b', hb', _, hb9⟩ := bS_bd (r := r') hE (show l < eN E by omega)
          rw [if_pos q', hb', show (2 : Int32) = nI 2 by decide, nI_mul, nI_mul, nI_add]
          have m2 := Nat.mul_le_mul (show 2 * g ≤ 40 by omega) hb9
          exact ⟨_, _, rfl, rfl, by omega, by omega⟩
        · rw [if_neg q']
          exact ⟨_, _, rfl, rfl, hz, by omega⟩
  obtain ⟨z, z', e, e', hz, hz2⟩ := step (eN E) (Nat.le_refl _)
  rw [goodS, goodS, e, e']
  exact nI_le hz (by omega)
