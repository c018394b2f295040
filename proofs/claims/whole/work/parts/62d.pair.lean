/-! two goings of one land, past the same union-making of the others -/
def SQ (n : Nat) (c1 c2 : Nat → Nat) (k : Nat) : Prop := ∀ a b, a < n → b < n → ¬ a = k → ¬ b = k → (c1 a = c1 b ↔ c2 a = c2 b)
theorem SQ.symm {n k : Nat} {c1 c2 : Nat → Nat} (h : SQ n c1 c2 k) : SQ n c2 c1 k := fun a b ha hb x y => (h a b ha hb x y).symm
theorem first_ex (c : Nat → Nat) : ∀ a, ∃ f, f ≤ a ∧ c f = c a ∧ ∀ j, j < f → ¬ c j = c a := by
  intro a
  have key : ∀ m x, x ≤ a → c x = c a → x < m → ∃ f, f ≤ a ∧ c f = c a ∧ ∀ j, j < f → ¬ c j = c a := by
    intro m
    induction m with
    | zero => intro x _ _ h; omega
    | succ m ih =>
      intro x hx hc hm
      by_cases q : ∃ j, j < x ∧ c j = c a
      · obtain ⟨j, h1, h2⟩ := q
        exact ih j (by omega) h2 (by omega)
      · exact ⟨x, hx, hc, fun j hj e => q ⟨j, hj, e⟩⟩
  exact key (a + 1) a (Nat.le_refl _) rfl (by omega)
theorem can_first {n fa fb : Nat} {c : Nat → Nat} (hc : Can n c) (hb : fb < n) (ha : ∀ j, j < fa → ¬ c j = c fa) (h : c fa < c fb) : fa < fb := by
  rcases Nat.lt_or_ge fa fb with q | q
  · exact q
  · have h1 := hc fb hb
    obtain ⟨j, j1, j2⟩ := mx_hit hc fb (by omega) (c fa) (by omega)
    exact absurd j2 (ha j (by omega))
theorem ord_same {n k a b : Nat} {c1 c2 : Nat → Nat} (h1 : Can n c1) (h2 : Can n c2) (hq : SQ n c1 c2 k) (ha : a < n) (hb : b < n) (ka : ¬ a = k) (kb : ¬ b = k) (a1 : ¬ c1 k = c1 a) (b1 : ¬ c1 k = c1 b) (a2 : ¬ c2 k = c2 a) (b2 : ¬ c2 k = c2 b) (hlt : c1 a < c1 b) : c2 a < c2 b := by
  have blk : ∀ x, x < n → ¬ x = k → ¬ c1 k = c1 x → ¬ c2 k = c2 x → ∀ j, j < n → (c1 j = c1 x ↔ c2 j = c2 x) := fun x hx kx x1 x2 j hj => by
    by_cases e : j = k
    · subst e; exact ⟨fun q => absurd q x1, fun q => absurd q x2⟩
    · exact hq j x hj hx e kx
  obtain ⟨fa, f1, f2, f3⟩ := first_ex c1 a
  obtain ⟨fb, g1, g2, g3⟩ := first_ex c1 b
  have hf : fa < fb := can_first h1 (by omega) (fun j hj => by rw [f2]; exact f3 j hj) (by rw [f2, g2]; exact hlt)
  rcases Nat.lt_trichotomy (c2 a) (c2 b) with q | q | q
  · exact q
  · have := (hq a b ha hb ka kb).mpr q; omega
  · have ea := (blk a ha ka a1 a2 fa (by omega)).mp f2
    have eb := (blk b hb kb b1 b2 fb (by omega)).mp g2
    have := can_first (fa := fb) (fb := fa) h2 (by omega) (fun j hj e => g3 j hj ((blk b hb kb b1 b2 j (by omega)).mpr (by rw [← eb]; exact e))) (by rw [ea, eb]; exact q)
    omega
theorem pat_upd {n k : Nat} {r1 r2 : Nat → Int32} {x y : Int32} (h1 : ∀ i j, i < n → j < n → ¬ i = k → ¬ j = k → (r1 i = r1 j ↔ r2 i = r2 j)) (h2 : ∀ j, j < n → ¬ j = k → (r1 j = x ↔ r2 j = y)) : Pat n (upd r1 k x) (upd r2 k y) := by
  intro i j hi hj
  by_cases ei : i = k
  · subst ei
    by_cases ej : j = i
    · subst ej; simp
    · rw [upd_eq, upd_eq, upd_ne ej, upd_ne ej]
      exact ⟨fun q => ((h2 j hj ej).mp q.symm).symm, fun q => ((h2 j hj ej).mpr q.symm).symm⟩
  · by_cases ej : j = k
    · subst ej
      rw [upd_eq, upd_eq, upd_ne ei, upd_ne ei]
      exact h2 i hi ei
    · rw [upd_ne ei, upd_ne ei, upd_ne ej, upd_ne ej]
      exact h1 i j hi hj ei ej
section PAIR
variable {E : Ec} {n k k0 : Nat} {c1 c2 : Nat → Nat}
theorem lab_iff {c : Nat → Nat} (hn : n ≤ 6) (hc : Can n c) {a b : Nat} (ha : a < n) (hb : b < n) : lab c a = lab c b ↔ c a = c b := nI_eq (by have := hc.le ha; omega) (by have := hc.le hb; omega)
theorem SQ.lab (hn : n ≤ 6) (h1 : Can n c1) (h2 : Can n c2) (hq : SQ n c1 c2 k) : ∀ i j, i < n → j < n → ¬ i = k → ¬ j = k → (lab c1 i = lab c1 j ↔ lab c2 i = lab c2 j) := fun i j hi hj a b => (lab_iff hn h1 hi hj).trans ((hq i j hi hj a b).trans (lab_iff hn h2 hi hj).symm)
theorem lbl_lab {c : Nat → Nat} {a o : Nat} (h : ¬ o = 0) (e : c a = o - 1) : lbl o = lab c a := by rw [lbl, if_neg h]; show nI (o - 1) = nI (c a); rw [e]
/-- the place o2 of c2, seen from c1 -/
theorem img (hn : n ≤ 6) (h1 : Can n c1) (h2 : Can n c2) (hq : SQ n c1 c2 k) {o2 : Nat} (ho : o2 ≤ mx c2 n) (hc : cand E (lab c2) k o2) : (∃ o, o ≤ mx c1 n ∧ Pat n (upd (lab c1) k (lbl o)) (upd (lab c2) k (lbl o2)) ∧ ((o = 0 ∧ o2 = 0) ∨ (¬ o = 0 ∧ ¬ o2 = 0 ∧ ∃ a, a < n ∧ ¬ a = k ∧ c1 a = o - 1 ∧ c2 a = o2 - 1 ∧ ¬ c1 k = c1 a))) ∨ Pat n (lab c1) (upd (lab c2) k (lbl o2)) := by
  by_cases z : o2 = 0
  · subst z
    refine Or.inl ⟨0, Nat.zero_le _, pat_upd (hq.lab hn h1 h2) (fun j hj hk => ?_), Or.inl ⟨rfl, rfl⟩⟩
    exact ⟨fun q => absurd q (nI_m1 (by have := h1.le hj; omega)), fun q => absurd q (nI_m1 (by have := h2.le hj; omega))⟩
  · obtain ⟨a, ha, ea⟩ := mx_hit h2 n (Nat.le_refl _) (o2 - 1) (by omega)
    have el := lbl_lab z ea
    have hk2 : ¬ lab c2 k = lab c2 a := fun q => by
      rcases hc with y | y
      · exact z y
      · exact y.2 (by rw [el]; exact q)
    have ka : ¬ a = k := fun q => hk2 (by rw [q])
    by_cases own : c1 k = c1 a
    · refine Or.inr (Pat.trans (r' := upd (lab c1) k (lab c1 k)) (Pat.of_eq (fun j hj => ?_)) (pat_upd (hq.lab hn h1 h2) (fun j hj hk => ?_)))
      · by_cases e : j = k
        · subst e; rw [upd_eq]
        · rw [upd_ne e]
      · rw [el, show lab c1 k = lab c1 a by show nI (c1 k) = nI (c1 a); rw [own]]
        exact hq.lab hn h1 h2 j a hj ha hk ka
    · have el1 : lbl (c1 a + 1) = lab c1 a := lbl_lab (by omega) (by omega)
      refine Or.inl ⟨c1 a + 1, mx_lt ha, pat_upd (hq.lab hn h1 h2) (fun j hj hk => ?_), Or.inr ⟨by omega, z, a, ha, ka, by omega, ea, own⟩⟩
      rw [el, el1]
      exact hq.lab hn h1 h2 j a hj ha hk ka
/-- who admits k there admits it here, unless it is k0, who may lose -/
theorem adm (hE : EOK E) (hn : eN E = n) (h0 : Fst n (pN E) k0) (hk : k < n) (h1 : Can n c1) (h2 : Can n c2) (hq : SQ n c1 c2 k) {o o2 a : Nat} (hc : cand E (lab c2) k o2) (z : ¬ o = 0) (z2 : ¬ o2 = 0) (ha : a < n) (ka : ¬ a = k) (e1 : c1 a = o - 1) (e2 : c2 a = o2 - 1) (own : ¬ c1 k = c1 a) (hp : Pat n (upd (lab c1) k (lbl o)) (upd (lab c2) k (lbl o2))) (ht : k = k0 ∨ ¬ c1 k0 = c1 a ∨ ∀ i, i < n → c1 i = c1 k → tN E i ≤ tN E k) : cand E (lab c1) k o := by
  subst hn
  have hn6 := hE.1
  have l1 := lbl_lab z e1
  have l2 := lbl_lab z2 e2
  have hc2 := hc.resolve_left z2
  have nk1 : ¬ lab c1 k = lab c1 a := fun q => own ((lab_iff hn6 h1 hk ha).mp q)
  have nk2 : ¬ lab c2 k = lab c2 a := by rw [← l2]; exact hc2.2
  refine Or.inr ⟨fun l hl el => ?_, by rw [l1]; exact nk1⟩
  rw [l1] at el
  have lk : ¬ l = k := fun q => nk1 (by rw [← q]; exact el)
  have el2 : lab c2 l = lab c2 a := (hq.lab hn6 h1 h2 l a hl ha lk ka).mp el
  by_cases e0 : l = k0 ∧ ¬ k = k0
  · obtain ⟨e0, kn⟩ := e0
    subst e0
    rcases ht with y | y | y
    · exact absurd y kn
    · exact absurd ((lab_iff hn6 h1 hl ha).mp el) y
    · refine k0_more hE hk h0 kn ⟨fun q => nk1 (by rw [q]; exact el), ?_, fun i j hi hj ik jk => ?_⟩ (fun i hi ei => y i hi ((lab_iff hn6 h1 hi hk).mp ei))
      · rw [upd_eq, upd_ne lk, l1, el]
      · rw [upd_ne ik, upd_ne jk]
  · have ln : ¬ l = k0 := fun q => e0 ⟨q, fun u => lk (q.trans u.symm)⟩
    have hB : Blk (eN E) (lab c1) (lab c2) l := fun i hi => by
      by_cases ik : i = k
      · subst ik
        rw [el, el2]
        exact ⟨fun q => absurd q nk1, fun q => absurd q nk2⟩
      · exact hq.lab hn6 h1 h2 i l hi hl ik lk
    rw [good_b hE hl h0 ln hB, goodS_pat (EcEq.refl E) hp hl]
    exact hc2.1 l hl (by rw [l2]; exact el2)
theorem v_pat {r r' : Nat → Int32} (hE : EOK E) (hk : k < eN E) (hp : Pat (eN E) r r') : vN E r k = vN E r' k := by rw [vN, vN, goodS_pat (EcEq.refl E) hp hk]
/-- the other's goal is no better than one's own -/
theorem cross (hE : EOK E) (hn : eN E = n) (h0 : Fst n (pN E) k0) (hk : k < n) (h1 : Can n c1) (h2 : Can n c2) (hq : SQ n c1 c2 k) {o1 o2 : Nat} (b1 : Bst E (lab c1) k (mx c1 n) o1) (b2 : Bst E (lab c2) k (mx c2 n) o2) (ht : k = k0 ∨ (¬ lab c2 k0 = lbl o2) ∨ ∀ i, i < n → c1 i = c1 k → tN E i ≤ tN E k) : vO E (lab c2) k o2 < vO E (lab c1) k o1 ∨ (vO E (lab c2) k o2 ≤ vO E (lab c1) k o1 ∧ ∃ o, o1 ≤ o ∧ Pat n (upd (lab c1) k (lbl o)) (upd (lab c2) k (lbl o2)) ∧ ((o = 0 ∧ o2 = 0) ∨ (¬ o = 0 ∧ ¬ o2 = 0 ∧ ∃ a, a < n ∧ ¬ a = k ∧ c1 a = o - 1 ∧ c2 a = o2 - 1 ∧ ¬ c1 k = c1 a))) := by
  have hn6 : n ≤ 6 := by rw [← hn]; exact hE.1
  rcases img hn6 h1 h2 hq b2.1 b2.2.1 with ⟨o, ho, hp, hz⟩ | hp
  · have ev : vO E (lab c1) k o = vO E (lab c2) k o2 := v_pat hE (by omega) (by rw [hn]; exact hp)
    have hc : cand E (lab c1) k o := by
      rcases hz with ⟨z, _⟩ | ⟨z, z2, a, ha, ka, e1, e2, own⟩
      · exact Or.inl z
      · refine adm hE hn h0 hk h1 h2 hq b2.2.1 z z2 ha ka e1 e2 own hp ?_
        rcases ht with y | y | y
        · exact Or.inl y
        · by_cases kk0 : k = k0
          · exact Or.inl kk0
          · refine Or.inr (Or.inl (fun q => y ?_))
            rw [lbl_lab z2 e2]
            exact (lab_iff hn6 h2 h0.1 ha).mpr ((hq k0 a h0.1 ha (fun u => kk0 u.symm) ka).mp q)
        · exact Or.inr (Or.inr y)
    obtain ⟨m1, m2⟩ := b1.2.2.2 o ho hc
    rw [ev] at m1 m2
    rcases Nat.lt_or_ge o o1 with q | q
    · exact Or.inl (m2 q)
    · exact Or.inr ⟨m1, o, q, hp, hz⟩
  · refine Or.inl ?_
    have ev : vN E (lab c1) k = vO E (lab c2) k o2 := v_pat hE (by omega) (by rw [hn]; exact hp)
    rw [← ev]
    exact b1.2.2.1
theorem same_goal (hE : EOK E) (hn : eN E = n) (h0 : Fst n (pN E) k0) (hk : k < n) (h1 : Can n c1) (h2 : Can n c2) (hq : SQ n c1 c2 k) {o1 o2 : Nat} (b1 : Bst E (lab c1) k (mx c1 n) o1) (b2 : Bst E (lab c2) k (mx c2 n) o2) (ht1 : k = k0 ∨ (¬ lab c2 k0 = lbl o2) ∨ ∀ i, i < n → c1 i = c1 k → tN E i ≤ tN E k) (ht2 : k = k0 ∨ (¬ lab c1 k0 = lbl o1) ∨ ∀ i, i < n → c2 i = c2 k → tN E i ≤ tN E k) : Pat n (upd (lab c1) k (lbl o1)) (upd (lab c2) k (lbl o2)) := by
  have x1 := cross hE hn h0 hk h1 h2 hq b1 b2 ht1
  have x2 := cross hE hn h0 hk h2 h1 hq.symm b2 b1 ht2
  rcases x1 with q1 | ⟨q1, o, ho, hp, hz⟩
  · rcases x2 with q2 | ⟨q2, _⟩ <;> omega
  · rcases x2 with q2 | ⟨q2, o', ho', hp', hz'⟩
    · omega
    · by_cases e : o = o1
      · subst e; exact hp
      · by_cases e' : o' = o2
        · subst e'; exact hp'.symm
        · exfalso
          rcases hz with ⟨z, _⟩ | ⟨z, z2, b, hb, kb, eb1, eb2, ownb⟩
          · omega
          · rcases hz' with ⟨z', _⟩ | ⟨z', z2', a, ha, ka, ea2, ea1, owna⟩
            · omega
            · have hn6 : n ≤ 6 := by rw [← hn]; exact hE.1
              have na : ¬ c1 k = c1 a := fun q => by
                have := (b1.2.1.resolve_left z2').2
                rw [lbl_lab z2' ea1] at this
                exact this ((lab_iff hn6 h1 hk ha).mpr q)
              have nb : ¬ c2 k = c2 b := fun q => by
                have := (b2.2.1.resolve_left z2).2
                rw [lbl_lab z2 eb2] at this
                exact this ((lab_iff hn6 h2 hk hb).mpr q)
              have := ord_same h1 h2 hq ha hb ka kb na ownb owna nb (by omega)
              omega
/-- two goings of k past the same others end alike, or one of them ends with k0, and somebody outside k0's union has a greater toll than k -/
theorem pair (hE : EOK E) (hn : eN E = n) (h0 : Fst n (pN E) k0) (hk : k < n) (h1 : Can n c1) (h2 : Can n c2) (hq : SQ n c1 c2 k) {o1 o2 : Nat} (b1 : Bst E (lab c1) k (mx c1 n) o1) (b2 : Bst E (lab c2) k (mx c2 n) o2) : Pat n (upd (lab c1) k (lbl o1)) (upd (lab c2) k (lbl o2)) ∨ (¬ k = k0 ∧ (lab c1 k0 = lbl o1 ↔ ¬ lab c2 k0 = lbl o2) ∧ ∃ j, j < n ∧ ¬ j = k ∧ ¬ c1 j = c1 k0 ∧ tN E k < tN E j) := by
  have hn6 : n ≤ 6 := by rw [← hn]; exact hE.1
  by_cases kk : k = k0
  · exact Or.inl (same_goal hE hn h0 hk h1 h2 hq b1 b2 (Or.inl kk) (Or.inl kk))
  · have kk' : ¬ k0 = k := fun q => kk q.symm
    have wild : ∀ (x y : Nat → Nat) (o : Nat), Can n x → SQ n x y k → (¬ lab x k0 = lbl o ∨ True) → ¬ (∀ i, i < n → x i = x k → tN E i ≤ tN E k) → ¬ x k = x k0 → ∃ j, j < n ∧ ¬ j = k ∧ ¬ x j = x k0 ∧ tN E k < tN E j := by
      intro x y o hx _ _ hw hne
      refine Classical.byContradiction fun q => hw (fun i hi ei => ?_)
      rcases Nat.lt_or_ge (tN E k) (tN E i) with u | u
      · exact absurd ⟨i, hi, fun v => by rw [v] at u; omega, by rw [ei]; exact hne, u⟩ q
      · exact u
    have home : ∀ (x y : Nat → Nat) (ox oy : Nat), Can n x → Can n y → SQ n x y k → Bst E (lab x) k (mx x n) ox → Bst E (lab y) k (mx y n) oy → lab y k0 = lbl oy → ¬ lab x k0 = lbl ox → x k = x k0 → False := by
      intro x y ox oy hx hy hxy bx by_ ey ex own
      have pr : Pat n (lab x) (upd (lab y) k (lbl oy)) := by
        refine Pat.trans (r' := upd (lab x) k (lab x k)) (Pat.of_eq (fun j hj => ?_)) (pat_upd (hxy.lab hn6 hx hy) (fun j hj hjk => ?_))
        · by_cases e : j = k
          · subst e; rw [upd_eq]
          · rw [upd_ne e]
        · rw [← ey, show lab x k = lab x k0 by show nI (x k) = nI (x k0); rw [own]]
          exact hxy.lab hn6 hx hy j k0 hj h0.1 hjk kk'
      have ev : vN E (lab x) k = vO E (lab y) k oy := v_pat hE (by omega) (by rw [hn]; exact pr)
      have lt := bx.2.2.1
      have c := cross hE hn h0 hk hy hx hxy.symm by_ bx (Or.inr (Or.inl ex))
      rcases c with c | ⟨c, _⟩ <;> omega
    by_cases e1 : lab c1 k0 = lbl o1
    · by_cases e2 : lab c2 k0 = lbl o2
      · refine Or.inl (pat_upd (hq.lab hn6 h1 h2) (fun j hj hjk => ?_))
        rw [← e1, ← e2]
        exact hq.lab hn6 h1 h2 j k0 hj h0.1 hjk kk'
      · by_cases tm : ∀ i, i < n → c2 i = c2 k → tN E i ≤ tN E k
        · exact Or.inl (same_goal hE hn h0 hk h1 h2 hq b1 b2 (Or.inr (Or.inl e2)) (Or.inr (Or.inr tm)))
        · by_cases own : c2 k = c2 k0
          · exact (home c2 c1 o2 o1 h2 h1 hq.symm b2 b1 e1 e2 own).elim
          · obtain ⟨j, hj, jk, j0, jt⟩ := wild c2 c1 o2 h2 hq.symm (Or.inr trivial) tm own
            exact Or.inr ⟨kk, ⟨fun _ => e2, fun _ => e1⟩, j, hj, jk, fun q => j0 ((hq j k0 hj h0.1 jk kk').mp q), jt⟩
    · by_cases e2 : lab c2 k0 = lbl o2
      · by_cases tm : ∀ i, i < n → c1 i = c1 k → tN E i ≤ tN E k
        · exact Or.inl (same_goal hE hn h0 hk h1 h2 hq b1 b2 (Or.inr (Or.inr tm)) (Or.inr (Or.inl e1)))
        · by_cases own : c1 k = c1 k0
          · exact (home c1 c2 o1 o2 h1 h2 hq b1 b2 e2 e1 own).elim
          · obtain ⟨j, hj, jk, j0, jt⟩ := wild c1 c2 o1 h1 hq (Or.inr trivial) tm own
            exact Or.inr ⟨kk, ⟨fun q => absurd q e1, fun q => absurd e2 q⟩, j, hj, jk, j0, jt⟩
      · exact Or.inl (same_goal hE hn h0 hk h1 h2 hq b1 b2 (Or.inr (Or.inl e2)) (Or.inr (Or.inl e1)))
end PAIR
