/-! what a land has of its own union alone -/
def Blk (n : Nat) (r r' : Nat → Int32) (k : Nat) : Prop := ∀ l, l < n → (r l = r k ↔ r' l = r' k)
theorem Blk.symm {n k : Nat} {r r' : Nat → Int32} (h : Blk n r r' k) : Blk n r' r k := fun l hl => (h l hl).symm
theorem Blk.mem {n k j : Nat} {r r' : Nat → Int32} (h : Blk n r r' k) (hj : j < n) (e : r j = r k) : Blk n r r' j := fun l hl => by
  have e' := (h j hj).mp e
  rw [e, e']
  exact h l hl
theorem mnF_b {T r r' : Nat → Int32} {n k : Nat} {a : Int32} (hb : Blk n r r' k) : ∀ l, l ≤ n → mnF T r k a l = mnF T r' k a l := by
  intro l
  induction l with
  | zero => intro _; rfl
  | succ l ih =>
    intro hl
    rw [mnF, mnF, ih (by omega)]
    by_cases e : r l = r k
    · rw [if_pos e, if_pos ((hb l (by omega)).mp e)]
    · rw [if_neg e, if_neg (fun q => e ((hb l (by omega)).mpr q))]
theorem mxF_b {T r r' : Nat → Int32} {n k : Nat} {a : Int32} (hb : Blk n r r' k) : ∀ l, l ≤ n → mxF T r k a l = mxF T r' k a l := by
  intro l
  induction l with
  | zero => intro _; rfl
  | succ l ih =>
    intro hl
    rw [mxF, mxF, ih (by omega)]
    by_cases e : r l = r k
    · rw [if_pos e, if_pos ((hb l (by omega)).mp e)]
    · rw [if_neg e, if_neg (fun q => e ((hb l (by omega)).mpr q))]
theorem smF_b {T T' r r' : Nat → Int32} {n k : Nat} (hT : ∀ l, l < n → r l = r k → T l = T' l) (hb : Blk n r r' k) : ∀ l, l ≤ n → smF T r (r k) l = smF T' r' (r' k) l := by
  intro l
  induction l with
  | zero => intro _; rfl
  | succ l ih =>
    intro hl
    rw [smF, smF, ih (by omega)]
    by_cases e : r l = r k
    · rw [if_pos e, if_pos ((hb l (by omega)).mp e), hT l (by omega) e]
    · rw [if_neg e, if_neg (fun q => e ((hb l (by omega)).mpr q))]
theorem ctF_b {r r' : Nat → Int32} {n k : Nat} (hb : Blk n r r' k) : ∀ l, l ≤ n → ctF r (r k) l = ctF r' (r' k) l := by
  intro l
  induction l with
  | zero => intro _; rfl
  | succ l ih =>
    intro hl
    rw [ctF, ctF, ih (by omega)]
    by_cases e : r l = r k
    · rw [if_pos e, if_pos ((hb l (by omega)).mp e)]
    · rw [if_neg e, if_neg (fun q => e ((hb l (by omega)).mpr q))]
theorem lfF_b {r r' : Nat → Int32} {n k : Nat} {a : Int32} (hb : Blk n r r' k) : ∀ l, l ≤ n → lfF r (r k) a l = lfF r' (r' k) a l := by
  intro l
  induction l with
  | zero => intro _; rfl
  | succ l ih =>
    intro hl
    rw [lfF, lfF, ih (by omega)]
    by_cases e : r l = r k
    · rw [if_pos e, if_pos ((hb l (by omega)).mp e)]
    · rw [if_neg e, if_neg (fun q => e ((hb l (by omega)).mpr q))]
section BLK
variable {E : Ec} {r r' : Nat → Int32} {k : Nat}
theorem wallS_b (hb : Blk (eN E) r r' k) : wallS E r k = wallS E r' k := by
  rw [wallS, wallS, mnF_b hb _ (Nat.le_refl _), mxF_b hb _ (Nat.le_refl _), smF_b (fun _ _ _ => rfl) hb _ (Nat.le_refl _), ctF_b hb _ (Nat.le_refl _)]
theorem askS_b (hb : Blk (eN E) r r' k) {wa : Int32} {l : Nat} (hl : l < eN E) : askS E r k wa l = askS E r' k wa l := by
  rw [askS, askS]
  by_cases e : r l = r k
  · rw [if_pos e, if_pos ((hb l hl).mp e)]
  · rw [if_neg e, if_neg (fun q => e ((hb l hl).mpr q))]
theorem by_b (hb : Blk (eN E) r r' k) : byF (askS E r k (wallS E r k)) k (eN E) = byF (askS E r' k (wallS E r' k)) k (eN E) := by
  rw [wallS_b hb]
  exact byF_congr (fun l hl => askS_b hb hl)
theorem sS_b (hb : Blk (eN E) r r' k) : sS E r k = sS E r' k := by rw [sS, sS, selS, selS, by_b hb]
theorem pS_b (hb : Blk (eN E) r r' k) : pS E r k = pS E r' k := by rw [pS, pS, priS, priS, by_b hb]
theorem bS_b (hb : Blk (eN E) r r' k) : bS E r k = bS E r' k := by
  have h := pS_b hb
  rw [pS, pS] at h
  rw [bS, bS, bouS, bouS, h]
theorem tkO_b (hb : Blk (eN E) r r' k) (hk : k < eN E) : tkO E r k = tkO E r' k := by
  rw [tkO, tkO, ← sS_b hb, wallS_b hb, bS_b hb]
  by_cases e : r (sS E r k) = r k
  · rw [if_pos e, if_pos ((hb _ (sS_lt hk)).mp e)]
  · rw [if_neg e, if_neg (fun q => e ((hb _ (sS_lt hk)).mpr q))]
theorem takS_b (hb : Blk (eN E) r r' k) (hk : k < eN E) : takS E r k = takS E r' k := by
  have ht : ∀ l, l < eN E → r l = r k → tkO E r l = tkO E r' l := fun l hl e => tkO_b (hb.mem hl e) hl
  have e1 : smF (tkO E r) r (r k) (eN E) = smF (tkO E r') r' (r' k) (eN E) := smF_b ht hb _ (Nat.le_refl _)
  have e2 : smF (wtS E) r (r k) (eN E) = smF (wtS E) r' (r' k) (eN E) := smF_b (fun _ _ _ => rfl) hb _ (Nat.le_refl _)
  have e3 : ∀ l, shQ E (tkO E r) r (r k) l = shQ E (tkO E r') r' (r' k) l := fun l => by rw [shQ, shQ, e1, e2]
  have e4 : shA E (tkO E r) r (r k) = shA E (tkO E r') r' (r' k) := by
    rw [shA, shA, e1, smF_b (fun l _ _ => e3 l) hb _ (Nat.le_refl _)]
  rw [takS, takS, tkO_b hb hk, shO, shO, if_pos rfl, if_pos rfl, e4, e3 k, lfF_b hb k (by omega)]
end BLK
/-! who sells -/
def pN (E : Ec) (l : Nat) : Nat := (eC E l).toNatClampNeg + (eG E l).toNatClampNeg
theorem pN_eq {E : Ec} {l : Nat} (hE : EOK E) (hl : l < eN E) : eC E l + eG E l = nI (pN E l) ∧ pN E l ≤ 119 := by
  obtain ⟨a, e1, a1, a2⟩ := (hE.2.1 l hl).2.1
  obtain ⟨b, e2, b1, b2⟩ := (hE.2.1 l hl).2.2.1
  rw [pN, e1, e2, nI_clamp (by omega), nI_clamp (by omega), nI_add]
  exact ⟨rfl, by omega⟩
/-- the first of least value -/
def Fst (n : Nat) (a : Nat → Nat) (s : Nat) : Prop := s < n ∧ (∀ j, j < n → a s ≤ a j) ∧ ∀ j, j < s → a s < a j
theorem Fst.uniq {n s t : Nat} {a : Nat → Nat} (h : Fst n a s) (h' : Fst n a t) : s = t := by
  rcases Nat.lt_trichotomy s t with q | q | q
  · have := h'.2.2 s q; have := h.2.1 t h'.1; omega
  · exact q
  · have := h.2.2 t q; have := h'.2.1 s h.1; omega
theorem by_fst {f : Nat → Int32} {a : Nat → Nat} {k n : Nat} (hf : ∀ l, l < n → f l = nI (a l)) (ha : ∀ l, l < n → a l < 1000) : ∀ l, 0 < l → l ≤ n → Fst l a (byF f k l).1 ∧ (byF f k l).2 = nI (a (byF f k l).1) := by
  intro l
  induction l with
  | zero => intro h; omega
  | succ l ih =>
    intro _ hl
    rw [byF]
    by_cases z : l = 0
    · subst z
      have h0 := ha 0 (by omega)
      rw [if_neg (by show ¬ (1000 : Int32) ≤ f 0; rw [hf 0 (by omega), show (1000 : Int32) = nI 1000 by decide]; exact nI_ge (by omega) (by omega))]
      exact ⟨⟨by omega, fun j hj => Nat.le_of_eq (by rw [show j = 0 by omega]), fun j hj => by omega⟩, hf 0 (by omega)⟩
    · obtain ⟨⟨h1, h2, h3⟩, h4⟩ := ih (by omega) (by omega)
      have b1 := ha l (by omega)
      have b2 := ha (byF f k l).1 (by omega)
      by_cases q : (byF f k l).2 ≤ f l
      · rw [if_pos q]
        rw [h4, hf l (by omega)] at q
        have q := (nI_leI (by omega) (by omega)).mp q
        refine ⟨⟨by omega, fun j hj => ?_, h3⟩, h4⟩
        by_cases e : j = l
        · subst e; exact q
        · exact h2 j (by omega)
      · rw [if_neg q]
        rw [h4, hf l (by omega)] at q
        have q : a l < a (byF f k l).1 := by
          rcases Nat.lt_or_ge (a l) (a (byF f k l).1) with y | y
          · exact y
          · exact absurd (nI_le y (by omega)) q
        refine ⟨⟨by omega, fun j hj => ?_, fun j hj => ?_⟩, hf l (by omega)⟩
        · show a l ≤ a j
          by_cases e : j = l
          · subst e; exact Nat.le_refl _
          · have := h2 j (by omega); omega
        · show a l < a j
          have := h2 j (by exact hj); omega
theorem fst_ex {n : Nat} {a : Nat → Nat} : ∀ l, 0 < l → l ≤ n → ∃ s, Fst l a s := by
  intro l
  induction l with
  | zero => intro h; omega
  | succ l ih =>
    intro _ hl
    by_cases z : l = 0
    · subst z
      exact ⟨0, by omega, fun j hj => Nat.le_of_eq (by rw [show j = 0 by omega]), fun j hj => by omega⟩
    · obtain ⟨s, h1, h2, h3⟩ := ih (by omega) (by omega)
      rcases Nat.lt_or_ge (a l) (a s) with y | y
      · refine ⟨l, by omega, fun j hj => ?_, fun j hj => ?_⟩
        · by_cases e : j = l
          · subst e; exact Nat.le_refl _
          · have := h2 j (by omega); omega
        · have := h2 j hj; omega
      · refine ⟨s, by omega, fun j hj => ?_, h3⟩
        by_cases e : j = l
        · subst e; exact y
        · exact h2 j (by omega)
/-- what each land asks of k, as a number -/
def aN (E : Ec) (r : Nat → Int32) (k w : Nat) (l : Nat) : Nat := if r l = r k then pN E l else pN E l + w
theorem sS_fst {E : Ec} {r : Nat → Int32} {k w : Nat} (hE : EOK E) (hk : k < eN E) (hw : wallS E r k = nI w) (hw2 : w ≤ 60) : Fst (eN E) (aN E r k w) (sS E r k) ∧ pS E r k = nI (aN E r k w (sS E r k)) := by
  have hf : ∀ l, l < eN E → askS E r k (wallS E r k) l = nI (aN E r k w l) := fun l hl => by
    rw [askS, aN, hw, (pN_eq hE hl).1]
    split
    · rfl
    · rw [nI_add]
  have ha : ∀ l, l < eN E → aN E r k w l < 1000 := fun l hl => by
    have := (pN_eq hE hl).2
    rw [aN]
    split <;> omega
  exact by_fst hf ha (eN E) (by omega) (Nat.le_refl _)
/-- k0 is the first land of least cost and gain -/
theorem sell_in {E : Ec} {r : Nat → Int32} {k k0 : Nat} (hE : EOK E) (hk : k < eN E) (h0 : Fst (eN E) (pN E) k0) (hin : r k0 = r k) : sS E r k = k0 ∧ pS E r k = nI (pN E k0) := by
  obtain ⟨w, hw, _, hw2⟩ := wall_bd (r := r) hE hk
  obtain ⟨hf, hp⟩ := sS_fst hE hk hw hw2
  have a0 : aN E r k w k0 = pN E k0 := if_pos hin
  have e : sS E r k = k0 := by
    refine Fst.uniq hf ⟨h0.1, fun j hj => ?_, fun j hj => ?_⟩
    · rw [a0]
      have := h0.2.1 j hj
      rw [aN]; split <;> omega
    · rw [a0]
      have := h0.2.2 j hj
      rw [aN]; split <;> omega
  exact ⟨e, by rw [hp, e, a0]⟩
theorem sell_out {E : Ec} {r : Nat → Int32} {k k0 : Nat} (hE : EOK E) (hk : k < eN E) (h0 : Fst (eN E) (pN E) k0) (hs : ¬ r (sS E r k) = r k) : sS E r k = k0 ∧ ¬ r k0 = r k := by
  by_cases hin : r k0 = r k
  · have := (sell_in hE hk h0 hin).1
    rw [this] at hs
    exact absurd hin hs
  · obtain ⟨w, hw, _, hw2⟩ := wall_bd (r := r) hE hk
    obtain ⟨hf, hp⟩ := sS_fst hE hk hw hw2
    refine ⟨?_, hin⟩
    have a1 : aN E r k w (sS E r k) = pN E (sS E r k) + w := if_neg hs
    have a0 : aN E r k w k0 = pN E k0 + w := if_neg hin
    refine Fst.uniq (a := pN E) ⟨hf.1, fun j hj => ?_, fun j hj => ?_⟩ h0
    · have h1 := hf.2.1 k0 h0.1
      have h2 := h0.2.1 j hj
      omega
    · have h1 := hf.2.2 j hj
      rw [a1, aN] at h1
      have h3 := hf.2.1 k0 h0.1
      have h2 := h0.2.1 j (by have := hf.1; omega)
      by_cases q : r j = r k
      · rw [if_pos q] at h1; omega
      · rw [if_neg q] at h1; omega
/-- the good of every land but k0 is its own union's doing -/
theorem good_b {E : Ec} {r r' : Nat → Int32} {k k0 : Nat} (hE : EOK E) (hk : k < eN E) (h0 : Fst (eN E) (pN E) k0) (hne : ¬ k = k0) (hb : Blk (eN E) r r' k) : goodS E r k = goodS E r' k := by
  have key : ∀ (x x' : Nat → Int32), Blk (eN E) x x' k → ∀ l, l < eN E → sS E x l = k → x l = x k := by
    intro x x' _ l hl e
    refine Classical.byContradiction fun q => hne ?_
    have := (sell_out hE hl h0 (by rw [e]; exact fun z => q z.symm)).1
    rw [← e, this]
  have step : ∀ l, l ≤ eN E → gdF E r k l = gdF E r' k l := by
    intro l
    induction l with
    | zero => intro _; rw [gdF, gdF, bS_b hb, takS_b hb hk]
    | succ l ih =>
      intro hl
      rw [gdF, gdF, ih (by omega)]
      by_cases e : r l = r k
      · have bl := hb.mem (by omega) e
        rw [sS_b bl, bS_b bl]
      · have n1 : ¬ sS E r l = k := fun q => e (key r r' hb l (by omega) q)
        have n2 : ¬ sS E r' l = k := fun q => e ((hb l (by omega)).mpr (key r' r hb.symm l (by omega) q))
        rw [if_neg n1, if_neg n2]
  exact step _ (Nat.le_refl _)
