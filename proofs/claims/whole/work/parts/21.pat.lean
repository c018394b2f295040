/-! what a market reckons depends on which lands are together alone, and on the lands that are there -/
def Pat (n : Nat) (r r' : Nat → Int32) : Prop := ∀ i j, i < n → j < n → (r i = r j ↔ r' i = r' j)
def EcEq (E E' : Ec) : Prop := eN E = eN E' ∧ (∀ l, l < eN E → eW E l = eW E' l ∧ eC E l = eC E' l ∧ eG E l = eG E' l ∧ eT E l = eT E' l) ∧ eWa E = eWa E' ∧ eSh E = eSh E'
theorem EcEq.refl (E : Ec) : EcEq E E := ⟨rfl, fun _ _ => ⟨rfl, rfl, rfl, rfl⟩, rfl, rfl⟩
theorem EcEq.symm {E E' : Ec} (h : EcEq E E') : EcEq E' E := ⟨h.1.symm, fun l hl => by obtain ⟨a, b, c, d⟩ := h.2.1 l (by rw [h.1]; exact hl); exact ⟨a.symm, b.symm, c.symm, d.symm⟩, h.2.2.1.symm, h.2.2.2.symm⟩
theorem Pat.refl (n : Nat) (r : Nat → Int32) : Pat n r r := fun _ _ _ _ => Iff.rfl
theorem Pat.symm {n : Nat} {r r' : Nat → Int32} (h : Pat n r r') : Pat n r' r := fun i j a b => (h i j a b).symm
theorem Pat.trans {n : Nat} {r r' r'' : Nat → Int32} (h : Pat n r r') (k : Pat n r' r'') : Pat n r r'' := fun i j a b => (h i j a b).trans (k i j a b)
theorem Pat.of_eq {n : Nat} {r r' : Nat → Int32} (h : ∀ j, j < n → r j = r' j) : Pat n r r' := fun i j a b => by rw [h i a, h j b]
theorem mnF_pat {T T' r r' : Nat → Int32} {n k : Nat} {a : Int32} (hk : k < n) (hT : ∀ l, l < n → T l = T' l) (hp : Pat n r r') : ∀ l, l ≤ n → mnF T r k a l = mnF T' r' k a l := by
  intro l
  induction l with
  | zero => intro _; rfl
  | succ l ih =>
    intro hl
    rw [mnF, mnF, ih (by omega), hT l (by omega)]
    by_cases e : r l = r k
    · rw [if_pos e, if_pos ((hp l k (by omega) hk).mp e)]
    · rw [if_neg e, if_neg (fun q => e ((hp l k (by omega) hk).mpr q))]
theorem mxF_pat {T T' r r' : Nat → Int32} {n k : Nat} {a : Int32} (hk : k < n) (hT : ∀ l, l < n → T l = T' l) (hp : Pat n r r') : ∀ l, l ≤ n → mxF T r k a l = mxF T' r' k a l := by
  intro l
  induction l with
  | zero => intro _; rfl
  | succ l ih =>
    intro hl
    rw [mxF, mxF, ih (by omega), hT l (by omega)]
    by_cases e : r l = r k
    · rw [if_pos e, if_pos ((hp l k (by omega) hk).mp e)]
    · rw [if_neg e, if_neg (fun q => e ((hp l k (by omega) hk).mpr q))]
theorem smF_pat {T T' r r' : Nat → Int32} {n k : Nat} (hk : k < n) (hT : ∀ l, l < n → r l = r k → T l = T' l) (hp : Pat n r r') : ∀ l, l ≤ n → smF T r (r k) l = smF T' r' (r' k) l := by
  intro l
  induction l with
  | zero => intro _; rfl
  | succ l ih =>
    intro hl
    rw [smF, smF, ih (by omega)]
    by_cases e : r l = r k
    · rw [if_pos e, if_pos ((hp l k (by omega) hk).mp e), hT l (by omega) e]
    · rw [if_neg e, if_neg (fun q => e ((hp l k (by omega) hk).mpr q))]
theorem ctF_pat {r r' : Nat → Int32} {n k : Nat} (hk : k < n) (hp : Pat n r r') : ∀ l, l ≤ n → ctF r (r k) l = ctF r' (r' k) l := by
  intro l
  induction l with
  | zero => intro _; rfl
  | succ l ih =>
    intro hl
    rw [ctF, ctF, ih (by omega)]
    by_cases e : r l = r k
    · rw [if_pos e, if_pos ((hp l k (by omega) hk).mp e)]
    · rw [if_neg e, if_neg (fun q => e ((hp l k (by omega) hk).mpr q))]
theorem lfF_pat {r r' : Nat → Int32} {n k : Nat} {a : Int32} (hk : k < n) (hp : Pat n r r') : ∀ l, l ≤ n → lfF r (r k) a l = lfF r' (r' k) a l := by
  intro l
  induction l with
  | zero => intro _; rfl
  | succ l ih =>
    intro hl
    rw [lfF, lfF, ih (by omega)]
    by_cases e : r l = r k
    · rw [if_pos e, if_pos ((hp l k (by omega) hk).mp e)]
    · rw [if_neg e, if_neg (fun q => e ((hp l k (by omega) hk).mpr q))]
theorem byF_congr {f f' : Nat → Int32} {k : Nat} : ∀ {n : Nat}, (∀ l, l < n → f l = f' l) → byF f k n = byF f' k n := by
  intro n
  induction n with
  | zero => intro _; rfl
  | succ n ih => intro h; rw [byF, byF, ih (fun l hl => h l (by omega)), h n (by omega)]
section PAT
variable {E E' : Ec} {r r' : Nat → Int32} {k : Nat}
theorem wallS_pat (hE : EcEq E E') (hp : Pat (eN E) r r') (hk : k < eN E) : wallS E r k = wallS E' r' k := by
  obtain ⟨h1, h2, h3, h4⟩ := hE
  have hT : ∀ l, l < eN E → eT E l = eT E' l := fun l hl => (h2 l hl).2.2.2
  rw [wallS, wallS, ← h1, ← h3, ← hT k hk, mnF_pat hk hT hp _ (Nat.le_refl _), mxF_pat hk hT hp _ (Nat.le_refl _), smF_pat hk (fun l a _ => hT l a) hp _ (Nat.le_refl _), ctF_pat hk hp _ (Nat.le_refl _)]
theorem askS_pat (hE : EcEq E E') (hp : Pat (eN E) r r') (hk : k < eN E) {wa : Int32} {l : Nat} (hl : l < eN E) : askS E r k wa l = askS E' r' k wa l := by
  obtain ⟨h1, h2, h3, h4⟩ := hE
  rw [askS, askS, (h2 l hl).2.1, (h2 l hl).2.2.1]
  by_cases e : r l = r k
  · rw [if_pos e, if_pos ((hp l k hl hk).mp e)]
  · rw [if_neg e, if_neg (fun q => e ((hp l k hl hk).mpr q))]
theorem by_pat (hE : EcEq E E') (hp : Pat (eN E) r r') (hk : k < eN E) : byF (askS E r k (wallS E r k)) k (eN E) = byF (askS E' r' k (wallS E' r' k)) k (eN E') := by
  rw [← hE.1, ← wallS_pat hE hp hk]
  exact byF_congr (fun l hl => askS_pat hE hp hk hl)
theorem sS_pat (hE : EcEq E E') (hp : Pat (eN E) r r') (hk : k < eN E) : sS E r k = sS E' r' k := by
  rw [sS, sS, selS, selS, by_pat hE hp hk]
theorem pS_pat (hE : EcEq E E') (hp : Pat (eN E) r r') (hk : k < eN E) : pS E r k = pS E' r' k := by
  rw [pS, pS, priS, priS, by_pat hE hp hk]
theorem bS_pat (hE : EcEq E E') (hp : Pat (eN E) r r') (hk : k < eN E) : bS E r k = bS E' r' k := by
  have h := pS_pat hE hp hk
  rw [pS, pS] at h
  rw [bS, bS, bouS, bouS, h, (hE.2.1 k hk).1]
theorem tkO_pat (hE : EcEq E E') (hp : Pat (eN E) r r') (hk : k < eN E) : tkO E r k = tkO E' r' k := by
  have hs : sS E r k < eN E := sS_lt hk
  have h1 := hp (sS E r k) k hs hk
  rw [tkO, tkO, ← sS_pat hE hp hk, ← bS_pat hE hp hk, ← wallS_pat hE hp hk]
  by_cases e : r (sS E r k) = r k
  · rw [if_pos e, if_pos (h1.mp e)]
  · rw [if_neg e, if_neg (fun q => e (h1.mpr q))]
theorem shO_pat (hE : EcEq E E') (hp : Pat (eN E) r r') (hk : k < eN E) {tk tk' : Nat → Int32} (ht : ∀ l, l < eN E → tk l = tk' l) : shO E tk r (r k) k = shO E' tk' r' (r' k) k := by
  have hw : ∀ l, l < eN E → wtS E l = wtS E' l := fun l hl => by rw [wtS, wtS, ← hE.2.2.2, (hE.2.1 l hl).1]
  have e1 : smF tk r (r k) (eN E) = smF tk' r' (r' k) (eN E') := by rw [← hE.1]; exact smF_pat hk (fun l a _ => ht l a) hp _ (Nat.le_refl _)
  have e2 : smF (wtS E) r (r k) (eN E) = smF (wtS E') r' (r' k) (eN E') := by rw [← hE.1]; exact smF_pat hk (fun l a _ => hw l a) hp _ (Nat.le_refl _)
  have e3 : ∀ l, l < eN E → shQ E tk r (r k) l = shQ E' tk' r' (r' k) l := fun l hl => by rw [shQ, shQ, e1, e2, hw l hl]
  have e4 : shA E tk r (r k) = shA E' tk' r' (r' k) := by
    rw [shA, shA, e1, ← hE.1, smF_pat hk (fun l a _ => e3 l a) hp _ (Nat.le_refl _)]
  rw [shO, shO, if_pos rfl, if_pos rfl, e4, e3 k hk, lfF_pat hk hp k (by omega)]
theorem takS_pat (hE : EcEq E E') (hp : Pat (eN E) r r') (hk : k < eN E) : takS E r k = takS E' r' k := by
  rw [takS, takS, ← hE.2.2.2, tkO_pat hE hp hk, shO_pat hE hp hk (fun l hl => tkO_pat hE hp hl)]
theorem gdF_pat (hE : EcEq E E') (hp : Pat (eN E) r r') (hk : k < eN E) : ∀ l, l ≤ eN E → gdF E r k l = gdF E' r' k l := by
  intro l
  induction l with
  | zero => intro _; rw [gdF, gdF, bS_pat hE hp hk, takS_pat hE hp hk]
  | succ l ih => intro hl; rw [gdF, gdF, ih (by omega), sS_pat hE hp (show l < eN E by omega), (hE.2.1 k hk).2.2.1, bS_pat hE hp (show l < eN E by omega)]
theorem goodS_pat (hE : EcEq E E') (hp : Pat (eN E) r r') (hk : k < eN E) : goodS E r k = goodS E' r' k := by
  rw [goodS, goodS, ← hE.1]
  exact gdF_pat hE hp hk _ (Nat.le_refl _)
end PAT
