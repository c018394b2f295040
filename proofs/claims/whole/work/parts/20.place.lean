/-! a parting's place among all: below 203, and no two partings have one place -/
def dW (r m : Nat) : Nat := way (r * 6 + m)
theorem dW_0 : ∀ m, m < 6 → dW 0 m = 1 := by decide
theorem dW_s : ∀ r, r < 5 → ∀ m, m < 6 → r + m ≤ 5 → dW (r + 1) m = m * dW r m + dW r (m + 1) := by decide
theorem dW_pos : ∀ r, r < 6 → ∀ m, m < 6 → 0 < dW r m := by decide
/-- what land l and those behind it add to the place -/
def sfx (n : Nat) (c : Nat → Nat) : Nat → Nat → Nat
  | 0, _ => 0
  | d + 1, l => c l * dW (n - 1 - l) (mx c l) + sfx n c d (l + 1)
theorem plc_sfx (n : Nat) (c : Nat → Nat) : ∀ d l, plc n c (l + d) = plc n c l + sfx n c d l := by
  intro d
  induction d with
  | zero => intro l; rfl
  | succ d ih =>
    intro l
    rw [show l + (d + 1) = (l + 1) + d by omega, ih (l + 1), plc, sfx, dW]
    omega
theorem sfx_lt {n : Nat} {c : Nat → Nat} (hn : n ≤ 6) (hc : Can n c) : ∀ d l, l + d = n → 0 < l → sfx n c d l < dW d (mx c l) := by
  intro d
  induction d with
  | zero =>
    intro l h1 h2
    have hm := mx_le hc l (by omega)
    by_cases q : mx c l < 6
    · exact dW_pos 0 (by omega) _ q
    · have : mx c l = 6 := by omega
      rw [this, sfx]
      decide
  | succ d ih =>
    intro l h1 h2
    have hm := mx_le hc l (by omega)
    have hl := hc l (by omega)
    have hm1 : 0 < mx c l := by have := mx_lt (c := c) h2; omega
    have h3 := ih (l + 1) (by omega) (by omega)
    rw [sfx, show n - 1 - l = d by omega, dW_s d (by omega) _ (by omega) (by omega)]
    rw [mx_can hc (by omega)] at h3
    by_cases e : c l = mx c l
    · rw [if_pos e] at h3
      rw [e]
      omega
    · rw [if_neg e] at h3
      have h4 : (c l + 1) * dW d (mx c l) ≤ mx c l * dW d (mx c l) := Nat.mul_le_mul_right _ (by omega)
      rw [Nat.add_mul, Nat.one_mul] at h4
      omega
theorem can0 {n : Nat} {c : Nat → Nat} (hc : Can n c) (h : 0 < n) : c 0 = 0 := by
  have := hc 0 h
  simp only [mx] at this
  omega
theorem plc_0 {n : Nat} {c : Nat → Nat} (hc : Can n c) : ∀ d, 1 + d = n → plc n c n = sfx n c d 1 := by
  intro d hd
  rw [← hd, plc_sfx (1 + d) c d 1, plc, plc, can0 hc (by omega)]
  omega
theorem dW_6 : ∀ d, d < 6 → dW d 1 ≤ 203 := by decide
theorem plc_lt {n : Nat} {c : Nat → Nat} (hn : n ≤ 6) (hc : Can n c) : plc n c n < 203 := by
  cases n with
  | zero => simp [plc]
  | succ d =>
    rw [plc_0 hc d (by omega)]
    have h1 := sfx_lt hn hc d 1 (by omega) (by omega)
    have h2 : mx c 1 = 1 := by simp only [mx, can0 hc (by omega)]; rfl
    rw [h2] at h1
    have := dW_6 d (by omega)
    omega
theorem sfx_inj {n : Nat} {c c' : Nat → Nat} (hn : n ≤ 6) (hc : Can n c) (hc' : Can n c') : ∀ d l, l + d = n → 0 < l → (∀ j, j < l → c j = c' j) → sfx n c d l = sfx n c' d l → ∀ j, j < n → c j = c' j := by
  intro d
  induction d with
  | zero => intro l h1 _ h _ j hj; exact h j (by omega)
  | succ d ih =>
    intro l h1 h2 h he
    have hm : mx c l = mx c' l := mx_congr h
    have hm1 := mx_le hc l (by omega)
    have hl := hc l (by omega)
    have hl' := hc' l (by omega)
    have s1 := sfx_lt hn hc d (l + 1) (by omega) (by omega)
    have s2 := sfx_lt hn hc' d (l + 1) (by omega) (by omega)
    rw [sfx, sfx, ← hm, show n - 1 - l = d by omega] at he
    have key : ∀ a b x y w : Nat, a < b → x < w → a * w + x = b * w + y → False := by
      intro a b x y w q1 q2 q3
      have : (a + 1) * w ≤ b * w := Nat.mul_le_mul_right _ q1
      rw [Nat.add_mul, Nat.one_mul] at this
      omega
    have hcl : c l = c' l := by
      rcases Nat.lt_trichotomy (c l) (c' l) with q | q | q
      · rw [mx_can hc (by omega), if_neg (by omega)] at s1
        exact (key _ _ _ _ _ q s1 he).elim
      · exact q
      · rw [mx_can hc' (by omega), if_neg (by omega), ← hm] at s2
        exact (key _ _ _ _ _ q s2 he.symm).elim
    refine ih (l + 1) (by omega) (by omega) (fun j hj => ?_) (by rw [hcl] at he; omega)
    by_cases e : j = l
    · subst e; exact hcl
    · exact h j (by omega)
theorem plc_inj {n : Nat} {c c' : Nat → Nat} (hn : n ≤ 6) (hc : Can n c) (hc' : Can n c') (he : plc n c n = plc n c' n) : ∀ j, j < n → c j = c' j := by
  cases n with
  | zero => intro j hj; omega
  | succ d =>
    rw [plc_0 hc d (by omega), plc_0 hc' d (by omega)] at he
    refine sfx_inj hn hc hc' d 1 (by omega) (by omega) (fun j hj => ?_) he
    have : j = 0 := by omega
    subst this
    rw [can0 hc (by omega), can0 hc' (by omega)]
theorem plc_congr {n : Nat} {c c' : Nat → Nat} (h : ∀ j, j < n → c j = c' j) : ∀ l, l ≤ n → plc n c l = plc n c' l := by
  intro l
  induction l with
  | zero => intro _; rfl
  | succ l ih => intro hl; rw [plc, plc, ih (by omega), h l (by omega), mx_congr (fun j hj => h j (by omega))]
