theorem cnt_true : ∀ m, cnt (fun _ => true) m = m := by
  intro m
  induction m with
  | zero => rfl
  | succ m ih => rw [cnt, ih, if_pos rfl]
theorem rank_5 (t : Nat → Nat) : ext (cnt (fun j => decide (t 0 < t j)) 5) + ext (cnt (fun j => decide (t 1 < t j)) 5) + ext (cnt (fun j => decide (t 2 < t j)) 5) + ext (cnt (fun j => decide (t 3 < t j)) 5) + ext (cnt (fun j => decide (t 4 < t j)) 5) ≤ 185 := by
  obtain ⟨ρ, hρ⟩ : ∃ ρ : Nat → Nat, ∀ i, ρ i = cnt (fun j => decide (t i < t j)) 5 := ⟨_, fun _ => rfl⟩
  have iff : ∀ i j, i < 5 → j < 5 → (t i < t j ↔ ρ j < ρ i) := by
    intro i j hi hj
    constructor
    · intro h
      rw [hρ, hρ]
      exact cnt_lt (x := j) (by simp) (by simpa using h) 5 hj (fun x _ hx => by
        have := of_decide_eq_true hx
        exact decide_eq_true (by omega))
    · intro h
      rcases Nat.lt_or_ge (t i) (t j) with q | q
      · exact q
      · exfalso
        rw [hρ, hρ] at h
        have := cnt_mono (p := fun x => decide (t i < t x)) (q := fun x => decide (t j < t x)) 5 (fun x _ hx => by
          have := of_decide_eq_true hx
          exact decide_eq_true (by omega))
        omega
  have lt5 : ∀ i, i < 5 → ρ i < 5 := fun i hi => by
    have := cnt_lt (p := fun x => decide (t i < t x)) (q := fun _ => true) (x := i) (by simp) rfl 5 hi (fun _ _ _ => rfl)
    rw [cnt_true] at this
    rw [hρ]; exact this
  have cons : ∀ i, i < 5 → ρ i = cnt (fun j => decide ([ρ 0, ρ 1, ρ 2, ρ 3, ρ 4].getD j 0 < ρ i)) 5 := fun i hi => by
    rw [hρ i]
    refine cnt_congr 5 (fun j hj => ?_)
    have e : [ρ 0, ρ 1, ρ 2, ρ 3, ρ 4].getD j 0 = ρ j := by
      rcases (show j = 0 ∨ j = 1 ∨ j = 2 ∨ j = 3 ∨ j = 4 by omega) with rfl | rfl | rfl | rfl | rfl <;> rfl
    show decide (t i < t j) = decide ([ρ 0, ρ 1, ρ 2, ρ 3, ρ 4].getD j 0 < cnt (fun j => decide (t i < t j)) 5)
    rw [e, ← hρ i]
    exact decide_eq_decide.mpr (iff i j hi hj)
  rw [← hρ 0, ← hρ 1, ← hρ 2, ← hρ 3, ← hρ 4]
  have l0 := lt5 0 (by omega)
  have l1 := lt5 1 (by omega)
  have l2 := lt5 2 (by omega)
  have l3 := lt5 3 (by omega)
  have l4 := lt5 4 (by omega)
  have c0 := cons 0 (by omega)
  have c1 := cons 1 (by omega)
  have c2 := cons 2 (by omega)
  have c3 := cons 3 (by omega)
  have c4 := cons 4 (by omega)
  generalize ρ 0 = a at *
  generalize ρ 1 = b at *
  generalize ρ 2 = c at *
  generalize ρ 3 = d at *
  generalize ρ 4 = e at *
  have T := tab_6 (a + 5 * b + 25 * c + 125 * d + 625 * e) (by omega)
  rw [show (a + 5 * b + 25 * c + 125 * d + 625 * e) % 5 = a by omega, show (a + 5 * b + 25 * c + 125 * d + 625 * e) / 5 % 5 = b by omega, show (a + 5 * b + 25 * c + 125 * d + 625 * e) / 25 % 5 = c by omega, show (a + 5 * b + 25 * c + 125 * d + 625 * e) / 125 % 5 = d by omega, show (a + 5 * b + 25 * c + 125 * d + 625 * e) / 625 % 5 = e by omega, okA, ← c0, ← c1, ← c2, ← c3, ← c4] at T
  simpa using T
/-- what the goings of the five others than k0 may be above 52 each -/
def rk (t : Nat → Nat) (k0 k : Nat) : Nat := cnt (fun j => decide (t k < t j) && !(j == k0)) 6
def rx (t : Nat → Nat) (k0 k : Nat) : Nat := if k = k0 then 0 else ext (rk t k0 k)
theorem rx_sum (t : Nat → Nat) (k0 : Nat) (h : k0 < 6) : rx t k0 0 + rx t k0 1 + rx t k0 2 + rx t k0 3 + rx t k0 4 + rx t k0 5 ≤ 185 := by
  rcases (show k0 = 0 ∨ k0 = 1 ∨ k0 = 2 ∨ k0 = 3 ∨ k0 = 4 ∨ k0 = 5 by omega) with rfl | rfl | rfl | rfl | rfl | rfl
  · have := rank_5 (fun i => t ([1, 2, 3, 4, 5].getD i 0))
    simpa [rx, rk, cnt] using this
  · have := rank_5 (fun i => t ([0, 2, 3, 4, 5].getD i 0))
    simpa [rx, rk, cnt] using this
  · have := rank_5 (fun i => t ([0, 1, 3, 4, 5].getD i 0))
    simpa [rx, rk, cnt] using this
  · have := rank_5 (fun i => t ([0, 1, 2, 4, 5].getD i 0))
    simpa [rx, rk, cnt] using this
  · have := rank_5 (fun i => t ([0, 1, 2, 3, 5].getD i 0))
    simpa [rx, rk, cnt] using this
  · have := rank_5 (fun i => t ([0, 1, 2, 3, 4].getD i 0))
    simpa [rx, rk, cnt] using this
theorem can_ex (r : Nat → Int32) : ∀ n, ∃ c, CanOf n r c := by
  intro n
  induction n with
  | zero => exact ⟨fun _ => 0, fun j hj => by omega, fun a b ha => by omega⟩
  | succ n ih =>
    obtain ⟨c, hc⟩ := ih
    by_cases q : ∃ f, f < n ∧ r f = r n
    · obtain ⟨f, hf, e⟩ := q
      exact ⟨_, hc.sold hf e⟩
    · exact ⟨_, hc.snew (fun j hj e => q ⟨j, hj, e⟩)⟩
theorem pick2 {m : Nat} {P : Nat → Nat → Nat → Prop} (H : ∀ i, i < m → ∃ a b, P i a b) : ∃ f g : Nat → Nat, ∀ i, i < m → P i (f i) (g i) :=
  ⟨fun i => if h : i < m then (H i h).choose else 0, fun i => if h : i < m then (H i h).choose_spec.choose else 0, fun i hi => by
    simp only [dif_pos hi]
    exact (H i hi).choose_spec.choose_spec⟩
def mkM (b0 b1 b2 b3 b4 b5 : Bool) : Nat := (if b0 then 1 else 0) + (if b1 then 2 else 0) + (if b2 then 4 else 0) + (if b3 then 8 else 0) + (if b4 then 16 else 0) + (if b5 then 32 else 0)
theorem mkM_ok : ∀ b0 b1 b2 b3 b4 b5 : Bool, (mkM b0 b1 b2 b3 b4 b5 < 64) ∧ (mkM b0 b1 b2 b3 b4 b5).testBit 0 = b0 ∧ (mkM b0 b1 b2 b3 b4 b5).testBit 1 = b1 ∧ (mkM b0 b1 b2 b3 b4 b5).testBit 2 = b2 ∧ (mkM b0 b1 b2 b3 b4 b5).testBit 3 = b3 ∧ (mkM b0 b1 b2 b3 b4 b5).testBit 4 = b4 ∧ (mkM b0 b1 b2 b3 b4 b5).testBit 5 = b5 := by decide
theorem mask_ex (f : Nat → Bool) : ∃ M, M < 64 ∧ ∀ j, j < 6 → M.testBit j = f j := by
  obtain ⟨h, h0, h1, h2, h3, h4, h5⟩ := mkM_ok (f 0) (f 1) (f 2) (f 3) (f 4) (f 5)
  refine ⟨_, h, fun j hj => ?_⟩
  rcases (show j = 0 ∨ j = 1 ∨ j = 2 ∨ j = 3 ∨ j = 4 ∨ j = 5 by omega) with rfl | rfl | rfl | rfl | rfl | rfl
  · exact h0
  · exact h1
  · exact h2
  · exact h3
  · exact h4
  · exact h5
theorem cnt_head (p : Nat → Bool) : ∀ m, cnt p (m + 1) = cnt (fun i => p (i + 1)) m + (if p 0 = true then 1 else 0) := by
  intro m
  induction m with
  | zero => rfl
  | succ m ih =>
    rw [cnt, ih, cnt]
    omega
theorem cnt_list (k M : Nat) : ∀ as ds : List Nat, as.length = ds.length → cnt (fun q => (as.getD q 0).testBit k && !(ds.getD q 0 &&& M == 0)) as.length = cntM k M as ds := by
  intro as
  induction as with
  | nil => intro ds h; cases ds <;> rfl
  | cons a as ih =>
    intro ds h
    cases ds with
    | nil => simp at h
    | cons d ds =>
      rw [List.length_cons, cnt_head, cntM, ← ih ds (by simpa using h)]
      rfl
theorem cnt_split (p f : Nat → Bool) : ∀ m, cnt (fun i => p i && !f i) m + cnt (fun i => p i && f i) m = cnt p m := by
  intro m
  induction m with
  | zero => rfl
  | succ m ih =>
    rw [cnt, cnt, cnt]
    cases hp : p m <;> cases hf : f m <;> simp <;> omega
theorem cnt_six {κ : Nat → Nat} : ∀ m, (∀ i, i < m → κ i < 6) → cnt (fun i => κ i == 0) m + cnt (fun i => κ i == 1) m + cnt (fun i => κ i == 2) m + cnt (fun i => κ i == 3) m + cnt (fun i => κ i == 4) m + cnt (fun i => κ i == 5) m = m := by
  intro m
  induction m with
  | zero => intro _; rfl
  | succ m ih =>
    intro h
    have h1 := ih (fun i hi => h i (by omega))
    have h2 := h m (by omega)
    rw [cnt, cnt, cnt, cnt, cnt, cnt]
    rcases (show κ m = 0 ∨ κ m = 1 ∨ κ m = 2 ∨ κ m = 3 ∨ κ m = 4 ∨ κ m = 5 by omega) with e | e | e | e | e | e <;> simp [e] <;> omega
