/-- class and reference side by side -/
def LJ (g : GG) (h : Hp) (n : Nat) (c : Nat → Nat) (m b : Nat) : Prop := CI g h n c m b ∧ RF h n c m (eH h 3 n) (h 55)
def LX (g : GG) (h : Hp) (b : Nat) : Prop := ∃ n c m b', LJ g h n c m b' ∧ b' ≤ b
theorem CI.low {g : GG} {h h' : Hp} {n m b : Nat} {c : Nat → Nat} (I : CI g h n c m b) (k : ∀ q, q < 62 → h' q = h q) : CI g h' n c m b := by
  have I2 := I
  obtain ⟨i1, i2, i3, i4, i5, i6, i7, i8⟩ := I
  exact CI.obs I2 (fun q a b => k q (by omega)) (fun q a b => k q (by omega)) (i1.2.2.2.2.keep (fun q a b => k q (by omega))) (i2.keep (k _ (by omega)) (k _ (by omega)) (by rw [k _ (by omega)]) (eH_keep (fun q a b => k q (by omega)))) (i3.keep (by rw [k _ (by omega)]) (k _ (by omega))) (Nat.le_refl _) (by rw [k _ (by omega)]; exact i8)
theorem RF.up {h h' : Hp} {n m : Nat} {c : Nat → Nat} {E : Ec} {s : Nat → Int32} (J : RF h n c m E s) (k : ∀ q, 62 ≤ q → h' q = h q) : RF h' n c m E s := J.obs (by rw [k 62 (by omega)]) (by rw [k 62 (by omega)]) (by rw [k 62 (by omega)]) (k 63 (by omega)) (k 64 (by omega)) (by rw [k 62 (by omega)]; exact J.2.2.2.2.1.1) J.2.2.2.2.1.2 (by rw [k 66 (by omega)]; exact J.2.2.2.2.2)
theorem LXo {g : GG} {h h1 h2 : Hp} {n m b' b : Nat} {c : Nat → Nat} {E : Ec} {s : Nat → Int32} (cp : CP g h h1 n c m b' E s) (rp : RP h1 h2 n c m E s) (hb : b' ≤ b) : LX g h2 b := by
  obtain ⟨_, ci, e1, e2⟩ := cp
  obtain ⟨k, rf⟩ := rp
  refine ⟨n, c, m, b', ⟨CI.low ci k, ?_⟩, hb⟩
  rw [show eH h2 3 n = E by rw [← e1]; exact eH_keep (fun q a b => k q (by omega)), k 55 (by omega), e2]
  exact rf
theorem CPi {g : GG} {h h1 : Hp} {n m b : Nat} {c : Nat → Nat} (I : CI g h n c m b) (e : h1 = h) : CP g h h1 n c m b (eH h 3 n) (h 55) := by
  subst e
  exact ⟨fun _ _ => rfl, I, rfl, rfl⟩
theorem RPi {h h1 : Hp} {n m : Nat} {c : Nat → Nat} {E : Ec} {s : Nat → Int32} (J : RF h n c m E s) (e : h1 = h) : RP h h1 n c m E s := by
  subst e
  exact ⟨fun _ _ => rfl, J⟩
theorem noL {n k : Nat} {x : Int32} (hn : n ≤ 6) (a : isL n x = 0) (hk : k < n) (e : x = nI k) : False := by
  rw [e, isL_k (by omega) hk] at a
  exact absurd a (by decide)
theorem kk {n k k' : Nat} {x : Int32} (hn : n ≤ 6) (e : x = nI k) (hk : k < n) (e' : x = nI k') (hk' : k' < n) : k = k' := nI_inj (by omega) (by omega) (e.symm.trans e')
theorem out_in {x a b : Int32} (h1 : x < a ∨ b < x) (h2 : ¬ x < a) (h3 : x ≤ b) : False := by
  rcases h1 with q | q
  · exact h2 q
  · exact Int32.not_le.mpr q h3
theorem RF.cc {h : Hp} {n m : Nat} {c c' : Nat → Nat} {E : Ec} {s : Nat → Int32} (J : RF h n c m E s) (e : ∀ l, l < n → c l = c' l) : RF h n c' m E s := ⟨J.1, J.2.1, J.2.2.1.congr e, fun l hl => by rw [J.2.2.2.1 l hl, e l hl], J.2.2.2.2⟩

theorem u_land {g : GG} {n m b : Nat} {h h1 : Hp} {c : Nat → Nat} {a1 a2 a3 a4 : Int32} {v1 : Int32} (I : CI g h n c m b) (p1 : (¬ okL a1 a2 a3 a4 ∧ v1 = -2 ∧ h1 = h) ∨ (okL a1 a2 a3 a4 ∧ n = 6 ∧ v1 = -4 ∧ h1 = h) ∨ (okL a1 a2 a3 a4 ∧ n < 6 ∧ v1 = nI n ∧ CP g h h1 (n + 1) (uc c n (mx c n)) m (b + 1) (addE (eH h 3 n) a1 a2 a3 a4) (h 55))) : ∀ q, 62 ≤ q → h1 q = h q := by
  rcases p1 with ⟨o, e, e1⟩ | ⟨o, e0, e, e1⟩ | ⟨o, e0, e, cp⟩
  · exact (CPi I e1).1
  · exact (CPi I e1).1
  · exact (cp).1

theorem j_land {g : GG} {n m b : Nat} {h h1 h2 : Hp} {c : Nat → Nat} {a1 a2 a3 a4 : Int32} {v1 v2 : Int32} (I : CI g h n c m b) (J : RF h1 n c m (eH h 3 n) (h 55)) (p1 : (¬ okL a1 a2 a3 a4 ∧ v1 = -2 ∧ h1 = h) ∨ (okL a1 a2 a3 a4 ∧ n = 6 ∧ v1 = -4 ∧ h1 = h) ∨ (okL a1 a2 a3 a4 ∧ n < 6 ∧ v1 = nI n ∧ CP g h h1 (n + 1) (uc c n (mx c n)) m (b + 1) (addE (eH h 3 n) a1 a2 a3 a4) (h 55))) (p2 : (¬ okL a1 a2 a3 a4 ∧ v2 = -2 ∧ h2 = h1) ∨ (okL a1 a2 a3 a4 ∧ n = 6 ∧ v2 = -4 ∧ h2 = h1) ∨ (okL a1 a2 a3 a4 ∧ n < 6 ∧ v2 = nI n ∧ RP h1 h2 (n + 1) (uc c n (mx c n)) m (addE (eH h 3 n) a1 a2 a3 a4) (h 55))) : v1 = v2 ∧ LX g h2 (b + 200) := by
  have hn6 := J.1.1
  rcases p1 with ⟨o, e, e1⟩ | ⟨o, e0, e, e1⟩ | ⟨o, e0, e, cp⟩
  · rcases p2 with ⟨o', e', e2⟩ | ⟨o', e0', e', e2⟩ | ⟨o', e0', e', rp⟩
    · exact ⟨by rw [e, e'], LXo (CPi I e1) (RPi J e2) (by omega)⟩
    · exact absurd o' o
    · exact absurd o' o
  · rcases p2 with ⟨o', e', e2⟩ | ⟨o', e0', e', e2⟩ | ⟨o', e0', e', rp⟩
    · exact absurd o o'
    · exact ⟨by rw [e, e'], LXo (CPi I e1) (RPi J e2) (by omega)⟩
    · omega
  · rcases p2 with ⟨o', e', e2⟩ | ⟨o', e0', e', e2⟩ | ⟨o', e0', e', rp⟩
    · exact absurd o o'
    · omega
    · exact ⟨by rw [e, e'], LXo cp rp (by omega)⟩

theorem u_change {g : GG} {n m b : Nat} {h h1 : Hp} {c : Nat → Nat} {x y v : Int32} {v1 : Int32} (I : CI g h n c m b) (p1 : (isL n x = 0 ∧ v1 = -1 ∧ h1 = h) ∨ (¬ isL n x = 0 ∧ fitV y v = 0 ∧ v1 = -2 ∧ h1 = h) ∨ ∃ k i, k < n ∧ i < 4 ∧ x = nI k ∧ y = nI i ∧ ¬ fitV (nI i) v = 0 ∧ v1 = numE (eH h 3 n) i k ∧ CP g h h1 n c m (b + 1) (setE (eH h 3 n) i k v) (h 55)) : ∀ q, 62 ≤ q → h1 q = h q := by
  rcases p1 with ⟨a, e, e1⟩ | ⟨a, f, e, e1⟩ | ⟨k, i, hk, hi, ex, ey, hf, e, cp⟩
  · exact (CPi I e1).1
  · exact (CPi I e1).1
  · exact (cp).1

theorem j_change {g : GG} {n m b : Nat} {h h1 h2 : Hp} {c : Nat → Nat} {x y v : Int32} {v1 v2 : Int32} (I : CI g h n c m b) (J : RF h1 n c m (eH h 3 n) (h 55)) (p1 : (isL n x = 0 ∧ v1 = -1 ∧ h1 = h) ∨ (¬ isL n x = 0 ∧ fitV y v = 0 ∧ v1 = -2 ∧ h1 = h) ∨ ∃ k i, k < n ∧ i < 4 ∧ x = nI k ∧ y = nI i ∧ ¬ fitV (nI i) v = 0 ∧ v1 = numE (eH h 3 n) i k ∧ CP g h h1 n c m (b + 1) (setE (eH h 3 n) i k v) (h 55)) (p2 : (isL n x = 0 ∧ v2 = -1 ∧ h2 = h1) ∨ (¬ isL n x = 0 ∧ fitV y v = 0 ∧ v2 = -2 ∧ h2 = h1) ∨ ∃ k i, k < n ∧ i < 4 ∧ x = nI k ∧ y = nI i ∧ ¬ fitV (nI i) v = 0 ∧ v2 = numE (eH h 3 n) i k ∧ RP h1 h2 n c m (setE (eH h 3 n) i k v) (h 55)) : v1 = v2 ∧ LX g h2 (b + 200) := by
  have hn6 := J.1.1
  rcases p1 with ⟨a, e, e1⟩ | ⟨a, f, e, e1⟩ | ⟨k, i, hk, hi, ex, ey, hf, e, cp⟩
  · rcases p2 with ⟨a', e', e2⟩ | ⟨a', f', e', e2⟩ | ⟨k', i', hk', hi', ex', ey', hf', e', rp⟩
    · exact ⟨by rw [e, e'], LXo (CPi I e1) (RPi J e2) (by omega)⟩
    · exact absurd a a'
    · exact (noL hn6 a hk' ex').elim
  · rcases p2 with ⟨a', e', e2⟩ | ⟨a', f', e', e2⟩ | ⟨k', i', hk', hi', ex', ey', hf', e', rp⟩
    · exact absurd a' a
    · exact ⟨by rw [e, e'], LXo (CPi I e1) (RPi J e2) (by omega)⟩
    · exact absurd (by rw [← ey']; exact f) hf'
  · rcases p2 with ⟨a', e', e2⟩ | ⟨a', f', e', e2⟩ | ⟨k', i', hk', hi', ex', ey', hf', e', rp⟩
    · exact (noL hn6 a' hk ex).elim
    · exact absurd (by rw [← ey]; exact f') hf
    · obtain rfl := kk hn6 ex hk ex' hk'
      obtain rfl : i = i' := nI_inj (by omega) (by omega) (ey.symm.trans ey')
      exact ⟨by rw [e, e'], LXo cp rp (by omega)⟩

theorem u_set {g : GG} {n m b : Nat} {h h1 : Hp} {c : Nat → Nat} {x v : Int32} {v1 : Int32} (I : CI g h n c m b) (p1 : ((x < 0 ∨ 1 < x ∨ v < 0 ∨ 2 < v) ∧ v1 = -2 ∧ h1 = h) ∨ (¬ x < 0 ∧ ¬ 1 < x ∧ ¬ v < 0 ∧ v ≤ 2 ∧ ((x = 0 ∧ v1 = eWa (eH h 3 n) ∧ CP g h h1 n c m (b + 1) (ruE (eH h 3 n) 0 v) (h 55)) ∨ (¬ x = 0 ∧ v1 = eSh (eH h 3 n) ∧ CP g h h1 n c m (b + 1) (ruE (eH h 3 n) 1 v) (h 55))))) : ∀ q, 62 ≤ q → h1 q = h q := by
  rcases p1 with ⟨a, e, e1⟩ | ⟨a1, a2, a3, a4, ⟨z, e, cp⟩ | ⟨z, e, cp⟩⟩
  · exact (CPi I e1).1
  · exact cp.1
  · exact cp.1

theorem j_set {g : GG} {n m b : Nat} {h h1 h2 : Hp} {c : Nat → Nat} {x v : Int32} {v1 v2 : Int32} (I : CI g h n c m b) (J : RF h1 n c m (eH h 3 n) (h 55)) (p1 : ((x < 0 ∨ 1 < x ∨ v < 0 ∨ 2 < v) ∧ v1 = -2 ∧ h1 = h) ∨ (¬ x < 0 ∧ ¬ 1 < x ∧ ¬ v < 0 ∧ v ≤ 2 ∧ ((x = 0 ∧ v1 = eWa (eH h 3 n) ∧ CP g h h1 n c m (b + 1) (ruE (eH h 3 n) 0 v) (h 55)) ∨ (¬ x = 0 ∧ v1 = eSh (eH h 3 n) ∧ CP g h h1 n c m (b + 1) (ruE (eH h 3 n) 1 v) (h 55))))) (p2 : ((x < 0 ∨ 1 < x ∨ v < 0 ∨ 2 < v) ∧ v2 = -2 ∧ h2 = h1) ∨ (¬ x < 0 ∧ ¬ 1 < x ∧ ¬ v < 0 ∧ v ≤ 2 ∧ ((x = 0 ∧ v2 = eWa (eH h 3 n) ∧ RP h1 h2 n c m (ruE (eH h 3 n) 0 v) (h 55)) ∨ (¬ x = 0 ∧ v2 = eSh (eH h 3 n) ∧ RP h1 h2 n c m (ruE (eH h 3 n) 1 v) (h 55))))) : v1 = v2 ∧ LX g h2 (b + 200) := by
  have hn6 := J.1.1
  rcases p1 with ⟨a, e, e1⟩ | ⟨a1, a2, a3, a4, q⟩
  · rcases p2 with ⟨a', e', e2⟩ | ⟨a1', a2', a3', a4', q'⟩
    · exact ⟨by rw [e, e'], LXo (CPi I e1) (RPi J e2) (by omega)⟩
    · rcases a with y | y | y | y
      · exact absurd y a1'
      · exact absurd y a2'
      · exact absurd y a3'
      · exact absurd a4' (Int32.not_le.mpr y)
  · rcases p2 with ⟨a', e', e2⟩ | ⟨a1', a2', a3', a4', q'⟩
    · rcases a' with y | y | y | y
      · exact absurd y a1
      · exact absurd y a2
      · exact absurd y a3
      · exact absurd a4 (Int32.not_le.mpr y)
    · rcases q with ⟨z, e, cp⟩ | ⟨z, e, cp⟩
      · rcases q' with ⟨z', e', rp⟩ | ⟨z', e', rp⟩
        · exact ⟨by rw [e, e'], LXo cp rp (by omega)⟩
        · exact absurd z z'
      · rcases q' with ⟨z', e', rp⟩ | ⟨z', e', rp⟩
        · exact absurd z' z
        · exact ⟨by rw [e, e'], LXo cp rp (by omega)⟩

theorem u_say {g : GG} {n m b : Nat} {h h1 : Hp} {c : Nat → Nat} {x : Int32} {v1 : Int32} (I : CI g h n c m b) (p1 : ((x < 33 ∨ 126 < x) ∧ v1 = -2 ∧ h1 = h) ∨ (¬ x < 33 ∧ x ≤ 126 ∧ m = 20 ∧ v1 = -4 ∧ h1 = h) ∨ (¬ x < 33 ∧ x ≤ 126 ∧ m < 20 ∧ v1 = nI (m + 1) ∧ CI g h1 n c (m + 1) b ∧ (∀ q, ¬ q = 54 → ¬ q = 55 → h1 q = h q) ∧ h1 55 = upd (h 55) m x)) : ∀ q, 62 ≤ q → h1 q = h q := by
  rcases p1 with ⟨a, e, e1⟩ | ⟨a, a2, em, e, e1⟩ | ⟨a, a2, em, e, ci, kq, es⟩
  · exact (CPi I e1).1
  · exact (CPi I e1).1
  · exact ((show CP g h h1 n c (m + 1) b (eH h 3 n) (upd (h 55) m x) from ⟨fun q z => kq q (by omega) (by omega), ci, eH_keep (fun q a b => kq q (by omega) (by omega)), es⟩)).1

theorem j_say {g : GG} {n m b : Nat} {h h1 h2 : Hp} {c : Nat → Nat} {x : Int32} {v1 v2 : Int32} (I : CI g h n c m b) (J : RF h1 n c m (eH h 3 n) (h 55)) (p1 : ((x < 33 ∨ 126 < x) ∧ v1 = -2 ∧ h1 = h) ∨ (¬ x < 33 ∧ x ≤ 126 ∧ m = 20 ∧ v1 = -4 ∧ h1 = h) ∨ (¬ x < 33 ∧ x ≤ 126 ∧ m < 20 ∧ v1 = nI (m + 1) ∧ CI g h1 n c (m + 1) b ∧ (∀ q, ¬ q = 54 → ¬ q = 55 → h1 q = h q) ∧ h1 55 = upd (h 55) m x)) (p2 : ((x < 33 ∨ 126 < x) ∧ v2 = -2 ∧ h2 = h1) ∨ (¬ x < 33 ∧ x ≤ 126 ∧ m = 20 ∧ v2 = -4 ∧ h2 = h1) ∨ (¬ x < 33 ∧ x ≤ 126 ∧ m < 20 ∧ v2 = nI (m + 1) ∧ RP h1 h2 n c (m + 1) (eH h 3 n) (upd (h 55) m x))) : v1 = v2 ∧ LX g h2 (b + 200) := by
  have hn6 := J.1.1
  rcases p1 with ⟨a, e, e1⟩ | ⟨a, a2, em, e, e1⟩ | ⟨a, a2, em, e, ci, kq, es⟩
  · rcases p2 with ⟨a', e', e2⟩ | ⟨a', a2', em', e', e2⟩ | ⟨a', a2', em', e', rp⟩
    · exact ⟨by rw [e, e'], LXo (CPi I e1) (RPi J e2) (by omega)⟩
    · exact (out_in a a' a2').elim
    · exact (out_in a a' a2').elim
  · rcases p2 with ⟨a', e', e2⟩ | ⟨a', a2', em', e', e2⟩ | ⟨a', a2', em', e', rp⟩
    · exact (out_in a' a a2).elim
    · exact ⟨by rw [e, e'], LXo (CPi I e1) (RPi J e2) (by omega)⟩
    · omega
  · rcases p2 with ⟨a', e', e2⟩ | ⟨a', a2', em', e', e2⟩ | ⟨a', a2', em', e', rp⟩
    · exact (out_in a' a a2).elim
    · omega
    · exact ⟨by rw [e, e'], LXo (show CP g h h1 n c (m + 1) b (eH h 3 n) (upd (h 55) m x) from ⟨fun q z => kq q (by omega) (by omega), ci, eH_keep (fun q a b => kq q (by omega) (by omega)), es⟩) rp (by omega)⟩

theorem u_wipe {g : GG} {n m b : Nat} {h h1 : Hp} {c : Nat → Nat} {v1 : Int32} (I : CI g h n c m b) (p1 : v1 = nI m ∧ CI g h1 n c 0 b ∧ ∀ q, ¬ q = 54 → h1 q = h q) : ∀ q, 62 ≤ q → h1 q = h q := by
  rcases p1 with ⟨e, ci, kq⟩
  exact ((show CP g h h1 n c 0 b (eH h 3 n) (h 55) from ⟨fun q z => kq q (by omega), ci, eH_keep (fun q a b => kq q (by omega)), by rw [kq 55 (by omega)]⟩)).1

theorem j_wipe {g : GG} {n m b : Nat} {h h1 h2 : Hp} {c : Nat → Nat} {v1 v2 : Int32} (I : CI g h n c m b) (J : RF h1 n c m (eH h 3 n) (h 55)) (p1 : v1 = nI m ∧ CI g h1 n c 0 b ∧ ∀ q, ¬ q = 54 → h1 q = h q) (p2 : v2 = nI m ∧ RP h1 h2 n c 0 (eH h 3 n) (h 55)) : v1 = v2 ∧ LX g h2 (b + 200) := by
  have hn6 := J.1.1
  obtain ⟨e, ci, kq⟩ := p1
  obtain ⟨e', rp⟩ := p2
  exact ⟨by rw [e, e'], LXo (show CP g h h1 n c 0 b (eH h 3 n) (h 55) from ⟨fun q z => kq q (by omega), ci, eH_keep (fun q a b => kq q (by omega)), by rw [kq 55 (by omega)]⟩) rp (by omega)⟩

theorem u_fault {g : GG} {n m b : Nat} {h h1 : Hp} {c : Nat → Nat} {v1 : Int32} (I : CI g h n c m b) (p1 : h1 = h ∧ v1 = (if n = 0 then 0 else ffF (h 55) (nI n) (nI (2 ^ n) - 1) m 0 0 0)) : ∀ q, 62 ≤ q → h1 q = h q := by
  rcases p1 with ⟨e1, e⟩
  exact (CPi I e1).1

theorem j_fault {g : GG} {n m b : Nat} {h h1 h2 : Hp} {c : Nat → Nat} {v1 v2 : Int32} (I : CI g h n c m b) (J : RF h1 n c m (eH h 3 n) (h 55)) (p1 : h1 = h ∧ v1 = (if n = 0 then 0 else ffF (h 55) (nI n) (nI (2 ^ n) - 1) m 0 0 0)) (p2 : h2 = h1 ∧ v2 = (if n = 0 then 0 else ffF (h 55) (nI n) (nI (2 ^ n) - 1) m 0 0 0)) : v1 = v2 ∧ LX g h2 (b + 200) := by
  have hn6 := J.1.1
  obtain ⟨e1, e⟩ := p1
  obtain ⟨e2, e'⟩ := p2
  exact ⟨by rw [e, e'], LXo (CPi I e1) (RPi J e2) (by omega)⟩

theorem u_union {g : GG} {n m b : Nat} {h h1 : Hp} {c : Nat → Nat} {x : Int32} {v1 : Int32} (I : CI g h n c m b) (p1 : h1 = h ∧ v1 = if isL n x = 0 then -1 else nI (c x.toNatClampNeg)) : ∀ q, 62 ≤ q → h1 q = h q := by
  rcases p1 with ⟨e1, e⟩
  exact (CPi I e1).1

theorem j_union {g : GG} {n m b : Nat} {h h1 h2 : Hp} {c : Nat → Nat} {x : Int32} {v1 v2 : Int32} (I : CI g h n c m b) (J : RF h1 n c m (eH h 3 n) (h 55)) (p1 : h1 = h ∧ v1 = if isL n x = 0 then -1 else nI (c x.toNatClampNeg)) (p2 : h2 = h1 ∧ v2 = if isL n x = 0 then -1 else nI (c x.toNatClampNeg)) : v1 = v2 ∧ LX g h2 (b + 200) := by
  have hn6 := J.1.1
  obtain ⟨e1, e⟩ := p1
  obtain ⟨e2, e'⟩ := p2
  exact ⟨by rw [e, e'], LXo (CPi I e1) (RPi J e2) (by omega)⟩

theorem u_told {g : GG} {n m b : Nat} {h h1 : Hp} {c : Nat → Nat} {x : Int32} {v1 : Int32} (I : CI g h n c m b) (p1 : h1 = h ∧ v1 = (if ¬ x < 10 ∧ ¬ 15 < x then (if isL n (x - 10) = 0 then -6 else eC (eH h 3 n) (x - 10).toNatClampNeg) else if x = nI 0 then nI n else if x = nI 1 then nI m else if x = nI 2 then eWa (eH h 3 n) else if x = nI 3 then eSh (eH h 3 n) else if x = nI 4 then nI (mx c n) else -2)) : ∀ q, 62 ≤ q → h1 q = h q := by
  rcases p1 with ⟨e1, e⟩
  exact (CPi I e1).1

theorem j_told {g : GG} {n m b : Nat} {h h1 h2 : Hp} {c : Nat → Nat} {x : Int32} {v1 v2 : Int32} (I : CI g h n c m b) (J : RF h1 n c m (eH h 3 n) (h 55)) (p1 : h1 = h ∧ v1 = (if ¬ x < 10 ∧ ¬ 15 < x then (if isL n (x - 10) = 0 then -6 else eC (eH h 3 n) (x - 10).toNatClampNeg) else if x = nI 0 then nI n else if x = nI 1 then nI m else if x = nI 2 then eWa (eH h 3 n) else if x = nI 3 then eSh (eH h 3 n) else if x = nI 4 then nI (mx c n) else -2)) (p2 : h2 = h1 ∧ v2 = (if ¬ x < 10 ∧ ¬ 15 < x then (if isL n (x - 10) = 0 then -6 else eC (eH h 3 n) (x - 10).toNatClampNeg) else if x = nI 0 then nI n else if x = nI 1 then nI m else if x = nI 2 then eWa (eH h 3 n) else if x = nI 3 then eSh (eH h 3 n) else if x = nI 4 then nI (mx c n) else -2)) : v1 = v2 ∧ LX g h2 (b + 200) := by
  have hn6 := J.1.1
  obtain ⟨e1, e⟩ := p1
  obtain ⟨e2, e'⟩ := p2
  exact ⟨by rw [e, e'], LXo (CPi I e1) (RPi J e2) (by omega)⟩

theorem u_all {g : GG} {n m b : Nat} {h h1 : Hp} {c : Nat → Nat} {x : Int32} {v1 : Int32} (I : CI g h n c m b) (p1 : v1 = (if x = nI 0 then sgF (eH h 3 n) (lab c) n else if x = nI 1 then bpF (eH h 3 n) n (bell n) else if x = nI 2 then nI (bell n) else -2) ∧ CP g h h1 n c m b (eH h 3 n) (h 55)) : ∀ q, 62 ≤ q → h1 q = h q := by
  rcases p1 with ⟨e, cp⟩
  exact (cp).1

theorem j_all {g : GG} {n m b : Nat} {h h1 h2 : Hp} {c : Nat → Nat} {x : Int32} {v1 v2 : Int32} (I : CI g h n c m b) (J : RF h1 n c m (eH h 3 n) (h 55)) (p1 : v1 = (if x = nI 0 then sgF (eH h 3 n) (lab c) n else if x = nI 1 then bpF (eH h 3 n) n (bell n) else if x = nI 2 then nI (bell n) else -2) ∧ CP g h h1 n c m b (eH h 3 n) (h 55)) (p2 : v2 = (if x = nI 0 then sgF (eH h 3 n) (lab c) n else if x = nI 1 then bpF (eH h 3 n) n (bell n) else if x = nI 2 then nI (bell n) else -2) ∧ RP h1 h2 n c m (eH h 3 n) (h 55)) : v1 = v2 ∧ LX g h2 (b + 200) := by
  have hn6 := J.1.1
  obtain ⟨e, cp⟩ := p1
  obtain ⟨e', rp⟩ := p2
  exact ⟨by rw [e, e'], LXo cp rp (by omega)⟩

theorem u_rules {g : GG} {n m b : Nat} {h h1 : Hp} {c : Nat → Nat} {v1 : Int32} (I : CI g h n c m b) (p1 : v1 = ruF (eH h 3 n) (lab c) 3 ∧ CP g h h1 n c m (b + 4) (eH h 3 n) (h 55)) : ∀ q, 62 ≤ q → h1 q = h q := by
  rcases p1 with ⟨e, cp⟩
  exact (cp).1

theorem j_rules {g : GG} {n m b : Nat} {h h1 h2 : Hp} {c : Nat → Nat} {v1 v2 : Int32} (I : CI g h n c m b) (J : RF h1 n c m (eH h 3 n) (h 55)) (p1 : v1 = ruF (eH h 3 n) (lab c) 3 ∧ CP g h h1 n c m (b + 4) (eH h 3 n) (h 55)) (p2 : v2 = ruF (eH h 3 n) (lab c) 3 ∧ RP h1 h2 n c m (eH h 3 n) (h 55)) : v1 = v2 ∧ LX g h2 (b + 200) := by
  have hn6 := J.1.1
  obtain ⟨e, cp⟩ := p1
  obtain ⟨e', rp⟩ := p2
  exact ⟨by rw [e, e'], LXo cp rp (by omega)⟩

theorem u_holds {g : GG} {n m b : Nat} {h h1 : Hp} {c : Nat → Nat} {v1 : Int32} (I : CI g h n c m b) (p1 : v1 = hoF (eH h 3 n) (lab c) n ∧ CP g h h1 n c m b (eH h 3 n) (h 55)) : ∀ q, 62 ≤ q → h1 q = h q := by
  rcases p1 with ⟨e, cp⟩
  exact (cp).1

theorem j_holds {g : GG} {n m b : Nat} {h h1 h2 : Hp} {c : Nat → Nat} {v1 v2 : Int32} (I : CI g h n c m b) (J : RF h1 n c m (eH h 3 n) (h 55)) (p1 : v1 = hoF (eH h 3 n) (lab c) n ∧ CP g h h1 n c m b (eH h 3 n) (h 55)) (p2 : v2 = hoF (eH h 3 n) (lab c) n ∧ RP h1 h2 n c m (eH h 3 n) (h 55)) : v1 = v2 ∧ LX g h2 (b + 200) := by
  have hn6 := J.1.1
  obtain ⟨e, cp⟩ := p1
  obtain ⟨e', rp⟩ := p2
  exact ⟨by rw [e, e'], LXo cp rp (by omega)⟩

theorem u_part {g : GG} {n m b : Nat} {h h1 : Hp} {c : Nat → Nat} {v1 : Int32} (I : CI g h n c m b) (p1 : (¬ (if n = 0 then 0 else ffF (h 55) (nI n) (nI (2 ^ n) - 1) m 0 0 0) = -6 ∧ v1 = -5 ∧ h1 = h) ∨ ((if n = 0 then 0 else ffF (h 55) (nI n) (nI (2 ^ n) - 1) m 0 0 0) = -6 ∧ ∃ c', CanOf n (pR (h 55) (nI n) (h 57) m).1 c' ∧ v1 = nI (mx c' n) ∧ CP g h h1 n c' 0 b (eH h 3 n) (h 55))) : ∀ q, 62 ≤ q → h1 q = h q := by
  rcases p1 with ⟨a, e, e1⟩ | ⟨a, c', hc', e, cp⟩
  · exact (CPi I e1).1
  · exact (cp).1

theorem j_part {g : GG} {n m b : Nat} {h h1 h2 : Hp} {c : Nat → Nat} {v1 v2 : Int32} (I : CI g h n c m b) (J : RF h1 n c m (eH h 3 n) (h 55)) (p1 : (¬ (if n = 0 then 0 else ffF (h 55) (nI n) (nI (2 ^ n) - 1) m 0 0 0) = -6 ∧ v1 = -5 ∧ h1 = h) ∨ ((if n = 0 then 0 else ffF (h 55) (nI n) (nI (2 ^ n) - 1) m 0 0 0) = -6 ∧ ∃ c', CanOf n (pR (h 55) (nI n) (h 57) m).1 c' ∧ v1 = nI (mx c' n) ∧ CP g h h1 n c' 0 b (eH h 3 n) (h 55))) (p2 : (¬ (if n = 0 then 0 else ffF (h 55) (nI n) (nI (2 ^ n) - 1) m 0 0 0) = -6 ∧ v2 = -5 ∧ h2 = h1) ∨ ((if n = 0 then 0 else ffF (h 55) (nI n) (nI (2 ^ n) - 1) m 0 0 0) = -6 ∧ ∃ c', CanOf n (pR (h 55) (nI n) (h1 64) m).1 c' ∧ v2 = nI (mx c' n) ∧ RP h1 h2 n c' 0 (eH h 3 n) (h 55))) : v1 = v2 ∧ LX g h2 (b + 200) := by
  have hn6 := J.1.1
  rcases p1 with ⟨a, e, e1⟩ | ⟨a, c1, hc1, e, cp⟩
  · rcases p2 with ⟨a', e', e2⟩ | ⟨a', c2, hc2, e', rp⟩
    · exact ⟨by rw [e, e'], LXo (CPi I e1) (RPi J e2) (by omega)⟩
    · exact absurd a' a
  · rcases p2 with ⟨a', e', e2⟩ | ⟨a', c2, hc2, e', rp⟩
    · exact absurd a a'
    · have hz : ¬ n = 0 := fun q => by rw [if_pos q] at a; exact absurd a (by decide)
      rw [if_neg hz] at a
      have lb := (tel_run (r0 := h 57) (r1 := h1 64) hn6 m 0 0 0 a (by have := J.2.2.2.2.1.2; omega) tel_0).1
      rw [Nat.zero_add] at lb
      have ec : ∀ l, l < n → c2 l = c1 l := CanOf.uniq hc2 (hc1.congr (fun l hl => by obtain ⟨x, _, y1, y2⟩ := lb l hl; rw [y1, y2]))
      exact ⟨by rw [e, e', mx_congr ec], LXo cp ⟨rp.1, rp.2.cc ec⟩ (by omega)⟩

theorem u_of {g : GG} {n m b : Nat} {h h1 : Hp} {c : Nat → Nat} {x w : Int32} {v1 : Int32} (I : CI g h n c m b) (p1 : (isL n x = 0 ∧ v1 = -1 ∧ h1 = h) ∨ (¬ isL n x = 0 ∧ (w < 0 ∨ 5 < w) ∧ v1 = -2 ∧ h1 = h) ∨ ∃ k, k < n ∧ x = nI k ∧ ¬ w < 0 ∧ w ≤ 5 ∧ v1 = ofW (eH h 3 n) (lab c) k w ∧ CP g h h1 n c m b (eH h 3 n) (h 55)) : ∀ q, 62 ≤ q → h1 q = h q := by
  rcases p1 with ⟨a, e, e1⟩ | ⟨a, f, e, e1⟩ | ⟨k, hk, ex, f1, f2, e, cp⟩
  · exact (CPi I e1).1
  · exact (CPi I e1).1
  · exact (cp).1

theorem j_of {g : GG} {n m b : Nat} {h h1 h2 : Hp} {c : Nat → Nat} {x w : Int32} {v1 v2 : Int32} (I : CI g h n c m b) (J : RF h1 n c m (eH h 3 n) (h 55)) (p1 : (isL n x = 0 ∧ v1 = -1 ∧ h1 = h) ∨ (¬ isL n x = 0 ∧ (w < 0 ∨ 5 < w) ∧ v1 = -2 ∧ h1 = h) ∨ ∃ k, k < n ∧ x = nI k ∧ ¬ w < 0 ∧ w ≤ 5 ∧ v1 = ofW (eH h 3 n) (lab c) k w ∧ CP g h h1 n c m b (eH h 3 n) (h 55)) (p2 : (isL n x = 0 ∧ v2 = -1 ∧ h2 = h1) ∨ ∃ k, k < n ∧ x = nI k ∧ RP h1 h2 n c m (eH h 3 n) (h 55) ∧ (((w < 0 ∨ 5 < w) ∧ v2 = -2) ∨ (¬ w < 0 ∧ w ≤ 5 ∧ v2 = ofW (eH h 3 n) (lab c) k w))) : v1 = v2 ∧ LX g h2 (b + 200) := by
  have hn6 := J.1.1
  rcases p1 with ⟨a, e, e1⟩ | ⟨a, f, e, e1⟩ | ⟨k, hk, ex, f1, f2, e, cp⟩
  · rcases p2 with ⟨a', e', e2⟩ | ⟨k', hk', ex', rp, q⟩
    · exact ⟨by rw [e, e'], LXo (CPi I e1) (RPi J e2) (by omega)⟩
    · exact (noL hn6 a hk' ex').elim
  · rcases p2 with ⟨a', e', e2⟩ | ⟨k', hk', ex', rp, ⟨f', e'⟩ | ⟨f1', f2', e'⟩⟩
    · exact absurd a' a
    · exact ⟨by rw [e, e'], LXo (CPi I e1) rp (by omega)⟩
    · exact (out_in f f1' f2').elim
  · rcases p2 with ⟨a', e', e2⟩ | ⟨k', hk', ex', rp, ⟨f', e'⟩ | ⟨f1', f2', e'⟩⟩
    · exact (noL hn6 a' hk ex).elim
    · exact (out_in f' f1 f2).elim
    · obtain rfl := kk hn6 ex hk ex' hk'
      exact ⟨by rw [e, e'], LXo cp rp (by omega)⟩

theorem u_breaks {g : GG} {n m b : Nat} {h h1 : Hp} {c : Nat → Nat} {x : Int32} {v1 : Int32} (I : CI g h n c m b) (p1 : (isL 3 x = 0 ∧ v1 = -2 ∧ h1 = h) ∨ ∃ k, k < 3 ∧ x = nI k ∧ v1 = brk (eH h 3 n) (lab c) (mx c n) k ∧ CP g h h1 n c m b (eH h 3 n) (h 55)) : ∀ q, 62 ≤ q → h1 q = h q := by
  rcases p1 with ⟨a, e, e1⟩ | ⟨k, hk, ex, e, cp⟩
  · exact (CPi I e1).1
  · exact (cp).1

theorem j_breaks {g : GG} {n m b : Nat} {h h1 h2 : Hp} {c : Nat → Nat} {x : Int32} {v1 v2 : Int32} (I : CI g h n c m b) (J : RF h1 n c m (eH h 3 n) (h 55)) (p1 : (isL 3 x = 0 ∧ v1 = -2 ∧ h1 = h) ∨ ∃ k, k < 3 ∧ x = nI k ∧ v1 = brk (eH h 3 n) (lab c) (mx c n) k ∧ CP g h h1 n c m b (eH h 3 n) (h 55)) (p2 : (isL 3 x = 0 ∧ v2 = -2 ∧ h2 = h1) ∨ ∃ k, k < 3 ∧ x = nI k ∧ v2 = brk (eH h 3 n) (lab c) (mx c n) k ∧ RP h1 h2 n c m (eH h 3 n) (h 55)) : v1 = v2 ∧ LX g h2 (b + 200) := by
  have hn6 := J.1.1
  rcases p1 with ⟨a, e, e1⟩ | ⟨k, hk, ex, e, cp⟩
  · rcases p2 with ⟨a', e', e2⟩ | ⟨k', hk', ex', e', rp⟩
    · exact ⟨by rw [e, e'], LXo (CPi I e1) (RPi J e2) (by omega)⟩
    · exact (noL (show 3 ≤ 6 by omega) a hk' ex').elim
  · rcases p2 with ⟨a', e', e2⟩ | ⟨k', hk', ex', e', rp⟩
    · exact (noL (show 3 ≤ 6 by omega) a' hk ex).elim
    · obtain rfl := kk (show 3 ≤ 6 by omega) ex hk ex' hk'
      exact ⟨by rw [e, e'], LXo cp rp (by omega)⟩

theorem u_edge {g : GG} {n m b : Nat} {h h1 : Hp} {c : Nat → Nat} {x : Int32} {v1 : Int32} (I : CI g h n c m b) (p1 : (isL n x = 0 ∧ v1 = -1 ∧ h1 = h) ∨ ∃ k, k < n ∧ x = nI k ∧ v1 = egF (eH h 3 n) (lab c) k (stB (eH h 3 n) (lab c)) 98 1 ∧ CP g h h1 n c m (b + 200) (eH h 3 n) (h 55)) : ∀ q, 62 ≤ q → h1 q = h q := by
  rcases p1 with ⟨a, e, e1⟩ | ⟨k, hk, ex, e, cp⟩
  · exact (CPi I e1).1
  · exact (cp).1

theorem j_edge {g : GG} {n m b : Nat} {h h1 h2 : Hp} {c : Nat → Nat} {x : Int32} {v1 v2 : Int32} (I : CI g h n c m b) (J : RF h1 n c m (eH h 3 n) (h 55)) (p1 : (isL n x = 0 ∧ v1 = -1 ∧ h1 = h) ∨ ∃ k, k < n ∧ x = nI k ∧ v1 = egF (eH h 3 n) (lab c) k (stB (eH h 3 n) (lab c)) 98 1 ∧ CP g h h1 n c m (b + 200) (eH h 3 n) (h 55)) (p2 : (isL n x = 0 ∧ v2 = -1 ∧ h2 = h1) ∨ ∃ k, k < n ∧ x = nI k ∧ v2 = egF (eH h 3 n) (lab c) k (stB (eH h 3 n) (lab c)) 98 1 ∧ RP h1 h2 n c m (eH h 3 n) (h 55)) : v1 = v2 ∧ LX g h2 (b + 200) := by
  have hn6 := J.1.1
  rcases p1 with ⟨a, e, e1⟩ | ⟨k, hk, ex, e, cp⟩
  · rcases p2 with ⟨a', e', e2⟩ | ⟨k', hk', ex', e', rp⟩
    · exact ⟨by rw [e, e'], LXo (CPi I e1) (RPi J e2) (by omega)⟩
    · exact (noL hn6 a hk' ex').elim
  · rcases p2 with ⟨a', e', e2⟩ | ⟨k', hk', ex', e', rp⟩
    · exact (noL hn6 a' hk ex).elim
    · obtain rfl := kk hn6 ex hk ex' hk'
      exact ⟨by rw [e, e'], LXo cp rp (by omega)⟩

theorem u_rests {g : GG} {n m b : Nat} {h h1 : Hp} {c : Nat → Nat} {y i x : Int32} {v1 : Int32} (I : CI g h n c m b) (p1 : (¬ i = -1 ∧ isL n x = 0 ∧ v1 = -1 ∧ h1 = h) ∨ ((i = -1 ∨ ¬ isL n x = 0) ∧ isL 3 y = 0 ∧ v1 = -2 ∧ h1 = h) ∨ ∃ rest, rest < 3 ∧ y = nI rest ∧ (i = -1 ∨ ¬ isL n x = 0) ∧ v1 = rsF (rsP (eH h 3 n) n rest) i (fun k => nI (rwN n k x.toNatClampNeg)) (bell n) 0 0 ∧ CP g h h1 n c m b (eH h 3 n) (h 55)) : ∀ q, 62 ≤ q → h1 q = h q := by
  rcases p1 with ⟨a, a2, e, e1⟩ | ⟨a, a2, e, e1⟩ | ⟨k, hk, ex, hx, e, cp⟩
  · exact (CPi I e1).1
  · exact (CPi I e1).1
  · exact (cp).1

theorem j_rests {g : GG} {n m b : Nat} {h h1 h2 : Hp} {c : Nat → Nat} {y i x : Int32} {v1 v2 : Int32} (I : CI g h n c m b) (J : RF h1 n c m (eH h 3 n) (h 55)) (p1 : (¬ i = -1 ∧ isL n x = 0 ∧ v1 = -1 ∧ h1 = h) ∨ ((i = -1 ∨ ¬ isL n x = 0) ∧ isL 3 y = 0 ∧ v1 = -2 ∧ h1 = h) ∨ ∃ rest, rest < 3 ∧ y = nI rest ∧ (i = -1 ∨ ¬ isL n x = 0) ∧ v1 = rsF (rsP (eH h 3 n) n rest) i (fun k => nI (rwN n k x.toNatClampNeg)) (bell n) 0 0 ∧ CP g h h1 n c m b (eH h 3 n) (h 55)) (p2 : (¬ i = -1 ∧ isL n x = 0 ∧ v2 = -1 ∧ h2 = h1) ∨ ((i = -1 ∨ ¬ isL n x = 0) ∧ isL 3 y = 0 ∧ v2 = -2 ∧ h2 = h1) ∨ ∃ rest, rest < 3 ∧ y = nI rest ∧ (i = -1 ∨ ¬ isL n x = 0) ∧ v2 = rsF (rsP (eH h 3 n) n rest) i (fun k => nI (rwN n k x.toNatClampNeg)) (bell n) 0 0 ∧ RP h1 h2 n c m (eH h 3 n) (h 55)) : v1 = v2 ∧ LX g h2 (b + 200) := by
  have hn6 := J.1.1
  rcases p1 with ⟨a, a2, e, e1⟩ | ⟨a, a2, e, e1⟩ | ⟨k, hk, ex, hx, e, cp⟩
  · rcases p2 with ⟨a', a2', e', e2⟩ | ⟨a', a2', e', e2⟩ | ⟨k', hk', ex', hx', e', rp⟩
    · exact ⟨by rw [e, e'], LXo (CPi I e1) (RPi J e2) (by omega)⟩
    · exact (a'.elim a (fun z => z a2)).elim
    · exact (hx'.elim a (fun z => z a2)).elim
  · rcases p2 with ⟨a', a2', e', e2⟩ | ⟨a', a2', e', e2⟩ | ⟨k', hk', ex', hx', e', rp⟩
    · exact (a.elim a' (fun z => z a2')).elim
    · exact ⟨by rw [e, e'], LXo (CPi I e1) (RPi J e2) (by omega)⟩
    · exact (noL (show 3 ≤ 6 by omega) a2 hk' ex').elim
  · rcases p2 with ⟨a', a2', e', e2⟩ | ⟨a', a2', e', e2⟩ | ⟨k', hk', ex', hx', e', rp⟩
    · exact (hx.elim a' (fun z => z a2')).elim
    · exact (noL (show 3 ≤ 6 by omega) a2' hk ex).elim
    · obtain rfl := kk (show 3 ≤ 6 by omega) ex hk ex' hk'
      exact ⟨by rw [e, e'], LXo cp rp (by omega)⟩

theorem u_whole {g : GG} {n m b : Nat} {h h1 : Hp} {c : Nat → Nat} {x : Int32} {v1 : Int32} (I : CI g h n c m b) (p1 : ((x < 0 ∨ 2 < x) ∧ v1 = -2 ∧ h1 = h) ∨ (¬ x < 0 ∧ x ≤ 2 ∧ v1 = (if x = 2 then (if wsF (eH h 3 n) n < wnF (eH h 3 n) n then 0 else 1) else if x = 0 then wnF (eH h 3 n) n else wsF (eH h 3 n) n) ∧ CP g h h1 n c m b (eH h 3 n) (h 55))) : ∀ q, 62 ≤ q → h1 q = h q := by
  rcases p1 with ⟨a, e, e1⟩ | ⟨a1, a2, e, cp⟩
  · exact (CPi I e1).1
  · exact (cp).1

theorem j_whole {g : GG} {n m b : Nat} {h h1 h2 : Hp} {c : Nat → Nat} {x : Int32} {v1 v2 : Int32} (I : CI g h n c m b) (J : RF h1 n c m (eH h 3 n) (h 55)) (p1 : ((x < 0 ∨ 2 < x) ∧ v1 = -2 ∧ h1 = h) ∨ (¬ x < 0 ∧ x ≤ 2 ∧ v1 = (if x = 2 then (if wsF (eH h 3 n) n < wnF (eH h 3 n) n then 0 else 1) else if x = 0 then wnF (eH h 3 n) n else wsF (eH h 3 n) n) ∧ CP g h h1 n c m b (eH h 3 n) (h 55))) (p2 : ((x < 0 ∨ 2 < x) ∧ v2 = -2 ∧ h2 = h1) ∨ (¬ x < 0 ∧ x ≤ 2 ∧ v2 = (if x = 2 then (if wsF (eH h 3 n) n < wnF (eH h 3 n) n then 0 else 1) else if x = 0 then wnF (eH h 3 n) n else wsF (eH h 3 n) n) ∧ RP h1 h2 n c m (eH h 3 n) (h 55))) : v1 = v2 ∧ LX g h2 (b + 200) := by
  have hn6 := J.1.1
  rcases p1 with ⟨a, e, e1⟩ | ⟨a1, a2, e, cp⟩
  · rcases p2 with ⟨a', e', e2⟩ | ⟨a1', a2', e', rp⟩
    · exact ⟨by rw [e, e'], LXo (CPi I e1) (RPi J e2) (by omega)⟩
    · exact (out_in a a1' a2').elim
  · rcases p2 with ⟨a', e', e2⟩ | ⟨a1', a2', e', rp⟩
    · exact (out_in a' a1 a2).elim
    · exact ⟨by rw [e, e'], LXo cp rp (by omega)⟩

theorem u_hurt {g : GG} {n m b : Nat} {h h1 : Hp} {c : Nat → Nat} {x : Int32} {v1 : Int32} (I : CI g h n c m b) (p1 : (isL (mx c n) x = 0 ∧ v1 = -2 ∧ h1 = h) ∨ (¬ isL (mx c n) x = 0 ∧ v1 = huF (eH h 3 n) (lab c) x n ∧ CP g h h1 n c m b (eH h 3 n) (h 55))) : ∀ q, 62 ≤ q → h1 q = h q := by
  rcases p1 with ⟨a, e, e1⟩ | ⟨a1, e, cp⟩
  · exact (CPi I e1).1
  · exact (cp).1

theorem j_hurt {g : GG} {n m b : Nat} {h h1 h2 : Hp} {c : Nat → Nat} {x : Int32} {v1 v2 : Int32} (I : CI g h n c m b) (J : RF h1 n c m (eH h 3 n) (h 55)) (p1 : (isL (mx c n) x = 0 ∧ v1 = -2 ∧ h1 = h) ∨ (¬ isL (mx c n) x = 0 ∧ v1 = huF (eH h 3 n) (lab c) x n ∧ CP g h h1 n c m b (eH h 3 n) (h 55))) (p2 : (isL (mx c n) x = 0 ∧ v2 = -2 ∧ h2 = h1) ∨ (¬ isL (mx c n) x = 0 ∧ v2 = huF (eH h 3 n) (lab c) x n ∧ RP h1 h2 n c m (eH h 3 n) (h 55))) : v1 = v2 ∧ LX g h2 (b + 200) := by
  have hn6 := J.1.1
  rcases p1 with ⟨a, e, e1⟩ | ⟨a1, e, cp⟩
  · rcases p2 with ⟨a', e', e2⟩ | ⟨a1', e', rp⟩
    · exact ⟨by rw [e, e'], LXo (CPi I e1) (RPi J e2) (by omega)⟩
    · exact absurd a a1'
  · rcases p2 with ⟨a', e', e2⟩ | ⟨a1', e', rp⟩
    · exact absurd a' a1
    · exact ⟨by rw [e, e'], LXo cp rp (by omega)⟩

theorem u_propose {g : GG} {n m b : Nat} {h h1 : Hp} {c : Nat → Nat} {x w : Int32} {v1 : Int32} (I : CI g h n c m b) (p1 : (isL n x = 0 ∧ v1 = -1 ∧ h1 = h) ∨ ∃ k, k < n ∧ x = nI k ∧ (((w < 0 ∨ 1 < w) ∧ v1 = -2 ∧ h1 = h) ∨ (¬ w < 0 ∧ w ≤ 1 ∧ v1 = (if w = 0 then (ppF (eH h 3 n) (lab c) k (2 ^ n - 1)).1 else (ppF (eH h 3 n) (lab c) k (2 ^ n - 1)).2) ∧ CP g h h1 n c m b (eH h 3 n) (h 55)))) : ∀ q, 62 ≤ q → h1 q = h q := by
  rcases p1 with ⟨a, e, e1⟩ | ⟨k, hk, ex, ⟨f, e, e1⟩ | ⟨f1, f2, e, cp⟩⟩
  · exact (CPi I e1).1
  · exact (CPi I e1).1
  · exact cp.1

theorem j_propose {g : GG} {n m b : Nat} {h h1 h2 : Hp} {c : Nat → Nat} {x w : Int32} {v1 v2 : Int32} (I : CI g h n c m b) (J : RF h1 n c m (eH h 3 n) (h 55)) (p1 : (isL n x = 0 ∧ v1 = -1 ∧ h1 = h) ∨ ∃ k, k < n ∧ x = nI k ∧ (((w < 0 ∨ 1 < w) ∧ v1 = -2 ∧ h1 = h) ∨ (¬ w < 0 ∧ w ≤ 1 ∧ v1 = (if w = 0 then (ppF (eH h 3 n) (lab c) k (2 ^ n - 1)).1 else (ppF (eH h 3 n) (lab c) k (2 ^ n - 1)).2) ∧ CP g h h1 n c m b (eH h 3 n) (h 55)))) (p2 : (isL n x = 0 ∧ v2 = -1 ∧ h2 = h1) ∨ ∃ k, k < n ∧ x = nI k ∧ (((w < 0 ∨ 1 < w) ∧ v2 = -2 ∧ h2 = h1) ∨ (¬ w < 0 ∧ w ≤ 1 ∧ v2 = (if w = 0 then (ppF (eH h 3 n) (lab c) k (2 ^ n - 1)).1 else (ppF (eH h 3 n) (lab c) k (2 ^ n - 1)).2) ∧ RP h1 h2 n c m (eH h 3 n) (h 55)))) : v1 = v2 ∧ LX g h2 (b + 200) := by
  have hn6 := J.1.1
  rcases p1 with ⟨a, e, e1⟩ | ⟨k, hk, ex, ⟨f, e, e1⟩ | ⟨f1, f2, e, cp⟩⟩
  · rcases p2 with ⟨a', e', e2⟩ | ⟨k', hk', ex', q⟩
    · exact ⟨by rw [e, e'], LXo (CPi I e1) (RPi J e2) (by omega)⟩
    · exact (noL hn6 a hk' ex').elim
  · rcases p2 with ⟨a', e', e2⟩ | ⟨k', hk', ex', ⟨f', e', e2⟩ | ⟨f1', f2', e', rp⟩⟩
    · exact (noL hn6 a' hk ex).elim
    · exact ⟨by rw [e, e'], LXo (CPi I e1) (RPi J e2) (by omega)⟩
    · exact (out_in f f1' f2').elim
  · rcases p2 with ⟨a', e', e2⟩ | ⟨k', hk', ex', ⟨f', e', e2⟩ | ⟨f1', f2', e', rp⟩⟩
    · exact (noL hn6 a' hk ex).elim
    · exact (out_in f' f1 f2).elim
    · obtain rfl := kk hn6 ex hk ex' hk'
      exact ⟨by rw [e, e'], LXo cp rp (by omega)⟩

theorem u_enter {g : GG} {n m b : Nat} {h h1 : Hp} {c : Nat → Nat} {x u w : Int32} {v1 : Int32} (I : CI g h n c m b) (p1 : (isL n x = 0 ∧ v1 = -1000000001 ∧ h1 = h) ∨ ∃ k, k < n ∧ x = nI k ∧ (((isL (mx c n) u = 0 ∨ lab c k = u ∨ w < 0 ∨ 1 < w) ∧ v1 = -1000000002 ∧ h1 = h) ∨ (¬ isL (mx c n) u = 0 ∧ ¬ lab c k = u ∧ ¬ w < 0 ∧ w ≤ 1 ∧ v1 = (if w = 0 then goodS (eH h 3 n) (upd (lab c) k u) k - goodS (eH h 3 n) (lab c) k else enF (eH h 3 n) (lab c) k u n) ∧ CP g h h1 n c m b (eH h 3 n) (h 55)))) : ∀ q, 62 ≤ q → h1 q = h q := by
  rcases p1 with ⟨a, e, e1⟩ | ⟨k, hk, ex, ⟨f, e, e1⟩ | ⟨f1, f2, f3, f4, e, cp⟩⟩
  · exact (CPi I e1).1
  · exact (CPi I e1).1
  · exact cp.1

theorem j_enter {g : GG} {n m b : Nat} {h h1 h2 : Hp} {c : Nat → Nat} {x u w : Int32} {v1 v2 : Int32} (I : CI g h n c m b) (J : RF h1 n c m (eH h 3 n) (h 55)) (p1 : (isL n x = 0 ∧ v1 = -1000000001 ∧ h1 = h) ∨ ∃ k, k < n ∧ x = nI k ∧ (((isL (mx c n) u = 0 ∨ lab c k = u ∨ w < 0 ∨ 1 < w) ∧ v1 = -1000000002 ∧ h1 = h) ∨ (¬ isL (mx c n) u = 0 ∧ ¬ lab c k = u ∧ ¬ w < 0 ∧ w ≤ 1 ∧ v1 = (if w = 0 then goodS (eH h 3 n) (upd (lab c) k u) k - goodS (eH h 3 n) (lab c) k else enF (eH h 3 n) (lab c) k u n) ∧ CP g h h1 n c m b (eH h 3 n) (h 55)))) (p2 : (isL n x = 0 ∧ v2 = -1000000001 ∧ h2 = h1) ∨ ∃ k, k < n ∧ x = nI k ∧ (((isL (mx c n) u = 0 ∨ lab c k = u ∨ w < 0 ∨ 1 < w) ∧ v2 = -1000000002 ∧ h2 = h1) ∨ (¬ isL (mx c n) u = 0 ∧ ¬ lab c k = u ∧ ¬ w < 0 ∧ w ≤ 1 ∧ v2 = (if w = 0 then goodS (eH h 3 n) (upd (lab c) k u) k - goodS (eH h 3 n) (lab c) k else enF (eH h 3 n) (lab c) k u n) ∧ RP h1 h2 n c m (eH h 3 n) (h 55)))) : v1 = v2 ∧ LX g h2 (b + 200) := by
  have hn6 := J.1.1
  have key : ∀ (k : Nat), (isL (mx c n) u = 0 ∨ lab c k = u ∨ w < 0 ∨ 1 < w) → ¬ isL (mx c n) u = 0 → ¬ lab c k = u → ¬ w < 0 → w ≤ 1 → False := by
    intro k z z1 z2 z3 z4
    rcases z with y | y | y
    · exact z1 y
    · exact z2 y
    · exact out_in y z3 z4
  rcases p1 with ⟨a, e, e1⟩ | ⟨k, hk, ex, ⟨f, e, e1⟩ | ⟨f1, f2, f3, f4, e, cp⟩⟩
  · rcases p2 with ⟨a', e', e2⟩ | ⟨k', hk', ex', q⟩
    · exact ⟨by rw [e, e'], LXo (CPi I e1) (RPi J e2) (by omega)⟩
    · exact (noL hn6 a hk' ex').elim
  · rcases p2 with ⟨a', e', e2⟩ | ⟨k', hk', ex', ⟨f', e', e2⟩ | ⟨f1', f2', f3', f4', e', rp⟩⟩
    · exact (noL hn6 a' hk ex).elim
    · exact ⟨by rw [e, e'], LXo (CPi I e1) (RPi J e2) (by omega)⟩
    · obtain rfl := kk hn6 ex hk ex' hk'
      exact (key _ f f1' f2' f3' f4').elim
  · rcases p2 with ⟨a', e', e2⟩ | ⟨k', hk', ex', ⟨f', e', e2⟩ | ⟨f1', f2', f3', f4', e', rp⟩⟩
    · exact (noL hn6 a' hk ex).elim
    · obtain rfl := kk hn6 ex hk ex' hk'
      exact (key _ f' f1 f2 f3 f4).elim
    · obtain rfl := kk hn6 ex hk ex' hk'
      exact ⟨by rw [e, e'], LXo cp rp (by omega)⟩

theorem u_go {g : GG} {n m b : Nat} {h h1 : Hp} {c : Nat → Nat} {x w : Int32} {v1 : Int32} (I : CI g h n c m b) (p1 : (isL n x = 0 ∧ v1 = -1 ∧ h1 = h) ∨ (¬ isL n x = 0 ∧ ¬ w = 0 ∧ ¬ w = 1 ∧ ¬ (¬ w < 10 ∧ ¬ 15 < w) ∧ v1 = -2 ∧ h1 = h) ∨ (¬ isL n x = 0 ∧ (¬ w < 10 ∧ ¬ 15 < w) ∧ isL n (w - 10) = 0 ∧ v1 = -6 ∧ h1 = h) ∨ ∃ k, k < n ∧ x = nI k ∧ CP g h h1 n c m b (eH h 3 n) (h 55) ∧ TP (eH h 3 n) n 42 c k h1 ∧ (((¬ w < 10 ∧ ¬ 15 < w) ∧ ∃ l, l < n ∧ w - 10 = nI l ∧ v1 = h1 44 l) ∨ (w = 0 ∧ v1 = h1 42 1) ∨ (w = 1 ∧ v1 = h1 42 2))) : ∀ q, 62 ≤ q → h1 q = h q := by
  rcases p1 with ⟨a, e, e1⟩ | ⟨a, w0, w1, wo, e, e1⟩ | ⟨a, wo, b1, e, e1⟩ | ⟨k, hk, ex, cp, tp, q⟩
  · exact (CPi I e1).1
  · exact (CPi I e1).1
  · exact (CPi I e1).1
  · exact (cp).1

theorem j_go {g : GG} {n m b : Nat} {h h1 h2 : Hp} {c : Nat → Nat} {x w : Int32} {v1 v2 : Int32} (I : CI g h n c m b) (J : RF h1 n c m (eH h 3 n) (h 55)) (hNL : noLong (eH h 3 n) n) (p1 : (isL n x = 0 ∧ v1 = -1 ∧ h1 = h) ∨ (¬ isL n x = 0 ∧ ¬ w = 0 ∧ ¬ w = 1 ∧ ¬ (¬ w < 10 ∧ ¬ 15 < w) ∧ v1 = -2 ∧ h1 = h) ∨ (¬ isL n x = 0 ∧ (¬ w < 10 ∧ ¬ 15 < w) ∧ isL n (w - 10) = 0 ∧ v1 = -6 ∧ h1 = h) ∨ ∃ k, k < n ∧ x = nI k ∧ CP g h h1 n c m b (eH h 3 n) (h 55) ∧ TP (eH h 3 n) n 42 c k h1 ∧ (((¬ w < 10 ∧ ¬ 15 < w) ∧ ∃ l, l < n ∧ w - 10 = nI l ∧ v1 = h1 44 l) ∨ (w = 0 ∧ v1 = h1 42 1) ∨ (w = 1 ∧ v1 = h1 42 2))) (p2 : (isL n x = 0 ∧ v2 = -1 ∧ h2 = h1) ∨ (¬ isL n x = 0 ∧ ¬ w = 0 ∧ ¬ w = 1 ∧ ¬ (¬ w < 10 ∧ ¬ 15 < w) ∧ v2 = -2 ∧ h2 = h1) ∨ ∃ k, k < n ∧ x = nI k ∧ RP h1 h2 n c m (eH h 3 n) (h 55) ∧ TQ (eH h 3 n) n c k h2 ∧ (((¬ w < 10 ∧ ¬ 15 < w) ∧ isL n (w - 10) = 0 ∧ v2 = -6) ∨ ((¬ w < 10 ∧ ¬ 15 < w) ∧ ∃ l, l < n ∧ w - 10 = nI l ∧ v2 = h2 76 l) ∨ (w = 0 ∧ v2 = h2 62 19) ∨ (w = 1 ∧ v2 = h2 62 20))) : v1 = v2 ∧ LX g h2 (b + 200) := by
  have hn6 := J.1.1
  have d1 : ∀ {z : Int32}, ¬ z < 10 ∧ ¬ 15 < z → z = 0 → False := fun y y2 => by rw [y2] at y; exact absurd y (by decide)
  have d2 : ∀ {z : Int32}, ¬ z < 10 ∧ ¬ 15 < z → z = 1 → False := fun y y2 => by rw [y2] at y; exact absurd y (by decide)
  have d3 : ∀ {z : Int32}, z = 0 → z = 1 → False := fun y y2 => by rw [y] at y2; exact absurd y2 (by decide)
  rcases p1 with ⟨a, e, e1⟩ | ⟨a, w0, w1, wo, e, e1⟩ | ⟨a, wo, b1, e, e1⟩ | ⟨k, hk, ex, cp, tp, q⟩
  · rcases p2 with ⟨a', e', e2⟩ | ⟨a', w0', w1', wo', e', e2⟩ | ⟨k', hk', ex', rp, tq, q'⟩
    · exact ⟨by rw [e, e'], LXo (CPi I e1) (RPi J e2) (by omega)⟩
    · exact absurd a a'
    · exact (noL hn6 a hk' ex').elim
  · rcases p2 with ⟨a', e', e2⟩ | ⟨a', w0', w1', wo', e', e2⟩ | ⟨k', hk', ex', rp, tq, ⟨y, _⟩ | ⟨y, _⟩ | ⟨y, _⟩ | ⟨y, _⟩⟩
    · exact absurd a' a
    · exact ⟨by rw [e, e'], LXo (CPi I e1) (RPi J e2) (by omega)⟩
    · exact absurd y wo
    · exact absurd y wo
    · exact absurd y w0
    · exact absurd y w1
  · rcases p2 with ⟨a', e', e2⟩ | ⟨a', w0', w1', wo', e', e2⟩ | ⟨k', hk', ex', rp, tq, ⟨y, y2, e'⟩ | ⟨y, l, hl, el, _⟩ | ⟨y, _⟩ | ⟨y, _⟩⟩
    · exact absurd a' a
    · exact absurd wo wo'
    · exact ⟨by rw [e, e'], LXo (CPi I e1) rp (by omega)⟩
    · exact (noL hn6 b1 hl el).elim
    · exact (d1 wo y).elim
    · exact (d2 wo y).elim
  · rcases p2 with ⟨a', e', e2⟩ | ⟨a', w0', w1', wo', e', e2⟩ | ⟨k', hk', ex', rp, tq, q'⟩
    · exact (noL hn6 a' hk ex).elim
    · rcases q with ⟨y, _⟩ | ⟨y, _⟩ | ⟨y, _⟩
      · exact absurd y wo'
      · exact absurd y w0'
      · exact absurd y w1'
    · obtain rfl := kk hn6 ex hk ex' hk'
      obtain ⟨s1, s2, s3⟩ := go_same rfl hNL tp tq
      refine ⟨?_, LXo cp rp (by omega)⟩
      rcases q with ⟨y, l, hl, el, e⟩ | ⟨y, e⟩ | ⟨y, e⟩
      · rcases q' with ⟨y', y2', e'⟩ | ⟨y', l', hl', el', e'⟩ | ⟨y', e'⟩ | ⟨y', e'⟩
        · exact (noL hn6 y2' hl el).elim
        · obtain rfl := kk hn6 el hl el' hl'
          rw [e, e', s3 l hl]
        · exact (d1 y y').elim
        · exact (d2 y y').elim
      · rcases q' with ⟨y', y2', e'⟩ | ⟨y', l', hl', el', e'⟩ | ⟨y', e'⟩ | ⟨y', e'⟩
        · exact (d1 y' y).elim
        · exact (d1 y' y).elim
        · rw [e, e', s1]
        · exact (d3 y y').elim
      · rcases q' with ⟨y', y2', e'⟩ | ⟨y', l', hl', el', e'⟩ | ⟨y', e'⟩ | ⟨y', e'⟩
        · exact (d2 y' y).elim
        · exact (d2 y' y).elim
        · exact (d3 y' y).elim
        · rw [e, e', s2]

