/-! all that a market reckons, of a labelling r of the lands E -/
def sS (E : Ec) (r : Nat → Int32) (k : Nat) : Nat := selS E r k (wallS E r k)
def pS (E : Ec) (r : Nat → Int32) (k : Nat) : Int32 := priS E r k (wallS E r k)
def bS (E : Ec) (r : Nat → Int32) (k : Nat) : Int32 := bouS E r k (wallS E r k)
def tkO (E : Ec) (r : Nat → Int32) (k : Nat) : Int32 := if r (sS E r k) = r k then 0 else wallS E r k * bS E r k
def takS (E : Ec) (r : Nat → Int32) (k : Nat) : Int32 := if eSh E = 0 then tkO E r k else shO E (tkO E r) r (r k) k
def gdF (E : Ec) (r : Nat → Int32) (k : Nat) : Nat → Int32
  | 0 => bS E r k * bS E r k + 2 * takS E r k
  | l + 1 => if sS E r l = k then gdF E r k l + 2 * eG E k * bS E r l else gdF E r k l
def goodS (E : Ec) (r : Nat → Int32) (k : Nat) : Int32 := gdF E r k (eN E)
theorem sS_lt {E : Ec} {r : Nat → Int32} {k : Nat} (hk : k < eN E) : sS E r k < eN E := byF_lt hk _ (Nat.le_refl _)
theorem smF_congr {T T' r : Nat → Int32} {u : Int32} : ∀ {n : Nat}, (∀ j, j < n → r j = u → T j = T' j) → smF T r u n = smF T' r u n := by
  intro n
  induction n with
  | zero => intro _; rfl
  | succ n ih =>
    intro h
    rw [smF, smF, ih (fun j a b => h j (by omega) b)]
    by_cases e : r n = u
    · rw [if_pos e, if_pos e, h n (by omega) e]
    · rw [if_neg e, if_neg e]
theorem shO_congr {E : Ec} {tk tk' r : Nat → Int32} {u : Int32} {j : Nat} (hj : r j = u) (h : ∀ j, j < eN E → r j = u → tk j = tk' j) : shO E tk r u j = shO E tk' r u j := by
  have e1 : smF tk r u (eN E) = smF tk' r u (eN E) := smF_congr h
  have e2 : shQ E tk r u = shQ E tk' r u := by funext l; rw [shQ, shQ, e1]
  rw [shO, shO, if_pos hj, if_pos hj, shA, shA, e1, e2]
def KeepM (M : Nat) (h h1 : Hp) : Prop := ∀ q, ¬ (M < q ∧ q ≤ M + 5) → h1 q = h q
theorem eH_keep {h h1 : Hp} {L n : Nat} (hk : ∀ q, L ≤ q → q < L + 5 → h1 q = h q) : eH h1 L n = eH h L n := by
  simp only [eH, hk (L + 1) (by omega) (by omega), hk (L + 2) (by omega) (by omega), hk (L + 3) (by omega) (by omega), hk (L + 4) (by omega) (by omega), hk L (by omega) (by omega)]
/-- the first four rows at land j -/
def I4 (M : Nat) (E : Ec) (r : Nat → Int32) (h1 : Hp) (j : Nat) : Prop := h1 (M + 1) j = wallS E r j ∧ h1 (M + 2) j = pS E r j ∧ h1 (M + 3) j = nI (sS E r j) ∧ h1 (M + 4) j = bS E r j
def I1 (M l : Nat) (E : Ec) (r : Nat → Int32) (h h1 : Hp) : Prop := KeepM M h h1 ∧ ∀ j, j < l → I4 M E r h1 j ∧ h1 (M + 5) j = tkO E r j
theorem I1_mid {M L P l n : Nat} {h h1 : Hp} (hML : M + 7 ≤ L ∨ L + 5 ≤ M) (hMP : M + 7 ≤ P ∨ P + 3 ≤ M) (H : I1 M l (eH h L n) (h (P + 1)) h h1) {h2 : Hp} {w : Int32} (hw : w = wallS (eH h1 L n) (h1 (P + 1)) l)
    (e : h2 = hset (hset (hset (hset h1 (M + 1) l w) (M + 2) l (priS (eH (hset h1 (M + 1) l w) L n) (hset h1 (M + 1) l w (P + 1)) l (hset h1 (M + 1) l w (M + 1) l))) (M + 3) l (nI (selS (eH (hset h1 (M + 1) l w) L n) (hset h1 (M + 1) l w (P + 1)) l (hset h1 (M + 1) l w (M + 1) l)))) (M + 4) l (bouS (eH (hset h1 (M + 1) l w) L n) (hset h1 (M + 1) l w (P + 1)) l (hset h1 (M + 1) l w (M + 1) l))) :
    KeepM M h h2 ∧ (∀ j, j < l → I4 M (eH h L n) (h (P + 1)) h2 j ∧ h2 (M + 5) j = tkO (eH h L n) (h (P + 1)) j) ∧ I4 M (eH h L n) (h (P + 1)) h2 l := by
  have e1 : eH h1 L n = eH h L n := eH_keep (fun q a b => H.1 q (by omega))
  have e2 : h1 (P + 1) = h (P + 1) := H.1 _ (by omega)
  have e3 : eH (hset h1 (M + 1) l w) L n = eH h L n := by
    rw [← e1]
    exact eH_keep (fun q a b => hset_ne (by omega))
  have e4 : hset h1 (M + 1) l w (P + 1) = h (P + 1) := by rw [hset_ne (by omega), e2]
  have e5 : hset h1 (M + 1) l w (M + 1) l = wallS (eH h L n) (h (P + 1)) l := by rw [hset_same, upd_eq, hw, e1, e2]
  rw [e3, e4, e5] at e
  subst e
  refine ⟨fun q a => ?_, fun j hj => ?_, ?_⟩
  · rw [hset_ne (by omega), hset_ne (by omega), hset_ne (by omega), hset_ne (by omega)]; exact H.1 q a
  · obtain ⟨⟨a1, a2, a3, a4⟩, a5⟩ := H.2 j hj
    refine ⟨⟨?_, ?_, ?_, ?_⟩, ?_⟩
    · rw [hset_ne (by omega), hset_ne (by omega), hset_ne (by omega), hset_same, upd_ne (by omega)]; exact a1
    · rw [hset_ne (by omega), hset_ne (by omega), hset_same, upd_ne (by omega), hset_ne (by omega)]; exact a2
    · rw [hset_ne (by omega), hset_same, upd_ne (by omega), hset_ne (by omega), hset_ne (by omega)]; exact a3
    · rw [hset_same, upd_ne (by omega), hset_ne (by omega), hset_ne (by omega), hset_ne (by omega)]; exact a4
    · rw [hset_ne (by omega), hset_ne (by omega), hset_ne (by omega), hset_ne (by omega)]; exact a5
  · refine ⟨?_, ?_, ?_, ?_⟩
    · rw [hset_ne (by omega), hset_ne (by omega), hset_ne (by omega)]; exact e5
    · rw [hset_ne (by omega), hset_ne (by omega), hset_same, upd_eq]; rfl
    · rw [hset_ne (by omega), hset_same, upd_eq]; rfl
    · rw [hset_same, upd_eq]; rfl
theorem I1_step {M l : Nat} {E : Ec} {r : Nat → Int32} {h h2 : Hp} {x : Int32} (H : KeepM M h h2 ∧ (∀ j, j < l → I4 M E r h2 j ∧ h2 (M + 5) j = tkO E r j) ∧ I4 M E r h2 l) (hx : x = tkO E r l) : I1 M (l + 1) E r h (hset h2 (M + 5) l x) := by
  refine ⟨fun q a => by rw [hset_ne (by omega)]; exact H.1 q a, fun j hj => ?_⟩
  by_cases e : j = l
  · subst e
    obtain ⟨a1, a2, a3, a4⟩ := H.2.2
    exact ⟨⟨by rw [hset_ne (by omega)]; exact a1, by rw [hset_ne (by omega)]; exact a2, by rw [hset_ne (by omega)]; exact a3, by rw [hset_ne (by omega)]; exact a4⟩, by rw [hset_same, upd_eq]; exact hx⟩
  · obtain ⟨⟨a1, a2, a3, a4⟩, a5⟩ := H.2.1 j (by omega)
    exact ⟨⟨by rw [hset_ne (by omega)]; exact a1, by rw [hset_ne (by omega)]; exact a2, by rw [hset_ne (by omega)]; exact a3, by rw [hset_ne (by omega)]; exact a4⟩, by rw [hset_same, upd_ne e]; exact a5⟩
/-- takings shared out in the unions below u -/
def I2 (M n u : Nat) (c : Nat → Nat) (E : Ec) (r : Nat → Int32) (h1 h2 : Hp) : Prop := KeepA (M + 5) h1 h2 ∧ ∀ j, j < n → h2 (M + 5) j = if c j < u then shO E (tkO E r) r (r j) j else tkO E r j
theorem I2_step {M n u : Nat} {c : Nat → Nat} {E : Ec} {r : Nat → Int32} {h1 h2 h3 : Hp} (hE : eN E = n) (hr : ∀ j, j < n → r j = nI (c j)) (hc : ∀ j, j < n → c j < 7) (hu : u < 7) (H : I2 M n u c E r h1 h2) (h : KeepA (M + 5) h2 h3) (h' : ∀ j, j < n → h3 (M + 5) j = shO E (h2 (M + 5)) r (nI u) j) : I2 M n (u + 1) c E r h1 h3 := by
  refine ⟨fun q a => by rw [h q a]; exact H.1 q a, fun j hj => ?_⟩
  rw [h' j hj]
  by_cases e : c j = u
  · have er : r j = nI u := by rw [hr j hj, e]
    rw [if_pos (by omega), er]
    refine shO_congr er (fun i hi ei => ?_)
    rw [hE] at hi
    rw [hr i hi] at ei
    have : c i = u := nI_inj (by have := hc i hi; omega) (by omega) ei
    rw [H.2 i hi, if_neg (by omega)]
  · have er : ¬ r j = nI u := fun q => e (nI_inj (by have := hc j hj; omega) (by omega) (by rw [← hr j hj]; exact q))
    rw [shO, if_neg er, H.2 j hj]
    by_cases q : c j < u
    · rw [if_pos q, if_pos (by omega)]
    · rw [if_neg q, if_neg (by omega)]
/-- the goods, the lands that buy of each below l added -/
def I5 (M n l : Nat) (E : Ec) (r : Nat → Int32) (h1 h2 : Hp) : Prop := KeepA (M + 6) h1 h2 ∧ ∀ j, j < n → h2 (M + 6) j = gdF E r j l

set_option maxRecDepth 100000 in
set_option maxHeartbeats 4000000 in
theorem c_reckon {g : GG} {M L P n : Nat} {h : Hp} {c : Nat → Nat} (hM : MarkAt M) (hL : LandAt L) (hP : PartAt P) (hML : M + 7 ≤ L ∨ L + 5 ≤ M) (hMP : M + 7 ≤ P ∨ P + 3 ≤ M) (hn : n ≤ 6) (h0 : h L 0 = nI n) (hc : Can n c) (hs : PS h P n c) (hpos : ∀ u, u < mx c n → 0 < smF (wtS (eH h L n)) (h (P + 1)) (nI u) n) : R g mX4_reckon 0 [some (.ref (ad g M)), some (.ref (ad g L)), some (.ref (ad g P)), none, none] [] h (Rv fun h' => (∀ q, ¬ (M < q ∧ q ≤ M + 6) → h' q = h q) ∧ ∀ j, j < n → I4 M (eH h L n) (h (P + 1)) h' j ∧ h' (M + 5) j = takS (eH h L n) (h (P + 1)) j ∧ h' (M + 6) j = goodS (eH h L n) (h (P + 1)) j) := by
  have hmx := mx_le hc n (Nat.le_refl _)
  have loop4 : ∀ (h1 : Hp), ((∀ q, ¬ (M < q ∧ q ≤ M + 6) → h1 q = h q) ∧ ∀ j, j < n → I4 M (eH h L n) (h (P + 1)) h1 j ∧ h1 (M + 5) j = takS (eH h L n) (h (P + 1)) j) → ∀ (m l : Nat) (h2 : Hp) (z : Option Value), l ≤ n → n < l + m → I5 M n l (eH h L n) (h (P + 1)) h1 h2 → R g mX4_reckon 167 [some (.ref (ad g M)), some (.ref (ad g L)), some (.ref (ad g P)), some (.int (nI l)), z] [] h2 (Rv fun h' => (∀ q, ¬ (M < q ∧ q ≤ M + 6) → h' q = h q) ∧ ∀ j, j < n → I4 M (eH h L n) (h (P + 1)) h' j ∧ h' (M + 5) j = takS (eH h L n) (h (P + 1)) j ∧ h' (M + 6) j = goodS (eH h L n) (h (P + 1)) j) := by
    intro h1 hh m
    induction m with
    | zero => intro l h2 z a b; omega
    | succ m ih =>
      intro l h2 z a b H
      refine r_iload_n rfl dX4_reckon_167 ?_
      refine r_aload_n rfl dX4_reckon_168 ?_
      refine r_getI foX4_30 hL.1 rfl dX4_reckon_169 ?_
      refine r_icmp_ge 215 dX4_reckon_172 (by decide) (fun c_172 => ?_) (fun c_172 => ?_)
      · refine ret_v dX4_reckon_215 rfl ?_
        rw [H.1 L (by omega), hh.1 L (by omega), h0] at c_172
        have e : l = n := by have := ge_y (by omega) (by omega) c_172; omega
        subst e
        refine ⟨fun q a => by rw [H.1 q (by omega)]; exact hh.1 q a, fun j hj => ?_⟩
        obtain ⟨⟨a1, a2, a3, a4⟩, a5⟩ := hh.2 j hj
        exact ⟨⟨by rw [H.1 _ (by omega)]; exact a1, by rw [H.1 _ (by omega)]; exact a2, by rw [H.1 _ (by omega)]; exact a3, by rw [H.1 _ (by omega)]; exact a4⟩, by rw [H.1 _ (by omega)]; exact a5, H.2 j hj⟩
      · rw [H.1 L (by omega), hh.1 L (by omega), h0] at c_172
        have hlk : l < n := ge_n (by omega) c_172
        have hse : sS (eH h L n) (h (P + 1)) l < n := sS_lt hlk
        refine r_aload_n rfl dX4_reckon_175 ?_
        refine r_getR foX4_18 hM.1 rfl dX4_reckon_176 ?_
        refine r_iload_n rfl dX4_reckon_179 ?_
        refine r_ild hM.2.2.2.1 rfl (by omega) (by decide) dX4_reckon_180 ?_
        rw [H.1 (M + 3) (by omega), (hh.2 l hlk).1.2.2.1]
        refine r_ist4 rfl (by decide) dX4_reckon_181 ?_
        refine r_aload_n rfl dX4_reckon_183 ?_
        refine r_getR foX4_27 hM.1 rfl dX4_reckon_184 ?_
        refine r_iload rfl dX4_reckon_187 ?_
        refine r_dup2 rfl rfl dX4_reckon_189 ?_
        refine r_ild hM.2.2.2.2.2.2 rfl (by omega) (by decide) dX4_reckon_190 ?_
        rw [H.2 _ hse]
        refine r_iconst (v := (2 : Int32)) (by decide) dX4_reckon_191 ?_
        refine r_aload_n rfl dX4_reckon_192 ?_
        refine r_getR foX4_58 hL.1 rfl dX4_reckon_193 ?_
        refine r_iload rfl dX4_reckon_196 ?_
        refine r_ild hL.2.2.2.1 rfl (by omega) (by decide) dX4_reckon_198 ?_
        rw [H.1 (L + 3) (by omega), hh.1 (L + 3) (by omega)]
        refine r_imul dX4_reckon_199 ?_
        refine r_aload_n rfl dX4_reckon_200 ?_
        refine r_getR foX4_21 hM.1 rfl dX4_reckon_201 ?_
        refine r_iload_n rfl dX4_reckon_204 ?_
        refine r_ild hM.2.2.2.2.1 rfl (by omega) (by decide) dX4_reckon_205 ?_
        rw [H.1 (M + 4) (by omega), (hh.2 l hlk).1.2.2.2]
        refine r_imul dX4_reckon_206 ?_
        refine r_iadd dX4_reckon_207 ?_
        refine r_ias hM.2.2.2.2.2.2 rfl (by omega) (by decide) dX4_reckon_208 ?_
        first | refine r_incN3 rfl (by decide) dX4_reckon_209 ?_ | refine r_incP3 rfl (by decide) dX4_reckon_209 ?_
        refine r_goto 167 dX4_reckon_212 (by decide) ?_
        refine ih (l + 1) _ _ (by omega) (by omega) ⟨fun q a => by rw [hset_ne a]; exact H.1 q a, fun j hj => ?_⟩
        rw [hset_same, gdF]
        by_cases e : j = sS (eH h L n) (h (P + 1)) l
        · subst e; rw [upd_eq, if_pos rfl]; rfl
        · rw [upd_ne e, if_neg (fun q => e q.symm)]; exact H.2 j hj
  have loop3 : ∀ (h1 : Hp), ((∀ q, ¬ (M < q ∧ q ≤ M + 6) → h1 q = h q) ∧ ∀ j, j < n → I4 M (eH h L n) (h (P + 1)) h1 j ∧ h1 (M + 5) j = takS (eH h L n) (h (P + 1)) j) → ∀ (m l : Nat) (h2 : Hp) (z : Option Value), l ≤ n → n < l + m → S1 (M + 6) l (fun j => bS (eH h L n) (h (P + 1)) j * bS (eH h L n) (h (P + 1)) j + 2 * takS (eH h L n) (h (P + 1)) j) h1 h2 → R g mX4_reckon 123 [some (.ref (ad g M)), some (.ref (ad g L)), some (.ref (ad g P)), some (.int (nI l)), z] [] h2 (Rv fun h' => (∀ q, ¬ (M < q ∧ q ≤ M + 6) → h' q = h q) ∧ ∀ j, j < n → I4 M (eH h L n) (h (P + 1)) h' j ∧ h' (M + 5) j = takS (eH h L n) (h (P + 1)) j ∧ h' (M + 6) j = goodS (eH h L n) (h (P + 1)) j) := by
    intro h1 hh m
    induction m with
    | zero => intro l h2 z a b; omega
    | succ m ih =>
      intro l h2 z a b H
      refine r_iload_n rfl dX4_reckon_123 ?_
      refine r_aload_n rfl dX4_reckon_124 ?_
      refine r_getI foX4_30 hL.1 rfl dX4_reckon_125 ?_
      refine r_icmp_ge 165 dX4_reckon_128 (by decide) (fun c_128 => ?_) (fun c_128 => ?_)
      · rw [H.1 L (by omega), hh.1 L (by omega), h0] at c_128
        have e : l = n := by have := ge_y (by omega) (by omega) c_128; omega
        subst e
        refine r_iconst (v := nI 0) (by decide) dX4_reckon_165 ?_
        refine r_ist3 rfl (by decide) dX4_reckon_166 ?_
        refine loop4 _ ⟨fun q a => by rw [H.1 q (by omega)]; exact hh.1 q a, fun j hj => ?_⟩ (l + 1) 0 _ _ (by omega) (by omega) ⟨fun q a => rfl, fun j hj => H.2.1 j hj⟩
        obtain ⟨⟨a1, a2, a3, a4⟩, a5⟩ := hh.2 j hj
        exact ⟨⟨by rw [H.1 _ (by omega)]; exact a1, by rw [H.1 _ (by omega)]; exact a2, by rw [H.1 _ (by omega)]; exact a3, by rw [H.1 _ (by omega)]; exact a4⟩, by rw [H.1 _ (by omega)]; exact a5⟩
      · rw [H.1 L (by omega), hh.1 L (by omega), h0] at c_128
        have hlk : l < n := ge_n (by omega) c_128
        refine r_aload_n rfl dX4_reckon_131 ?_
        refine r_getR foX4_27 hM.1 rfl dX4_reckon_132 ?_
        refine r_iload_n rfl dX4_reckon_135 ?_
        refine r_aload_n rfl dX4_reckon_136 ?_
        refine r_getR foX4_21 hM.1 rfl dX4_reckon_137 ?_
        refine r_iload_n rfl dX4_reckon_140 ?_
        refine r_ild hM.2.2.2.2.1 rfl (by omega) (by decide) dX4_reckon_141 ?_
        rw [H.1 (M + 4) (by omega), (hh.2 l hlk).1.2.2.2]
        refine r_aload_n rfl dX4_reckon_142 ?_
        refine r_getR foX4_21 hM.1 rfl dX4_reckon_143 ?_
        refine r_iload_n rfl dX4_reckon_146 ?_
        refine r_ild hM.2.2.2.2.1 rfl (by omega) (by decide) dX4_reckon_147 ?_
        rw [H.1 (M + 4) (by omega), (hh.2 l hlk).1.2.2.2]
        refine r_imul dX4_reckon_148 ?_
        refine r_iconst (v := (2 : Int32)) (by decide) dX4_reckon_149 ?_
        refine r_aload_n rfl dX4_reckon_150 ?_
        refine r_getR foX4_24 hM.1 rfl dX4_reckon_151 ?_
        refine r_iload_n rfl dX4_reckon_154 ?_
        refine r_ild hM.2.2.2.2.2.1 rfl (by omega) (by decide) dX4_reckon_155 ?_
        rw [H.1 (M + 5) (by omega), (hh.2 l hlk).2]
        refine r_imul dX4_reckon_156 ?_
        refine r_iadd dX4_reckon_157 ?_
        refine r_ias hM.2.2.2.2.2.2 rfl (by omega) (by decide) dX4_reckon_158 ?_
        first | refine r_incN3 rfl (by decide) dX4_reckon_159 ?_ | refine r_incP3 rfl (by decide) dX4_reckon_159 ?_
        refine r_goto 123 dX4_reckon_162 (by decide) ?_
        exact ih (l + 1) _ _ (by omega) (by omega) (S1_set H rfl)
  have loop2 : ¬ h L 2 = 0 → ∀ (h1 : Hp), I1 M n (eH h L n) (h (P + 1)) h h1 → ∀ (m u : Nat) (h2 : Hp) (z : Option Value), u ≤ mx c n → mx c n < u + m → I2 M n u c (eH h L n) (h (P + 1)) h1 h2 → R g mX4_reckon 100 [some (.ref (ad g M)), some (.ref (ad g L)), some (.ref (ad g P)), some (.int (nI u)), z] [] h2 (Rv fun h' => (∀ q, ¬ (M < q ∧ q ≤ M + 6) → h' q = h q) ∧ ∀ j, j < n → I4 M (eH h L n) (h (P + 1)) h' j ∧ h' (M + 5) j = takS (eH h L n) (h (P + 1)) j ∧ h' (M + 6) j = goodS (eH h L n) (h (P + 1)) j) := by
    intro hsh h1 H1 m
    have eH2 : ∀ {u : Nat} (h2 : Hp), I2 M n u c (eH h L n) (h (P + 1)) h1 h2 → eH h2 L n = (eH h L n) := fun h2 H => eH_keep (fun q a b => by rw [H.1 q (by omega)]; exact H1.1 q (by omega))
    have rH2 : ∀ {u : Nat} (h2 : Hp), I2 M n u c (eH h L n) (h (P + 1)) h1 h2 → h2 (P + 1) = h (P + 1) := fun h2 H => by rw [H.1 _ (by omega)]; exact H1.1 _ (by omega)
    induction m with
    | zero => intro u h2 z a b; omega
    | succ m ih =>
      intro u h2 z a b H
      refine r_iload_n rfl dX4_reckon_100 ?_
      refine r_aload_n rfl dX4_reckon_101 ?_
      refine r_getI foX4_52 hP.1 rfl dX4_reckon_102 ?_
      refine r_icmp_ge 121 dX4_reckon_105 (by decide) (fun c_105 => ?_) (fun c_105 => ?_)
      · rw [H.1 P (by omega), H1.1 P (by omega), hs.2.1] at c_105
        have e : u = mx c n := by have := ge_y (by omega) (by omega) c_105; omega
        refine r_iconst (v := nI 0) (by decide) dX4_reckon_121 ?_
        refine r_ist3 rfl (by decide) dX4_reckon_122 ?_
        refine loop3 _ ⟨fun q a => ?_, fun j hj => ?_⟩ (n + 1) 0 _ _ (by omega) (by omega) S1_0
        · rw [H.1 q (by omega)]; exact H1.1 q (by omega)
        · obtain ⟨⟨a1, a2, a3, a4⟩, a5⟩ := H1.2 j hj
          refine ⟨⟨by rw [H.1 _ (by omega)]; exact a1, by rw [H.1 _ (by omega)]; exact a2, by rw [H.1 _ (by omega)]; exact a3, by rw [H.1 _ (by omega)]; exact a4⟩, ?_⟩
          rw [H.2 j hj, if_pos (by rw [e]; exact mx_lt hj), takS, if_neg (show ¬ eSh (eH h L n) = 0 from hsh)]
      · rw [H.1 P (by omega), H1.1 P (by omega), hs.2.1] at c_105
        have hlk : u < mx c n := ge_n (by omega) c_105
        refine r_aload_n rfl dX4_reckon_108 ?_
        refine r_aload_n rfl dX4_reckon_109 ?_
        refine r_aload_n rfl dX4_reckon_110 ?_
        refine r_iload_n rfl dX4_reckon_111 ?_
        refine r_cV3v (T := TX4) (N := 6) moX4_shareOut lkX4_55 hM.1 rfl (Nat.le_of_ble_eq_true rfl) ⟨by decide, by decide⟩ (Nat.le_of_ble_eq_true rfl) dX4_reckon_112 rfl (c_shareOut (n := n) hM hL hP hML hMP hn (by rw [H.1 L (by omega), H1.1 L (by omega)]; exact h0) (by rw [eH2 _ H, rH2 _ H]; exact hpos u hlk)) (fun h1 q1 => ?_)
        rw [eH2 _ H, rH2 _ H] at q1
        first | refine r_incN3 rfl (by decide) dX4_reckon_115 ?_ | refine r_incP3 rfl (by decide) dX4_reckon_115 ?_
        refine r_goto 100 dX4_reckon_118 (by decide) ?_
        exact ih (u + 1) _ _ (by omega) (by omega) (I2_step rfl hs.2.2 (fun j hj => by have := hc.le hj; omega) (by omega) H q1.1 q1.2)
  have loop1 : ∀ (m l : Nat) (h1 : Hp) (z : Option Value), l ≤ n → n < l + m → I1 M l (eH h L n) (h (P + 1)) h h1 → R g mX4_reckon 2 [some (.ref (ad g M)), some (.ref (ad g L)), some (.ref (ad g P)), some (.int (nI l)), z] [] h1 (Rv fun h' => (∀ q, ¬ (M < q ∧ q ≤ M + 6) → h' q = h q) ∧ ∀ j, j < n → I4 M (eH h L n) (h (P + 1)) h' j ∧ h' (M + 5) j = takS (eH h L n) (h (P + 1)) j ∧ h' (M + 6) j = goodS (eH h L n) (h (P + 1)) j) := by
    intro m
    induction m with
    | zero => intro l h1 z a b; omega
    | succ m ih =>
      intro l h1 z a b H
      refine r_iload_n rfl dX4_reckon_2 ?_
      refine r_aload_n rfl dX4_reckon_3 ?_
      refine r_getI foX4_30 hL.1 rfl dX4_reckon_4 ?_
      refine r_icmp_ge 91 dX4_reckon_7 (by decide) (fun c_7 => ?_) (fun c_7 => ?_)
      · rw [H.1 L (by omega), h0] at c_7
        have e : l = n := by have := ge_y (by omega) (by omega) c_7; omega
        subst e
        refine r_aload_n rfl dX4_reckon_91 ?_
        refine r_getI foX4_49 hL.1 rfl dX4_reckon_92 ?_
        refine r_if_eq 121 dX4_reckon_95 (by decide) (fun c_95 => ?_) (fun c_95 => ?_)
        · refine r_iconst (v := nI 0) (by decide) dX4_reckon_121 ?_
          refine r_ist3 rfl (by decide) dX4_reckon_122 ?_
          refine loop3 _ ⟨fun q a => ?_, fun j hj => ?_⟩ (l + 1) 0 _ _ (by omega) (by omega) S1_0
          · exact H.1 q (by omega)
          · rw [H.1 L (by omega)] at c_95
            exact ⟨(H.2 j hj).1, by rw [(H.2 j hj).2, takS, if_pos (show eSh (eH h L l) = 0 from c_95)]⟩
        · rw [H.1 L (by omega)] at c_95
          refine r_iconst (v := nI 0) (by decide) dX4_reckon_98 ?_
          refine r_ist3 rfl (by decide) dX4_reckon_99 ?_
          exact loop2 c_95 _ H (7 + 1) 0 _ _ (by omega) (by omega) ⟨fun _ _ => rfl, fun j hj => by rw [if_neg (by omega)]; exact (H.2 j hj).2⟩
      · rw [H.1 L (by omega), h0] at c_7
        have hlk : l < n := ge_n (by omega) c_7
        refine r_aload_n rfl dX4_reckon_10 ?_
        refine r_getR foX4_9 hM.1 rfl dX4_reckon_11 ?_
        refine r_iload_n rfl dX4_reckon_14 ?_
        refine r_aload_n rfl dX4_reckon_15 ?_
        refine r_aload_n rfl dX4_reckon_16 ?_
        refine r_aload_n rfl dX4_reckon_17 ?_
        refine r_iload_n rfl dX4_reckon_18 ?_
        refine r_cV3i (T := TX4) (N := 6) moX4_wallAround lkX4_36 hM.1 rfl (Nat.le_of_ble_eq_true rfl) ⟨by decide, by decide⟩ (Nat.le_of_ble_eq_true rfl) dX4_reckon_19 rfl (c_wallAround hL hP hn (by rw [H.1 L (by omega)]; exact h0) hlk) (fun v1 h1 q1 => ?_)
        obtain ⟨e1, e2⟩ := q1
        rw [e1, e2]
        refine r_ias hM.2.1 rfl (by omega) (by decide) dX4_reckon_22 ?_
        refine r_aload_n rfl dX4_reckon_23 ?_
        refine r_aload_n rfl dX4_reckon_24 ?_
        refine r_aload_n rfl dX4_reckon_25 ?_
        refine r_iload_n rfl dX4_reckon_26 ?_
        refine r_cV3v (T := TX4) (N := 6) moX4_buy lkX4_40 hM.1 rfl (Nat.le_of_ble_eq_true rfl) ⟨by decide, by decide⟩ (Nat.le_of_ble_eq_true rfl) dX4_reckon_27 rfl (c_buy hM hL hP hML hn (by rw [hset_ne (by omega), H.1 L (by omega)]; exact h0) hlk) (fun h2 q2 => ?_)
        have H2 := I1_mid hML hMP H rfl q2
        have hse : sS (eH h L n) (h (P + 1)) l < n := sS_lt hlk
        refine r_aload_n rfl dX4_reckon_30 ?_
        refine r_getR foX4_44 hP.1 rfl dX4_reckon_31 ?_
        refine r_aload_n rfl dX4_reckon_34 ?_
        refine r_getR foX4_18 hM.1 rfl dX4_reckon_35 ?_
        refine r_iload_n rfl dX4_reckon_38 ?_
        refine r_ild hM.2.2.2.1 rfl (by omega) (by decide) dX4_reckon_39 ?_
        rw [H2.2.2.2.2.1]
        refine r_ild hP.2.1 rfl (by omega) (by decide) dX4_reckon_40 ?_
        rw [H2.1 (P + 1) (by omega)]
        refine r_aload_n rfl dX4_reckon_41 ?_
        refine r_getR foX4_44 hP.1 rfl dX4_reckon_42 ?_
        refine r_iload_n rfl dX4_reckon_45 ?_
        refine r_ild hP.2.1 rfl (by omega) (by decide) dX4_reckon_46 ?_
        rw [H2.1 (P + 1) (by omega)]
        refine r_icmp_eq 54 dX4_reckon_47 (by decide) (fun c_47 => ?_) (fun c_47 => ?_)
        · refine r_iconst (v := (0 : Int32)) (by decide) dX4_reckon_54 ?_
          refine r_ist4 rfl (by decide) dX4_reckon_55 ?_
          refine r_aload_n rfl dX4_reckon_57 ?_
          refine r_getR foX4_24 hM.1 rfl dX4_reckon_58 ?_
          refine r_iload_n rfl dX4_reckon_61 ?_
          refine r_iload rfl dX4_reckon_62 ?_
          refine r_if_eq 83 dX4_reckon_64 (by decide) (fun c_64 => ?_) (fun c_64 => ?_)
          · refine r_iconst (v := (0 : Int32)) (by decide) dX4_reckon_83 ?_
            refine r_ias hM.2.2.2.2.2.1 rfl (by omega) (by decide) dX4_reckon_84 ?_
            first | refine r_incN3 rfl (by decide) dX4_reckon_85 ?_ | refine r_incP3 rfl (by decide) dX4_reckon_85 ?_
            refine r_goto 2 dX4_reckon_88 (by decide) ?_
            first
              | exact absurd c_64 (by decide)
              | exact ih (l + 1) _ _ (by omega) (by omega) (I1_step H2 (by rw [tkO, if_pos c_47]))
              | exact ih (l + 1) _ _ (by omega) (by omega) (I1_step H2 (by rw [tkO, if_neg c_47]))
          · refine r_aload_n rfl dX4_reckon_67 ?_
            refine r_getR foX4_9 hM.1 rfl dX4_reckon_68 ?_
            refine r_iload_n rfl dX4_reckon_71 ?_
            refine r_ild hM.2.1 rfl (by omega) (by decide) dX4_reckon_72 ?_
            rw [H2.2.2.1]
            refine r_aload_n rfl dX4_reckon_73 ?_
            refine r_getR foX4_21 hM.1 rfl dX4_reckon_74 ?_
            refine r_iload_n rfl dX4_reckon_77 ?_
            refine r_ild hM.2.2.2.2.1 rfl (by omega) (by decide) dX4_reckon_78 ?_
            rw [H2.2.2.2.2.2]
            refine r_imul dX4_reckon_79 ?_
            refine r_goto 84 dX4_reckon_80 (by decide) ?_
            refine r_ias hM.2.2.2.2.2.1 rfl (by omega) (by decide) dX4_reckon_84 ?_
            first | refine r_incN3 rfl (by decide) dX4_reckon_85 ?_ | refine r_incP3 rfl (by decide) dX4_reckon_85 ?_
            refine r_goto 2 dX4_reckon_88 (by decide) ?_
            first
              | exact absurd c_64 (by decide)
              | exact ih (l + 1) _ _ (by omega) (by omega) (I1_step H2 (by rw [tkO, if_pos c_47]))
              | exact ih (l + 1) _ _ (by omega) (by omega) (I1_step H2 (by rw [tkO, if_neg c_47]))
        · refine r_iconst (v := (1 : Int32)) (by decide) dX4_reckon_50 ?_
          refine r_goto 55 dX4_reckon_51 (by decide) ?_
          refine r_ist4 rfl (by decide) dX4_reckon_55 ?_
          refine r_aload_n rfl dX4_reckon_57 ?_
          refine r_getR foX4_24 hM.1 rfl dX4_reckon_58 ?_
          refine r_iload_n rfl dX4_reckon_61 ?_
          refine r_iload rfl dX4_reckon_62 ?_
          refine r_if_eq 83 dX4_reckon_64 (by decide) (fun c_64 => ?_) (fun c_64 => ?_)
          · refine r_iconst (v := (0 : Int32)) (by decide) dX4_reckon_83 ?_
            refine r_ias hM.2.2.2.2.2.1 rfl (by omega) (by decide) dX4_reckon_84 ?_
            first | refine r_incN3 rfl (by decide) dX4_reckon_85 ?_ | refine r_incP3 rfl (by decide) dX4_reckon_85 ?_
            refine r_goto 2 dX4_reckon_88 (by decide) ?_
            first
              | exact absurd c_64 (by decide)
              | exact ih (l + 1) _ _ (by omega) (by omega) (I1_step H2 (by rw [tkO, if_pos c_47]))
              | exact ih (l + 1) _ _ (by omega) (by omega) (I1_step H2 (by rw [tkO, if_neg c_47]))
          · refine r_aload_n rfl dX4_reckon_67 ?_
            refine r_getR foX4_9 hM.1 rfl dX4_reckon_68 ?_
            refine r_iload_n rfl dX4_reckon_71 ?_
            refine r_ild hM.2.1 rfl (by omega) (by decide) dX4_reckon_72 ?_
            rw [H2.2.2.1]
            refine r_aload_n rfl dX4_reckon_73 ?_
            refine r_getR foX4_21 hM.1 rfl dX4_reckon_74 ?_
            refine r_iload_n rfl dX4_reckon_77 ?_
            refine r_ild hM.2.2.2.2.1 rfl (by omega) (by decide) dX4_reckon_78 ?_
            rw [H2.2.2.2.2.2]
            refine r_imul dX4_reckon_79 ?_
            refine r_goto 84 dX4_reckon_80 (by decide) ?_
            refine r_ias hM.2.2.2.2.2.1 rfl (by omega) (by decide) dX4_reckon_84 ?_
            first | refine r_incN3 rfl (by decide) dX4_reckon_85 ?_ | refine r_incP3 rfl (by decide) dX4_reckon_85 ?_
            refine r_goto 2 dX4_reckon_88 (by decide) ?_
            first
              | exact absurd c_64 (by decide)
              | exact ih (l + 1) _ _ (by omega) (by omega) (I1_step H2 (by rw [tkO, if_pos c_47]))
              | exact ih (l + 1) _ _ (by omega) (by omega) (I1_step H2 (by rw [tkO, if_neg c_47]))
  refine r_iconst (v := nI 0) (by decide) dX4_reckon_0 ?_
  refine r_ist3 rfl (by decide) dX4_reckon_1 ?_
  exact loop1 (n + 1) 0 _ _ (by omega) (by omega) ⟨fun _ _ => rfl, fun j hj => by omega⟩

