def KeepA (a : Nat) (h h' : Hp) : Prop := ∀ q, ¬ q = a → h' q = h q
def wtS (E : Ec) (l : Nat) : Int32 := if eSh E = 1 then 1 else eW E l
def shQ (E : Ec) (tk r : Nat → Int32) (u : Int32) (l : Nat) : Int32 := smF tk r u (eN E) * wtS E l / smF (wtS E) r u (eN E)
/-- what is left over, as it is handed out -/
def lfF (r : Nat → Int32) (u a : Int32) : Nat → Int32
  | 0 => a
  | l + 1 => if lfF r u a l ≤ 0 then lfF r u a l else if r l = u then lfF r u a l - 1 else lfF r u a l
theorem lfF_stay {r : Nat → Int32} {u a : Int32} {l : Nat} (h : lfF r u a l ≤ 0) : ∀ d, lfF r u a (l + d) ≤ 0 := by
  intro d
  induction d with
  | zero => exact h
  | succ d ih => show lfF r u a (l + d + 1) ≤ 0; rw [lfF, if_pos ih]; exact ih
def shA (E : Ec) (tk r : Nat → Int32) (u : Int32) : Int32 := smF tk r u (eN E) - smF (shQ E tk r u) r u (eN E)
def shO (E : Ec) (tk r : Nat → Int32) (u : Int32) (j : Nat) : Int32 := if r j = u then (if lfF r u (shA E tk r u) j ≤ 0 then shQ E tk r u j else shQ E tk r u j + 1) else tk j
def shM (E : Ec) (tk r : Nat → Int32) (u : Int32) (j : Nat) : Int32 := if r j = u then shQ E tk r u j else tk j
theorem wtS_at (h : Hp) (L n l : Nat) : wtS (eH h L n) l = if h L 2 = 1 then 1 else h (L + 1) l := rfl
/-- the takings, as they come to be -/
def S1 (a l : Nat) (f : Nat → Int32) (h h1 : Hp) : Prop := KeepA a h h1 ∧ (∀ j, j < l → h1 a j = f j) ∧ ∀ j, l ≤ j → h1 a j = h a j
theorem S1_set {a l : Nat} {f : Nat → Int32} {h h1 : Hp} {x : Int32} (H : S1 a l f h h1) (hx : x = f l) : S1 a (l + 1) f h (hset h1 a l x) := by
  refine ⟨fun q z => by rw [hset_ne z]; exact H.1 q z, fun j hj => ?_, fun j hj => ?_⟩
  · rw [hset_same]
    by_cases e : j = l
    · subst e; rw [upd_eq, hx]
    · rw [upd_ne e]; exact H.2.1 j (by omega)
  · rw [hset_same, upd_ne (by omega)]; exact H.2.2 j (by omega)
theorem S1_not {a l : Nat} {f : Nat → Int32} {h h1 : Hp} (H : S1 a l f h h1) (hx : h a l = f l) : S1 a (l + 1) f h h1 := by
  refine ⟨H.1, fun j hj => ?_, fun j hj => H.2.2 j (by omega)⟩
  by_cases e : j = l
  · subst e; rw [H.2.2 j (Nat.le_refl _), hx]
  · exact H.2.1 j (by omega)
theorem S1_0 {a : Nat} {f : Nat → Int32} {h : Hp} : S1 a 0 f h h := ⟨fun _ _ => rfl, fun j hj => by omega, fun _ _ => rfl⟩

theorem shQ_at (h : Hp) (L n : Nat) (tk r : Nat → Int32) (u : Int32) (l : Nat) : shQ (eH h L n) tk r u l = smF tk r u n * wtS (eH h L n) l / smF (wtS (eH h L n)) r u n := rfl
theorem sub_sub' (a b c : Int32) : a - (b + c) = a - b - c := by
  rw [Int32.sub_eq_add_neg a (b + c), Int32.neg_add, Int32.sub_eq_add_neg (-b) c, Int32.sub_eq_add_neg a b, Int32.sub_eq_add_neg (a + -b) c, Int32.add_assoc]

set_option maxRecDepth 100000 in
set_option maxHeartbeats 4000000 in
theorem c_shareOut {g : GG} {M L P n : Nat} {u : Int32} {h : Hp} (hM : MarkAt M) (hL : LandAt L) (hP : PartAt P) (hML : M + 7 ≤ L ∨ L + 5 ≤ M) (hMP : M + 7 ≤ P ∨ P + 3 ≤ M) (hn : n ≤ 6) (h0 : h L 0 = nI n) (hpos : 0 < (smF (wtS (eH h L n)) (h (P + 1)) u n)) : R g mX4_shareOut 0 [some (.ref (ad g M)), some (.ref (ad g L)), some (.ref (ad g P)), some (.int u), none, none, none, none, none] [] h (Rv fun h' => KeepA (M + 5) h h' ∧ ∀ j, j < n → h' (M + 5) j = shO (eH h L n) (h (M + 5)) (h (P + 1)) u j) := by
  have hwt : ¬ (smF (wtS (eH h L n)) (h (P + 1)) u n) = 0 := fun e => by rw [e] at hpos; exact absurd hpos (by decide)
  have loop3 : ∀ {al x5 x6 : Int32} (h1 : Hp), KeepA (M + 5) h h1 → (∀ j, j < n → h1 (M + 5) j = (shM (eH h L n) (h (M + 5)) (h (P + 1)) u) j) → ∀ (m l : Nat) (x7 : Int32) (h2 : Hp), l ≤ n → n < l + m → x7 = lfF (h (P + 1)) u (shA (eH h L n) (h (M + 5)) (h (P + 1)) u) l → S1 (M + 5) l (shO (eH h L n) (h (M + 5)) (h (P + 1)) u) h1 h2 → R g mX4_shareOut 166 [some (.ref (ad g M)), some (.ref (ad g L)), some (.ref (ad g P)), some (.int u), some (.int al), some (.int x5), some (.int x6), some (.int x7), some (.int (nI l))] [] h2 (Rv fun h' => KeepA (M + 5) h h' ∧ ∀ j, j < n → h' (M + 5) j = shO (eH h L n) (h (M + 5)) (h (P + 1)) u j) := by
    intro al x5 x6 h1 hk hmid m
    have h0 : h1 L 0 = nI n := by rw [hk L (by omega)]; exact h0
    have hr : h1 (P + 1) = h (P + 1) := hk (P + 1) (by omega)
    induction m with
    | zero => intro l x7 h2 a b; omega
    | succ m ih =>
      intro l x7 h2 a b e7 H
      subst e7
      refine r_iload rfl dX4_shareOut_166 ?_
      refine r_aload_n rfl dX4_shareOut_168 ?_
      refine r_getI foX4_30 hL.1 rfl dX4_shareOut_169 ?_
      refine r_icmp_ge 211 dX4_shareOut_172 (by decide) (fun c_172 => ?_) (fun c_172 => ?_)
      · refine ret_v dX4_shareOut_211 rfl ?_
        refine ⟨fun q z => by rw [H.1 q z]; exact hk q z, fun j hj => ?_⟩
        rcases Nat.lt_or_ge j l with q | q
        · exact H.2.1 j q
        · have hst : lfF (h (P + 1)) u (shA (eH h L n) (h (M + 5)) (h (P + 1)) u) j ≤ 0 := by
            first
              | (obtain ⟨d, rfl⟩ : ∃ d, j = l + d := ⟨j - l, by omega⟩
                 exact lfF_stay c_177 d)
              | (rw [H.1 L (by omega), h0] at c_172
                 exact absurd (ge_y (by omega) (by omega) c_172) (by omega))
          rw [H.2.2 j q, hmid j hj, shO, shM]
          by_cases e : h (P + 1) j = u
          · rw [if_pos e, if_pos e, if_pos hst]
          · rw [if_neg e, if_neg e]
      · rw [H.1 L (by omega), h0] at c_172
        have hlk : l < n := ge_n (by omega) c_172
        refine r_iload rfl dX4_shareOut_175 ?_
        refine r_if_le 211 dX4_shareOut_177 (by decide) (fun c_177 => ?_) (fun c_177 => ?_)
        · refine ret_v dX4_shareOut_211 rfl ?_
          refine ⟨fun q z => by rw [H.1 q z]; exact hk q z, fun j hj => ?_⟩
          rcases Nat.lt_or_ge j l with q | q
          · exact H.2.1 j q
          · have hst : lfF (h (P + 1)) u (shA (eH h L n) (h (M + 5)) (h (P + 1)) u) j ≤ 0 := by
              first
                | (obtain ⟨d, rfl⟩ : ∃ d, j = l + d := ⟨j - l, by omega⟩
                   exact lfF_stay c_177 d)
                | (rw [H.1 L (by omega), h0] at c_172
                   exact absurd (ge_y (by omega) (by omega) c_172) (by omega))
            rw [H.2.2 j q, hmid j hj, shO, shM]
            by_cases e : h (P + 1) j = u
            · rw [if_pos e, if_pos e, if_pos hst]
            · rw [if_neg e, if_neg e]
        · skip
          refine r_aload_n rfl dX4_shareOut_180 ?_
          refine r_getR foX4_44 hP.1 rfl dX4_shareOut_181 ?_
          refine r_iload rfl dX4_shareOut_184 ?_
          refine r_ild hP.2.1 rfl (by omega) (by decide) dX4_shareOut_186 ?_
          rw [H.1 (P + 1) (by omega), hr]
          refine r_iload_n rfl dX4_shareOut_187 ?_
          refine r_icmp_ne 205 dX4_shareOut_188 (by decide) (fun c_188 => ?_) (fun c_188 => ?_)
          · first | refine r_incN8 rfl (by decide) dX4_shareOut_205 ?_ | refine r_incP8 rfl (by decide) dX4_shareOut_205 ?_
            refine r_goto 166 dX4_shareOut_208 (by decide) ?_
            first
              | exact ih (l + 1) _ _ (by omega) (by omega) (by rw [lfF, if_neg c_177, if_pos c_188]) (S1_set H (by rw [hmid l hlk, shM, if_pos c_188]; show _ = shO _ _ _ _ _; rw [shO, if_pos c_188, if_neg c_177]))
              | exact ih (l + 1) _ _ (by omega) (by omega) (by rw [lfF, if_neg c_177, if_neg c_188]) (S1_not H (by rw [hmid l hlk, shM, if_neg c_188]; show _ = shO _ _ _ _ _; rw [shO, if_neg c_188]))
          · refine r_aload_n rfl dX4_shareOut_191 ?_
            refine r_getR foX4_24 hM.1 rfl dX4_shareOut_192 ?_
            refine r_iload rfl dX4_shareOut_195 ?_
            refine r_dup2 rfl rfl dX4_shareOut_197 ?_
            refine r_ild hM.2.2.2.2.2.1 rfl (by omega) (by decide) dX4_shareOut_198 ?_
            rw [H.2.2 l (Nat.le_refl _)]
            refine r_iconst (v := (1 : Int32)) (by decide) dX4_shareOut_199 ?_
            refine r_iadd dX4_shareOut_200 ?_
            refine r_ias hM.2.2.2.2.2.1 rfl (by omega) (by decide) dX4_shareOut_201 ?_
            first | refine r_incM7 rfl (by decide) dX4_shareOut_202 ?_ | refine r_incQ7 rfl (by decide) dX4_shareOut_202 ?_
            first | refine r_incN8 rfl (by decide) dX4_shareOut_205 ?_ | refine r_incP8 rfl (by decide) dX4_shareOut_205 ?_
            refine r_goto 166 dX4_shareOut_208 (by decide) ?_
            first
              | exact ih (l + 1) _ _ (by omega) (by omega) (by rw [lfF, if_neg c_177, if_pos c_188]) (S1_set H (by rw [hmid l hlk, shM, if_pos c_188]; show _ = shO _ _ _ _ _; rw [shO, if_pos c_188, if_neg c_177]))
              | exact ih (l + 1) _ _ (by omega) (by omega) (by rw [lfF, if_neg c_177, if_neg c_188]) (S1_not H (by rw [hmid l hlk, shM, if_neg c_188]; show _ = shO _ _ _ _ _; rw [shO, if_neg c_188]))
  have loop2 : ∀ {al : Int32}, al = (if h L 2 = 1 then 1 else 0) → ∀ (m l : Nat) (x7 : Int32) (h1 : Hp), l ≤ n → n < l + m → x7 = (smF (h (M + 5)) (h (P + 1)) u n) - smF (shQ (eH h L n) (h (M + 5)) (h (P + 1)) u) (h (P + 1)) u l → S1 (M + 5) l (shM (eH h L n) (h (M + 5)) (h (P + 1)) u) h h1 → R g mX4_shareOut 96 [some (.ref (ad g M)), some (.ref (ad g L)), some (.ref (ad g P)), some (.int u), some (.int al), some (.int (smF (h (M + 5)) (h (P + 1)) u n)), some (.int (smF (wtS (eH h L n)) (h (P + 1)) u n)), some (.int x7), some (.int (nI l))] [] h1 (Rv fun h' => KeepA (M + 5) h h' ∧ ∀ j, j < n → h' (M + 5) j = shO (eH h L n) (h (M + 5)) (h (P + 1)) u j) := by
    intro al hal m
    induction m with
    | zero => intro l x7 h1 a b; omega
    | succ m ih =>
      intro l x7 h1 a b e7 H
      subst e7
      refine r_iload rfl dX4_shareOut_96 ?_
      refine r_aload_n rfl dX4_shareOut_98 ?_
      refine r_getI foX4_30 hL.1 rfl dX4_shareOut_99 ?_
      refine r_icmp_ge 163 dX4_shareOut_102 (by decide) (fun c_102 => ?_) (fun c_102 => ?_)
      · rw [H.1 L (by omega), h0] at c_102
        have e : l = n := by have := ge_y (by omega) (by omega) c_102; omega
        subst e
        refine r_iconst (v := nI 0) (by decide) dX4_shareOut_163 ?_
        refine r_ist8 rfl (by decide) dX4_shareOut_164 ?_
        exact loop3 _ H.1 H.2.1 (l + 1) 0 _ _ (by omega) (by omega) rfl S1_0
      · rw [H.1 L (by omega), h0] at c_102
        have hlk : l < n := ge_n (by omega) c_102
        refine r_aload_n rfl dX4_shareOut_105 ?_
        refine r_getR foX4_44 hP.1 rfl dX4_shareOut_106 ?_
        refine r_iload rfl dX4_shareOut_109 ?_
        refine r_ild hP.2.1 rfl (by omega) (by decide) dX4_shareOut_111 ?_
        rw [H.1 (P + 1) (by omega)]
        refine r_iload_n rfl dX4_shareOut_112 ?_
        refine r_icmp_ne 157 dX4_shareOut_113 (by decide) (fun c_113 => ?_) (fun c_113 => ?_)
        · first | refine r_incN8 rfl (by decide) dX4_shareOut_157 ?_ | refine r_incP8 rfl (by decide) dX4_shareOut_157 ?_
          refine r_goto 96 dX4_shareOut_160 (by decide) ?_
          first
            | exact ih (l + 1) _ _ (by omega) (by omega) (by rw [smF, if_neg c_113]) (S1_not H (by rw [shM, if_neg c_113]))
            | (have eq1 := shQ_at h L n (h (M + 5)) (h (P + 1)) u l
               rw [wtS_at] at eq1
               first
                 | (rw [if_neg (fun e => by rw [hal, if_pos e] at c_126; exact absurd c_126 (by decide))] at eq1
                    rw [← eq1]
                    exact ih (l + 1) _ _ (by omega) (by omega) (by rw [smF, if_pos c_113, sub_sub']) (S1_set H (by rw [shM, if_pos c_113])))
                 | (rw [if_pos (Decidable.byContradiction fun e => c_126 (by rw [hal, if_neg e]))] at eq1
                    rw [← eq1]
                    exact ih (l + 1) _ _ (by omega) (by omega) (by rw [smF, if_pos c_113, sub_sub']) (S1_set H (by rw [shM, if_pos c_113]))))
        · refine r_aload_n rfl dX4_shareOut_116 ?_
          refine r_getR foX4_24 hM.1 rfl dX4_shareOut_117 ?_
          refine r_iload rfl dX4_shareOut_120 ?_
          refine r_iload rfl dX4_shareOut_122 ?_
          refine r_iload rfl dX4_shareOut_124 ?_
          refine r_if_eq 133 dX4_shareOut_126 (by decide) (fun c_126 => ?_) (fun c_126 => ?_)
          · refine r_aload_n rfl dX4_shareOut_133 ?_
            refine r_getR foX4_70 hL.1 rfl dX4_shareOut_134 ?_
            refine r_iload rfl dX4_shareOut_137 ?_
            refine r_ild hL.2.1 rfl (by omega) (by decide) dX4_shareOut_139 ?_
            rw [H.1 (L + 1) (by omega)]
            refine r_imul dX4_shareOut_140 ?_
            refine r_iload rfl dX4_shareOut_141 ?_
            refine r_idiv hwt dX4_shareOut_143 ?_
            refine r_ias hM.2.2.2.2.2.1 rfl (by omega) (by decide) dX4_shareOut_144 ?_
            have hq : shQ (eH h L n) (h (M + 5)) (h (P + 1)) u l = shQ (eH h L n) (h (M + 5)) (h (P + 1)) u l := rfl
            refine r_iload rfl dX4_shareOut_145 ?_
            refine r_aload_n rfl dX4_shareOut_147 ?_
            refine r_getR foX4_24 hM.1 rfl dX4_shareOut_148 ?_
            refine r_iload rfl dX4_shareOut_151 ?_
            refine r_ild hM.2.2.2.2.2.1 rfl (by omega) (by decide) dX4_shareOut_153 ?_
            rw [hset_same, upd_eq]
            refine r_isub dX4_shareOut_154 ?_
            refine r_ist7 rfl (by decide) dX4_shareOut_155 ?_
            first | refine r_incN8 rfl (by decide) dX4_shareOut_157 ?_ | refine r_incP8 rfl (by decide) dX4_shareOut_157 ?_
            refine r_goto 96 dX4_shareOut_160 (by decide) ?_
            first
              | exact ih (l + 1) _ _ (by omega) (by omega) (by rw [smF, if_neg c_113]) (S1_not H (by rw [shM, if_neg c_113]))
              | (have eq1 := shQ_at h L n (h (M + 5)) (h (P + 1)) u l
                 rw [wtS_at] at eq1
                 first
                   | (rw [if_neg (fun e => by rw [hal, if_pos e] at c_126; exact absurd c_126 (by decide))] at eq1
                      rw [← eq1]
                      exact ih (l + 1) _ _ (by omega) (by omega) (by rw [smF, if_pos c_113, sub_sub']) (S1_set H (by rw [shM, if_pos c_113])))
                   | (rw [if_pos (Decidable.byContradiction fun e => c_126 (by rw [hal, if_neg e]))] at eq1
                      rw [← eq1]
                      exact ih (l + 1) _ _ (by omega) (by omega) (by rw [smF, if_pos c_113, sub_sub']) (S1_set H (by rw [shM, if_pos c_113]))))
          · refine r_iconst (v := (1 : Int32)) (by decide) dX4_shareOut_129 ?_
            refine r_goto 140 dX4_shareOut_130 (by decide) ?_
            refine r_imul dX4_shareOut_140 ?_
            refine r_iload rfl dX4_shareOut_141 ?_
            refine r_idiv hwt dX4_shareOut_143 ?_
            refine r_ias hM.2.2.2.2.2.1 rfl (by omega) (by decide) dX4_shareOut_144 ?_
            have hq : shQ (eH h L n) (h (M + 5)) (h (P + 1)) u l = shQ (eH h L n) (h (M + 5)) (h (P + 1)) u l := rfl
            refine r_iload rfl dX4_shareOut_145 ?_
            refine r_aload_n rfl dX4_shareOut_147 ?_
            refine r_getR foX4_24 hM.1 rfl dX4_shareOut_148 ?_
            refine r_iload rfl dX4_shareOut_151 ?_
            refine r_ild hM.2.2.2.2.2.1 rfl (by omega) (by decide) dX4_shareOut_153 ?_
            rw [hset_same, upd_eq]
            refine r_isub dX4_shareOut_154 ?_
            refine r_ist7 rfl (by decide) dX4_shareOut_155 ?_
            first | refine r_incN8 rfl (by decide) dX4_shareOut_157 ?_ | refine r_incP8 rfl (by decide) dX4_shareOut_157 ?_
            refine r_goto 96 dX4_shareOut_160 (by decide) ?_
            first
              | exact ih (l + 1) _ _ (by omega) (by omega) (by rw [smF, if_neg c_113]) (S1_not H (by rw [shM, if_neg c_113]))
              | (have eq1 := shQ_at h L n (h (M + 5)) (h (P + 1)) u l
                 rw [wtS_at] at eq1
                 first
                   | (rw [if_neg (fun e => by rw [hal, if_pos e] at c_126; exact absurd c_126 (by decide))] at eq1
                      rw [← eq1]
                      exact ih (l + 1) _ _ (by omega) (by omega) (by rw [smF, if_pos c_113, sub_sub']) (S1_set H (by rw [shM, if_pos c_113])))
                   | (rw [if_pos (Decidable.byContradiction fun e => c_126 (by rw [hal, if_neg e]))] at eq1
                      rw [← eq1]
                      exact ih (l + 1) _ _ (by omega) (by omega) (by rw [smF, if_pos c_113, sub_sub']) (S1_set H (by rw [shM, if_pos c_113]))))
  have loop1 : ∀ {al : Int32}, al = (if h L 2 = 1 then 1 else 0) → ∀ (m l : Nat) (x5 x6 : Int32) (z : Option Value), l ≤ n → n < l + m → x5 = smF (h (M + 5)) (h (P + 1)) u l → x6 = smF (wtS (eH h L n)) (h (P + 1)) u l → R g mX4_shareOut 24 [some (.ref (ad g M)), some (.ref (ad g L)), some (.ref (ad g P)), some (.int u), some (.int al), some (.int x5), some (.int x6), some (.int (nI l)), z] [] h (Rv fun h' => KeepA (M + 5) h h' ∧ ∀ j, j < n → h' (M + 5) j = shO (eH h L n) (h (M + 5)) (h (P + 1)) u j) := by
    intro al hal m
    induction m with
    | zero => intro l x5 x6 z a b; omega
    | succ m ih =>
      intro l x5 x6 z a b e5 e6
      subst e5; subst e6
      refine r_iload rfl dX4_shareOut_24 ?_
      refine r_aload_n rfl dX4_shareOut_26 ?_
      refine r_getI foX4_30 hL.1 rfl dX4_shareOut_27 ?_
      refine r_icmp_ge 83 dX4_shareOut_30 (by decide) (fun c_30 => ?_) (fun c_30 => ?_)
      · rw [h0] at c_30
        have e : l = n := by have := ge_y (by omega) (by omega) c_30; omega
        subst e
        refine r_iload rfl dX4_shareOut_83 ?_
        refine r_if_gt 89 dX4_shareOut_85 (by decide) (fun c_85 => ?_) (fun c_85 => ?_)
        · refine r_iload rfl dX4_shareOut_89 ?_
          refine r_ist7 rfl (by decide) dX4_shareOut_91 ?_
          refine r_iconst (v := nI 0) (by decide) dX4_shareOut_93 ?_
          refine r_ist8 rfl (by decide) dX4_shareOut_94 ?_
          exact loop2 hal (l + 1) 0 _ _ (by omega) (by omega) (by rw [smF, Int32.sub_zero]) S1_0
        · refine ret_v dX4_shareOut_88 rfl ?_
          exact absurd hpos c_85
      · rw [h0] at c_30
        have hlk : l < n := ge_n (by omega) c_30
        refine r_aload_n rfl dX4_shareOut_33 ?_
        refine r_getR foX4_44 hP.1 rfl dX4_shareOut_34 ?_
        refine r_iload rfl dX4_shareOut_37 ?_
        refine r_ild hP.2.1 rfl (by omega) (by decide) dX4_shareOut_39 ?_
        refine r_iload_n rfl dX4_shareOut_40 ?_
        refine r_icmp_ne 77 dX4_shareOut_41 (by decide) (fun c_41 => ?_) (fun c_41 => ?_)
        · first | refine r_incN7 rfl (by decide) dX4_shareOut_77 ?_ | refine r_incP7 rfl (by decide) dX4_shareOut_77 ?_
          refine r_goto 24 dX4_shareOut_80 (by decide) ?_
          first
            | exact ih (l + 1) _ _ _ (by omega) (by omega) (by rw [smF, if_neg c_41]) (by rw [smF, if_neg c_41])
            | (have hwl : (if h L 2 = 1 then 1 else h (L + 1) l) = h (L + 1) l := if_neg (fun e => by rw [hal, if_pos e] at c_60; exact absurd c_60 (by decide))
               exact ih (l + 1) _ _ _ (by omega) (by omega) (by rw [smF, if_pos c_41]) (by rw [smF, if_pos c_41, wtS_at, hwl]))
            | (have hwl : (if h L 2 = 1 then 1 else h (L + 1) l) = 1 := if_pos (Decidable.byContradiction fun e => c_60 (by rw [hal, if_neg e]))
               exact ih (l + 1) _ _ _ (by omega) (by omega) (by rw [smF, if_pos c_41]) (by rw [smF, if_pos c_41, wtS_at, hwl]))
        · refine r_iload rfl dX4_shareOut_44 ?_
          refine r_aload_n rfl dX4_shareOut_46 ?_
          refine r_getR foX4_24 hM.1 rfl dX4_shareOut_47 ?_
          refine r_iload rfl dX4_shareOut_50 ?_
          refine r_ild hM.2.2.2.2.2.1 rfl (by omega) (by decide) dX4_shareOut_52 ?_
          refine r_iadd dX4_shareOut_53 ?_
          refine r_ist5 rfl (by decide) dX4_shareOut_54 ?_
          refine r_iload rfl dX4_shareOut_56 ?_
          refine r_iload rfl dX4_shareOut_58 ?_
          refine r_if_eq 67 dX4_shareOut_60 (by decide) (fun c_60 => ?_) (fun c_60 => ?_)
          · refine r_aload_n rfl dX4_shareOut_67 ?_
            refine r_getR foX4_70 hL.1 rfl dX4_shareOut_68 ?_
            refine r_iload rfl dX4_shareOut_71 ?_
            refine r_ild hL.2.1 rfl (by omega) (by decide) dX4_shareOut_73 ?_
            refine r_iadd dX4_shareOut_74 ?_
            refine r_ist6 rfl (by decide) dX4_shareOut_75 ?_
            first | refine r_incN7 rfl (by decide) dX4_shareOut_77 ?_ | refine r_incP7 rfl (by decide) dX4_shareOut_77 ?_
            refine r_goto 24 dX4_shareOut_80 (by decide) ?_
            first
              | exact ih (l + 1) _ _ _ (by omega) (by omega) (by rw [smF, if_neg c_41]) (by rw [smF, if_neg c_41])
              | (have hwl : (if h L 2 = 1 then 1 else h (L + 1) l) = h (L + 1) l := if_neg (fun e => by rw [hal, if_pos e] at c_60; exact absurd c_60 (by decide))
                 exact ih (l + 1) _ _ _ (by omega) (by omega) (by rw [smF, if_pos c_41]) (by rw [smF, if_pos c_41, wtS_at, hwl]))
              | (have hwl : (if h L 2 = 1 then 1 else h (L + 1) l) = 1 := if_pos (Decidable.byContradiction fun e => c_60 (by rw [hal, if_neg e]))
                 exact ih (l + 1) _ _ _ (by omega) (by omega) (by rw [smF, if_pos c_41]) (by rw [smF, if_pos c_41, wtS_at, hwl]))
          · refine r_iconst (v := (1 : Int32)) (by decide) dX4_shareOut_63 ?_
            refine r_goto 74 dX4_shareOut_64 (by decide) ?_
            refine r_iadd dX4_shareOut_74 ?_
            refine r_ist6 rfl (by decide) dX4_shareOut_75 ?_
            first | refine r_incN7 rfl (by decide) dX4_shareOut_77 ?_ | refine r_incP7 rfl (by decide) dX4_shareOut_77 ?_
            refine r_goto 24 dX4_shareOut_80 (by decide) ?_
            first
              | exact ih (l + 1) _ _ _ (by omega) (by omega) (by rw [smF, if_neg c_41]) (by rw [smF, if_neg c_41])
              | (have hwl : (if h L 2 = 1 then 1 else h (L + 1) l) = h (L + 1) l := if_neg (fun e => by rw [hal, if_pos e] at c_60; exact absurd c_60 (by decide))
                 exact ih (l + 1) _ _ _ (by omega) (by omega) (by rw [smF, if_pos c_41]) (by rw [smF, if_pos c_41, wtS_at, hwl]))
              | (have hwl : (if h L 2 = 1 then 1 else h (L + 1) l) = 1 := if_pos (Decidable.byContradiction fun e => c_60 (by rw [hal, if_neg e]))
                 exact ih (l + 1) _ _ _ (by omega) (by omega) (by rw [smF, if_pos c_41]) (by rw [smF, if_pos c_41, wtS_at, hwl]))
  refine r_aload_n rfl dX4_shareOut_0 ?_
  refine r_getI foX4_49 hL.1 rfl dX4_shareOut_1 ?_
  refine r_iconst (v := (1 : Int32)) (by decide) dX4_shareOut_4 ?_
  refine r_icmp_ne 12 dX4_shareOut_5 (by decide) (fun c_5 => ?_) (fun c_5 => ?_)
  · refine r_iconst (v := (0 : Int32)) (by decide) dX4_shareOut_12 ?_
    refine r_ist4 rfl (by decide) dX4_shareOut_13 ?_
    refine r_iconst (v := (0 : Int32)) (by decide) dX4_shareOut_15 ?_
    refine r_ist5 rfl (by decide) dX4_shareOut_16 ?_
    refine r_iconst (v := (0 : Int32)) (by decide) dX4_shareOut_18 ?_
    refine r_ist6 rfl (by decide) dX4_shareOut_19 ?_
    refine r_iconst (v := nI 0) (by decide) dX4_shareOut_21 ?_
    refine r_ist7 rfl (by decide) dX4_shareOut_22 ?_
    first
      | exact loop1 (if_pos c_5).symm (n + 1) 0 _ _ _ (by omega) (by omega) rfl rfl
      | exact loop1 (if_neg c_5).symm (n + 1) 0 _ _ _ (by omega) (by omega) rfl rfl
  · refine r_iconst (v := (1 : Int32)) (by decide) dX4_shareOut_8 ?_
    refine r_goto 13 dX4_shareOut_9 (by decide) ?_
    refine r_ist4 rfl (by decide) dX4_shareOut_13 ?_
    refine r_iconst (v := (0 : Int32)) (by decide) dX4_shareOut_15 ?_
    refine r_ist5 rfl (by decide) dX4_shareOut_16 ?_
    refine r_iconst (v := (0 : Int32)) (by decide) dX4_shareOut_18 ?_
    refine r_ist6 rfl (by decide) dX4_shareOut_19 ?_
    refine r_iconst (v := nI 0) (by decide) dX4_shareOut_21 ?_
    refine r_ist7 rfl (by decide) dX4_shareOut_22 ?_
    first
      | exact loop1 (if_pos c_5).symm (n + 1) 0 _ _ _ (by omega) (by omega) rfl rfl
      | exact loop1 (if_neg c_5).symm (n + 1) 0 _ _ _ (by omega) (by omega) rfl rfl

