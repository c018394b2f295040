theorem lf_ct (r : Nat → Int32) (u : Int32) {j : Nat} (hj : j < 2 ^ 31) : ∀ l, lfF r u (nI j) l = nI (j - ctF r u l) := by
  intro l
  induction l with
  | zero => rfl
  | succ l ih =>
    rw [lfF, ctF, ih]
    by_cases q : j ≤ ctF r u l
    · have e0 : nI (j - ctF r u l) ≤ 0 := by rw [show j - ctF r u l = 0 by omega]; decide
      rw [if_pos e0]
      split
      · congr 1; omega
      · rfl
    · rw [if_neg (nI_nle (by omega) (by omega))]
      split
      · obtain ⟨d, hd⟩ : ∃ d, j - ctF r u l = d + 1 := ⟨j - ctF r u l - 1, by omega⟩
        rw [hd, nI_pred]
        congr 1
        omega
      · rfl
theorem lf_neg (r : Nat → Int32) (u : Int32) {a : Int32} (ha : a ≤ 0) : ∀ l, lfF r u a l = a := by
  intro l
  induction l with
  | zero => rfl
  | succ l ih => rw [lfF, ih, if_pos ha]
/-- a land gets one more just if fewer are ahead of it than are left over -/
theorem lf_iff (r : Nat → Int32) (u a : Int32) {l : Nat} (hl : l < 2 ^ 31) : lfF r u a l ≤ 0 ↔ a ≤ nI (ctF r u l) := by
  have hc := ctF_le r u l
  by_cases q : a ≤ 0
  · rw [lf_neg r u q]
    exact ⟨fun _ => Int32.le_trans q (nI_pos' (by omega)), fun _ => q⟩
  · have h0 : ¬ a < 0 := fun z => q (Int32.le_of_lt z)
    obtain ⟨j, hj, e⟩ := nI_of h0
    subst e
    rw [lf_ct r u hj]
    constructor
    · intro z
      refine nI_le ?_ (by omega)
      rcases Nat.lt_or_ge (ctF r u l) j with y | y
      · exact absurd z (nI_nle (by omega) (by omega))
      · exact y
    · intro z
      have := (nI_leI hj (by omega)).mp z
      rw [show j - ctF r u l = 0 by omega]
      decide
theorem smF_one (r : Nat → Int32) (u : Int32) : ∀ l, smF (fun _ => 1) r u l = nI (ctF r u l) := by
  intro l
  induction l with
  | zero => rfl
  | succ l ih =>
    rw [smF, ctF, ih]
    split
    · exact nI_1 _
    · rfl
theorem wt_1 {E : Ec} (h : eSh E = 1) : wtS E = fun _ => 1 := by funext l; rw [wtS, if_pos h]
theorem wt_2 {E : Ec} (h : ¬ eSh E = 1) : wtS E = eW E := by funext l; rw [wtS, if_neg h]
theorem shQ_1 {E : Ec} (h : eSh E = 1) (tk r : Nat → Int32) (u : Int32) (l : Nat) : shQ E tk r u l = smF tk r u (eN E) / nI (ctF r u (eN E)) := by
  rw [shQ, wt_1 h, smF_one, Int32.mul_one]
theorem shQ_2 {E : Ec} (h : ¬ eSh E = 1) (tk r : Nat → Int32) (u : Int32) (l : Nat) : shQ E tk r u l = smF tk r u (eN E) * eW E l / smF (eW E) r u (eN E) := by
  rw [shQ, wt_2 h]

theorem ah_no {r : Nat → Int32} {u : Int32} {l k : Nat} (h : ¬ r l = u) : nI (ctF r u (min l k)) = nI (ctF r u (min (l + 1) k)) := by
  rcases Nat.lt_or_ge l k with q | q
  · rw [show min l k = l by omega, show min (l + 1) k = l + 1 by omega, ctF, if_neg h]
  · rw [show min l k = k by omega, show min (l + 1) k = k by omega]
theorem ah_hi {r : Nat → Int32} {u : Int32} {l k : Nat} (h : k ≤ l) : nI (ctF r u (min l k)) + 0 = nI (ctF r u (min (l + 1) k)) := by
  rw [Int32.add_zero, show min l k = k by omega, show min (l + 1) k = k by omega]
theorem ah_lo {r : Nat → Int32} {u : Int32} {l k : Nat} (h : r l = u) (hl : l < k) : nI (ctF r u (min l k)) + 1 = nI (ctF r u (min (l + 1) k)) := by
  rw [nI_1, show min l k = l by omega, show min (l + 1) k = l + 1 by omega, ctF, if_pos h]

set_option maxRecDepth 100000 in
set_option maxHeartbeats 400000 in
theorem m_shareOf {g : GG} {A n k : Nat} {h : Hp} (hA : shl[A]? = some (.inl 6)) (hn : n ≤ 6) (h0 : h 62 1 = nI n) (hk : k < n) (hW : ∀ l, l < n → Bd 1 99 (eW (eM h n) l)) : R g mX9_shareOf 0 [some (.ref (ad g 62)), some (.ref (ad g A)), some (.int (nI k)), none, none, none, none, none, none] [] h (Ri fun v h' => h' = h ∧ v = if h 62 3 = 0 then h 72 k else shO (eM h n) (h 72) (h A) (h A k) k) := by
  have hmany : ¬ (nI (ctF (h A) (h A k) n)) = 0 := nI_ne0 (ctF_pos rfl n hk) (by have := ctF_le (h A) (h A k) n; omega)
  have hwis : ¬ (smF (eW (eM h n)) (h A) (h A k) n) = 0 := fun q => by have := smF_pos hn hW hk (rfl : h A k = h A k); rw [q] at this; exact absurd this (by decide)
  have loop2 : ¬ h 62 3 = 0 → ∀ (z l : Nat) (x7 : Int32) (y : Option Value), l ≤ n → n < l + z → x7 = smF (shQ (eM h n) (h 72) (h A) (h A k)) (h A) (h A k) l → R g mX9_shareOf 102 [some (.ref (ad g 62)), some (.ref (ad g A)), some (.int (nI k)), some (.int (smF (h 72) (h A) (h A k) n)), some (.int (nI (ctF (h A) (h A k) n))), some (.int (smF (eW (eM h n)) (h A) (h A k) n)), some (.int (nI (ctF (h A) (h A k) k))), some (.int x7), some (.int (nI l))] [] h (Ri fun v h' => h' = h ∧ v = if h 62 3 = 0 then h 72 k else shO (eM h n) (h 72) (h A) (h A k) k) := by
    intro hsh z
    induction z with
    | zero => intro l x7 y a b; omega
    | succ z ih =>
      intro l x7 y a b e7
      subst e7
      refine r_iload rfl dX9_shareOf_102 ?_
      refine r_aload_n rfl dX9_shareOf_104 ?_
      refine r_getI foX9_55 rfl rfl dX9_shareOf_105 ?_
      rw [h0]
      refine r_icmp_ge 165 dX9_shareOf_108 (by decide) (fun c_108 => ?_) (fun c_108 => ?_)
      · have e : l = n := by have := ge_y (by omega) (by omega) c_108; omega
        subst e
        refine r_aload_n rfl dX9_shareOf_165 ?_
        refine r_getI foX9_88 rfl rfl dX9_shareOf_166 ?_
        refine r_iconst (v := (1 : Int32)) (by decide) dX9_shareOf_169 ?_
        refine r_icmp_ne 180 dX9_shareOf_170 (by decide) (fun c_170 => ?_) (fun c_170 => ?_)
        · refine r_iload_n rfl dX9_shareOf_180 ?_
          refine r_aload_n rfl dX9_shareOf_181 ?_
          refine r_getR foX9_7 rfl rfl dX9_shareOf_182 ?_
          refine r_iconst (v := (4 : Int32)) (by decide) dX9_shareOf_185 ?_
          refine r_iload_n rfl dX9_shareOf_186 ?_
          refine r_imul dX9_shareOf_187 ?_
          rw [ix40]
          refine r_ild rfl rfl (by omega) (by decide) dX9_shareOf_188 ?_
          rw [show h 63 (4 * k) = eW (eM h l) k from rfl]
          refine r_imul dX9_shareOf_189 ?_
          refine r_iload rfl dX9_shareOf_190 ?_
          refine r_idiv hwis dX9_shareOf_192 ?_
          refine r_ist8 rfl (by decide) dX9_shareOf_193 ?_
          refine r_iload rfl dX9_shareOf_195 ?_
          refine r_iload rfl dX9_shareOf_197 ?_
          refine r_iload_n rfl dX9_shareOf_199 ?_
          refine r_iload rfl dX9_shareOf_200 ?_
          refine r_isub dX9_shareOf_202 ?_
          refine r_icmp_ge 210 dX9_shareOf_203 (by decide) (fun c_203 => ?_) (fun c_203 => ?_)
          · refine r_iconst (v := (0 : Int32)) (by decide) dX9_shareOf_210 ?_
            refine r_iadd dX9_shareOf_211 ?_
            refine ret_i dX9_shareOf_212 rfl ?_
            refine ⟨rfl, ?_⟩
            rw [if_neg hsh, shO, if_pos rfl]
            first
              | (rw [if_pos ((lf_iff (h A) (h A k) (shA (eM h l) (h 72) (h A) (h A k)) (by omega)).mpr c_203), Int32.add_zero]
                 first
                   | (rw [shQ_1 (E := eM h l) c_170]; rfl)
                   | (rw [shQ_2 (E := eM h l) c_170]; rfl))
              | (rw [if_neg (fun q => c_203 ((lf_iff (h A) (h A k) (shA (eM h l) (h 72) (h A) (h A k)) (by omega)).mp q))]
                 first
                   | (rw [shQ_1 (E := eM h l) c_170]; rfl)
                   | (rw [shQ_2 (E := eM h l) c_170]; rfl))
          · refine r_iconst (v := (1 : Int32)) (by decide) dX9_shareOf_206 ?_
            refine r_goto 211 dX9_shareOf_207 (by decide) ?_
            refine r_iadd dX9_shareOf_211 ?_
            refine ret_i dX9_shareOf_212 rfl ?_
            refine ⟨rfl, ?_⟩
            rw [if_neg hsh, shO, if_pos rfl]
            first
              | (rw [if_pos ((lf_iff (h A) (h A k) (shA (eM h l) (h 72) (h A) (h A k)) (by omega)).mpr c_203), Int32.add_zero]
                 first
                   | (rw [shQ_1 (E := eM h l) c_170]; rfl)
                   | (rw [shQ_2 (E := eM h l) c_170]; rfl))
              | (rw [if_neg (fun q => c_203 ((lf_iff (h A) (h A k) (shA (eM h l) (h 72) (h A) (h A k)) (by omega)).mp q))]
                 first
                   | (rw [shQ_1 (E := eM h l) c_170]; rfl)
                   | (rw [shQ_2 (E := eM h l) c_170]; rfl))
        · refine r_iload_n rfl dX9_shareOf_173 ?_
          refine r_iload rfl dX9_shareOf_174 ?_
          refine r_idiv hmany dX9_shareOf_176 ?_
          refine r_goto 193 dX9_shareOf_177 (by decide) ?_
          refine r_ist8 rfl (by decide) dX9_shareOf_193 ?_
          refine r_iload rfl dX9_shareOf_195 ?_
          refine r_iload rfl dX9_shareOf_197 ?_
          refine r_iload_n rfl dX9_shareOf_199 ?_
          refine r_iload rfl dX9_shareOf_200 ?_
          refine r_isub dX9_shareOf_202 ?_
          refine r_icmp_ge 210 dX9_shareOf_203 (by decide) (fun c_203 => ?_) (fun c_203 => ?_)
          · refine r_iconst (v := (0 : Int32)) (by decide) dX9_shareOf_210 ?_
            refine r_iadd dX9_shareOf_211 ?_
            refine ret_i dX9_shareOf_212 rfl ?_
            refine ⟨rfl, ?_⟩
            rw [if_neg hsh, shO, if_pos rfl]
            first
              | (rw [if_pos ((lf_iff (h A) (h A k) (shA (eM h l) (h 72) (h A) (h A k)) (by omega)).mpr c_203), Int32.add_zero]
                 first
                   | (rw [shQ_1 (E := eM h l) c_170]; rfl)
                   | (rw [shQ_2 (E := eM h l) c_170]; rfl))
              | (rw [if_neg (fun q => c_203 ((lf_iff (h A) (h A k) (shA (eM h l) (h 72) (h A) (h A k)) (by omega)).mp q))]
                 first
                   | (rw [shQ_1 (E := eM h l) c_170]; rfl)
                   | (rw [shQ_2 (E := eM h l) c_170]; rfl))
          · refine r_iconst (v := (1 : Int32)) (by decide) dX9_shareOf_206 ?_
            refine r_goto 211 dX9_shareOf_207 (by decide) ?_
            refine r_iadd dX9_shareOf_211 ?_
            refine ret_i dX9_shareOf_212 rfl ?_
            refine ⟨rfl, ?_⟩
            rw [if_neg hsh, shO, if_pos rfl]
            first
              | (rw [if_pos ((lf_iff (h A) (h A k) (shA (eM h l) (h 72) (h A) (h A k)) (by omega)).mpr c_203), Int32.add_zero]
                 first
                   | (rw [shQ_1 (E := eM h l) c_170]; rfl)
                   | (rw [shQ_2 (E := eM h l) c_170]; rfl))
              | (rw [if_neg (fun q => c_203 ((lf_iff (h A) (h A k) (shA (eM h l) (h 72) (h A) (h A k)) (by omega)).mp q))]
                 first
                   | (rw [shQ_1 (E := eM h l) c_170]; rfl)
                   | (rw [shQ_2 (E := eM h l) c_170]; rfl))
      · have hlk : l < n := ge_n (by omega) c_108
        refine r_iload rfl dX9_shareOf_111 ?_
        refine r_aload_n rfl dX9_shareOf_113 ?_
        refine r_iload rfl dX9_shareOf_114 ?_
        refine r_ild hA rfl (by omega) (by decide) dX9_shareOf_116 ?_
        refine r_aload_n rfl dX9_shareOf_117 ?_
        refine r_iload_n rfl dX9_shareOf_118 ?_
        refine r_ild hA rfl (by omega) (by decide) dX9_shareOf_119 ?_
        refine r_icmp_eq 127 dX9_shareOf_120 (by decide) (fun c_120 => ?_) (fun c_120 => ?_)
        · refine r_aload_n rfl dX9_shareOf_127 ?_
          refine r_getI foX9_88 rfl rfl dX9_shareOf_128 ?_
          refine r_iconst (v := (1 : Int32)) (by decide) dX9_shareOf_131 ?_
          refine r_icmp_ne 142 dX9_shareOf_132 (by decide) (fun c_132 => ?_) (fun c_132 => ?_)
          · refine r_iload_n rfl dX9_shareOf_142 ?_
            refine r_aload_n rfl dX9_shareOf_143 ?_
            refine r_getR foX9_7 rfl rfl dX9_shareOf_144 ?_
            refine r_iconst (v := (4 : Int32)) (by decide) dX9_shareOf_147 ?_
            refine r_iload rfl dX9_shareOf_148 ?_
            refine r_imul dX9_shareOf_150 ?_
            rw [ix40]
            refine r_ild rfl rfl (by omega) (by decide) dX9_shareOf_151 ?_
            rw [show h 63 (4 * l) = eW (eM h n) l from rfl]
            refine r_imul dX9_shareOf_152 ?_
            refine r_iload rfl dX9_shareOf_153 ?_
            refine r_idiv hwis dX9_shareOf_155 ?_
            refine r_iadd dX9_shareOf_156 ?_
            refine r_ist7 rfl (by decide) dX9_shareOf_157 ?_
            first | refine r_incN8 rfl (by decide) dX9_shareOf_159 ?_ | refine r_incP8 rfl (by decide) dX9_shareOf_159 ?_
            refine r_goto 102 dX9_shareOf_162 (by decide) ?_
            first
              | exact ih (l + 1) _ none (by omega) (by omega) (by rw [smF, if_neg c_120, Int32.add_zero])
              | exact ih (l + 1) _ none (by omega) (by omega) (by rw [smF, if_pos c_120, shQ_1 (E := eM h n) c_132]; rfl)
              | exact ih (l + 1) _ none (by omega) (by omega) (by rw [smF, if_pos c_120, shQ_2 (E := eM h n) c_132]; rfl)
          · refine r_iload_n rfl dX9_shareOf_135 ?_
            refine r_iload rfl dX9_shareOf_136 ?_
            refine r_idiv hmany dX9_shareOf_138 ?_
            refine r_goto 156 dX9_shareOf_139 (by decide) ?_
            refine r_iadd dX9_shareOf_156 ?_
            refine r_ist7 rfl (by decide) dX9_shareOf_157 ?_
            first | refine r_incN8 rfl (by decide) dX9_shareOf_159 ?_ | refine r_incP8 rfl (by decide) dX9_shareOf_159 ?_
            refine r_goto 102 dX9_shareOf_162 (by decide) ?_
            first
              | exact ih (l + 1) _ none (by omega) (by omega) (by rw [smF, if_neg c_120, Int32.add_zero])
              | exact ih (l + 1) _ none (by omega) (by omega) (by rw [smF, if_pos c_120, shQ_1 (E := eM h n) c_132]; rfl)
              | exact ih (l + 1) _ none (by omega) (by omega) (by rw [smF, if_pos c_120, shQ_2 (E := eM h n) c_132]; rfl)
        · refine r_iconst (v := (0 : Int32)) (by decide) dX9_shareOf_123 ?_
          refine r_goto 156 dX9_shareOf_124 (by decide) ?_
          refine r_iadd dX9_shareOf_156 ?_
          refine r_ist7 rfl (by decide) dX9_shareOf_157 ?_
          first | refine r_incN8 rfl (by decide) dX9_shareOf_159 ?_ | refine r_incP8 rfl (by decide) dX9_shareOf_159 ?_
          refine r_goto 102 dX9_shareOf_162 (by decide) ?_
          first
            | exact ih (l + 1) _ none (by omega) (by omega) (by rw [smF, if_neg c_120, Int32.add_zero])
            | exact ih (l + 1) _ none (by omega) (by omega) (by rw [smF, if_pos c_120, shQ_1 (E := eM h n) c_132]; rfl)
            | exact ih (l + 1) _ none (by omega) (by omega) (by rw [smF, if_pos c_120, shQ_2 (E := eM h n) c_132]; rfl)
  have loop1 : ¬ h 62 3 = 0 → ∀ (z l : Nat) (x3 x4 x5 x6 : Int32) (y : Option Value), l ≤ n → n < l + z → x3 = smF (h 72) (h A) (h A k) l → x4 = nI (ctF (h A) (h A k) l) → x5 = smF (eW (eM h n)) (h A) (h A k) l → x6 = nI (ctF (h A) (h A k) (min l k)) → R g mX9_shareOf 28 [some (.ref (ad g 62)), some (.ref (ad g A)), some (.int (nI k)), some (.int x3), some (.int x4), some (.int x5), some (.int x6), some (.int (nI l)), y] [] h (Ri fun v h' => h' = h ∧ v = if h 62 3 = 0 then h 72 k else shO (eM h n) (h 72) (h A) (h A k) k) := by
    intro hsh z
    have loop2 := loop2 hsh
    induction z with
    | zero => intro l x3 x4 x5 x6 y a b; omega
    | succ z ih =>
      intro l x3 x4 x5 x6 y a b e3 e4 e5 e6
      subst e3; subst e4; subst e5; subst e6
      refine r_iload rfl dX9_shareOf_28 ?_
      refine r_aload_n rfl dX9_shareOf_30 ?_
      refine r_getI foX9_55 rfl rfl dX9_shareOf_31 ?_
      rw [h0]
      refine r_icmp_ge 96 dX9_shareOf_34 (by decide) (fun c_34 => ?_) (fun c_34 => ?_)
      · have e : l = n := by have := ge_y (by omega) (by omega) c_34; omega
        subst e
        refine r_iconst (v := (0 : Int32)) (by decide) dX9_shareOf_96 ?_
        refine r_ist7 rfl (by decide) dX9_shareOf_97 ?_
        refine r_iconst (v := nI 0) (by decide) dX9_shareOf_99 ?_
        refine r_ist8 rfl (by decide) dX9_shareOf_100 ?_
        rw [show min l k = k by omega]
        exact loop2 (l + 1) 0 _ none (by omega) (by omega) rfl
      · have hlk : l < n := ge_n (by omega) c_34
        refine r_aload_n rfl dX9_shareOf_37 ?_
        refine r_iload rfl dX9_shareOf_38 ?_
        refine r_ild hA rfl (by omega) (by decide) dX9_shareOf_40 ?_
        refine r_aload_n rfl dX9_shareOf_41 ?_
        refine r_iload_n rfl dX9_shareOf_42 ?_
        refine r_ild hA rfl (by omega) (by decide) dX9_shareOf_43 ?_
        refine r_icmp_ne 90 dX9_shareOf_44 (by decide) (fun c_44 => ?_) (fun c_44 => ?_)
        · first | refine r_incN7 rfl (by decide) dX9_shareOf_90 ?_ | refine r_incP7 rfl (by decide) dX9_shareOf_90 ?_
          refine r_goto 28 dX9_shareOf_93 (by decide) ?_
          first
            | exact ih (l + 1) _ _ _ _ _ (by omega) (by omega) (by rw [smF, if_neg c_44]) (by rw [ctF, if_neg c_44]) (by rw [smF, if_neg c_44]) (ah_no c_44)
            | exact ih (l + 1) _ _ _ _ _ (by omega) (by omega) (by rw [smF, if_pos c_44]) (by rw [ctF, if_pos c_44]) (by rw [smF, if_pos c_44]) (ah_hi (ge_y (by omega) (by omega) c_79))
            | exact ih (l + 1) _ _ _ _ _ (by omega) (by omega) (by rw [smF, if_pos c_44]) (by rw [ctF, if_pos c_44]) (by rw [smF, if_pos c_44]) (ah_lo c_44 (ge_n (by omega) c_79))
        · refine r_iload_n rfl dX9_shareOf_47 ?_
          refine r_aload_n rfl dX9_shareOf_48 ?_
          refine r_getR foX9_37 rfl rfl dX9_shareOf_49 ?_
          refine r_iload rfl dX9_shareOf_52 ?_
          refine r_ild rfl rfl (by omega) (by decide) dX9_shareOf_54 ?_
          refine r_iadd dX9_shareOf_55 ?_
          refine r_ist3 rfl (by decide) dX9_shareOf_56 ?_
          refine r_iload rfl dX9_shareOf_57 ?_
          refine r_aload_n rfl dX9_shareOf_59 ?_
          refine r_getR foX9_7 rfl rfl dX9_shareOf_60 ?_
          refine r_iconst (v := (4 : Int32)) (by decide) dX9_shareOf_63 ?_
          refine r_iload rfl dX9_shareOf_64 ?_
          refine r_imul dX9_shareOf_66 ?_
          rw [ix40]
          refine r_ild rfl rfl (by omega) (by decide) dX9_shareOf_67 ?_
          rw [show h 63 (4 * l) = eW (eM h n) l from rfl]
          refine r_iadd dX9_shareOf_68 ?_
          refine r_ist5 rfl (by decide) dX9_shareOf_69 ?_
          first | refine r_incN4 rfl (by decide) dX9_shareOf_71 ?_ | refine r_incP4 rfl (by decide) dX9_shareOf_71 ?_
          refine r_iload rfl dX9_shareOf_74 ?_
          refine r_iload rfl dX9_shareOf_76 ?_
          refine r_iload_n rfl dX9_shareOf_78 ?_
          refine r_icmp_ge 86 dX9_shareOf_79 (by decide) (fun c_79 => ?_) (fun c_79 => ?_)
          · refine r_iconst (v := (0 : Int32)) (by decide) dX9_shareOf_86 ?_
            refine r_iadd dX9_shareOf_87 ?_
            refine r_ist6 rfl (by decide) dX9_shareOf_88 ?_
            first | refine r_incN7 rfl (by decide) dX9_shareOf_90 ?_ | refine r_incP7 rfl (by decide) dX9_shareOf_90 ?_
            refine r_goto 28 dX9_shareOf_93 (by decide) ?_
            first
              | exact ih (l + 1) _ _ _ _ _ (by omega) (by omega) (by rw [smF, if_neg c_44]) (by rw [ctF, if_neg c_44]) (by rw [smF, if_neg c_44]) (ah_no c_44)
              | exact ih (l + 1) _ _ _ _ _ (by omega) (by omega) (by rw [smF, if_pos c_44]) (by rw [ctF, if_pos c_44]) (by rw [smF, if_pos c_44]) (ah_hi (ge_y (by omega) (by omega) c_79))
              | exact ih (l + 1) _ _ _ _ _ (by omega) (by omega) (by rw [smF, if_pos c_44]) (by rw [ctF, if_pos c_44]) (by rw [smF, if_pos c_44]) (ah_lo c_44 (ge_n (by omega) c_79))
          · refine r_iconst (v := (1 : Int32)) (by decide) dX9_shareOf_82 ?_
            refine r_goto 87 dX9_shareOf_83 (by decide) ?_
            refine r_iadd dX9_shareOf_87 ?_
            refine r_ist6 rfl (by decide) dX9_shareOf_88 ?_
            first | refine r_incN7 rfl (by decide) dX9_shareOf_90 ?_ | refine r_incP7 rfl (by decide) dX9_shareOf_90 ?_
            refine r_goto 28 dX9_shareOf_93 (by decide) ?_
            first
              | exact ih (l + 1) _ _ _ _ _ (by omega) (by omega) (by rw [smF, if_neg c_44]) (by rw [ctF, if_neg c_44]) (by rw [smF, if_neg c_44]) (ah_no c_44)
              | exact ih (l + 1) _ _ _ _ _ (by omega) (by omega) (by rw [smF, if_pos c_44]) (by rw [ctF, if_pos c_44]) (by rw [smF, if_pos c_44]) (ah_hi (ge_y (by omega) (by omega) c_79))
              | exact ih (l + 1) _ _ _ _ _ (by omega) (by omega) (by rw [smF, if_pos c_44]) (by rw [ctF, if_pos c_44]) (by rw [smF, if_pos c_44]) (ah_lo c_44 (ge_n (by omega) c_79))
  refine r_aload_n rfl dX9_shareOf_0 ?_
  refine r_getI foX9_88 rfl rfl dX9_shareOf_1 ?_
  refine r_if_ne 14 dX9_shareOf_4 (by decide) (fun c_4 => ?_) (fun c_4 => ?_)
  · refine r_iconst (v := (0 : Int32)) (by decide) dX9_shareOf_14 ?_
    refine r_ist3 rfl (by decide) dX9_shareOf_15 ?_
    refine r_iconst (v := nI 0) (by decide) dX9_shareOf_16 ?_
    refine r_ist4 rfl (by decide) dX9_shareOf_17 ?_
    refine r_iconst (v := (0 : Int32)) (by decide) dX9_shareOf_19 ?_
    refine r_ist5 rfl (by decide) dX9_shareOf_20 ?_
    refine r_iconst (v := nI 0) (by decide) dX9_shareOf_22 ?_
    refine r_ist6 rfl (by decide) dX9_shareOf_23 ?_
    refine r_iconst (v := nI 0) (by decide) dX9_shareOf_25 ?_
    refine r_ist7 rfl (by decide) dX9_shareOf_26 ?_
    exact loop1 c_4 (n + 1) 0 _ _ _ _ _ (by omega) (by omega) rfl rfl rfl (by rw [show min 0 k = 0 by omega]; rfl)
  · refine r_aload_n rfl dX9_shareOf_7 ?_
    refine r_getR foX9_37 rfl rfl dX9_shareOf_8 ?_
    refine r_iload_n rfl dX9_shareOf_11 ?_
    refine r_ild rfl rfl (by omega) (by decide) dX9_shareOf_12 ?_
    refine ret_i dX9_shareOf_13 rfl ?_
    exact ⟨rfl, by rw [if_pos c_4]⟩

