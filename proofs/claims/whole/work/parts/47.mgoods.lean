def K68 (h h1 : Hp) : Prop := ∀ q, ¬ (68 ≤ q ∧ q ≤ 73) → h1 q = h q
theorem eM_keep {h h1 : Hp} {n : Nat} (a : h1 63 = h 63) (b : h1 62 = h 62) : eM h1 n = eM h n := by simp only [eM, a, b]
theorem K68.eM {h h1 : Hp} {n : Nat} (k : K68 h h1) : eM h1 n = eM h n := eM_keep (k 63 (by omega)) (k 62 (by omega))
def F4 (E : Ec) (r : Nat → Int32) (h1 : Hp) (j : Nat) : Prop := h1 69 j = pS E r j ∧ h1 70 j = bS E r j ∧ h1 71 j = nI (sS E r j) ∧ h1 72 j = tkO E r j
theorem F4.set {E : Ec} {r : Nat → Int32} {h1 : Hp} {j l p : Nat} {x : Int32} (h : F4 E r h1 j) (hj : ¬ j = l) : F4 E r (hset h1 p l x) j := by
  have key : ∀ q, hset h1 p l x q j = h1 q j := fun q => by
    by_cases e : q = p
    · subst e; rw [hset_same, upd_ne hj]
    · rw [hset_ne e]
  obtain ⟨a, b, c, d⟩ := h
  exact ⟨by rw [key]; exact a, by rw [key]; exact b, by rw [key]; exact c, by rw [key]; exact d⟩
theorem K68.set {h h1 : Hp} {p l : Nat} {x : Int32} (k : K68 h h1) (hp : 68 ≤ p ∧ p ≤ 73) : K68 h (hset h1 p l x) := fun q a => by rw [hset_ne (by omega)]; exact k q a
/-- the search of the cheapest, at land l, those below m looked at -/
def JN (f : Nat → Int32) (l m : Nat) (h2 : Hp) : Prop := (m = 0 ∧ h2 71 l = -6) ∨ (0 < m ∧ h2 71 l = nI (byF f l m).1 ∧ h2 69 l = (byF f l m).2)
theorem ask_pos {E : Ec} {r : Nat → Int32} {k l : Nat} {wa : Int32} (e : r l = r k) : askS E r k wa l = eC E l + eG E l + 0 := by rw [askS, if_pos e, Int32.add_zero]
theorem ask_neg {E : Ec} {r : Nat → Int32} {k l : Nat} {wa : Int32} (e : ¬ r l = r k) : askS E r k wa l = eC E l + eG E l + wa := by rw [askS, if_neg e]
theorem JN_skip {f : Nat → Int32} {l m : Nat} {h2 : Hp} {p : Int32} (hp : f m = p) (h1 : ¬ h2 71 l = -6) (h3 : h2 69 l ≤ p) (hJ : JN f l m h2) : JN f l (m + 1) h2 := by
  rcases hJ with ⟨_, z⟩ | ⟨_, q1, q2⟩
  · exact absurd z h1
  · rw [q2, ← hp] at h3
    exact Or.inr ⟨by omega, by rw [byF, if_pos h3]; exact q1, by rw [byF, if_pos h3]; exact q2⟩
theorem JN_set {f : Nat → Int32} {l m : Nat} {h2 : Hp} {p : Int32} (hlt : ¬ (1000 : Int32) ≤ f m) (hb : (byF f l m).1 < 2 ^ 31) (hp : f m = p) (hc : h2 71 l = -6 ∨ ¬ h2 69 l ≤ p) (hJ : JN f l m h2) : JN f l (m + 1) (hset (hset h2 69 l p) 71 l (nI m)) := by
  have key : ¬ (byF f l m).2 ≤ f m := by
    rcases hJ with ⟨q, _⟩ | ⟨_, q1, q2⟩
    · subst q; exact hlt
    · rcases hc with c | c
      · rw [q1] at c
        exact absurd (c ▸ nI_pos' hb : (0 : Int32) ≤ -6) (by decide)
      · rw [q2, ← hp] at c; exact c
  refine Or.inr ⟨by omega, ?_, ?_⟩
  · rw [hset_same, upd_eq, byF, if_neg key]
  · rw [hset_ne (by omega), hset_same, upd_eq, byF, if_neg key, hp]

set_option maxRecDepth 100000 in
set_option maxHeartbeats 400000 in
theorem fg_first {g : GG} {A n : Nat} {h : Hp} {Q : Option Value → Hp → Prop} (hA : shl[A]? = some (.inl 6)) (hAd : A < 68 ∨ 73 < A) (hn : n ≤ 6) (h0 : h 62 1 = nI n) (hE : EOK (eM h n)) (hall : ∀ (h1 : Hp) (z y x : Option Value), K68 h h1 → (∀ j, j < n → F4 (eM h n) (h A) h1 j) → R g mX9_findGoods 194 [some (.ref (ad g 62)), some (.ref (ad g A)), some (.int (nI n)), z, y, x] [] h1 Q) : ∀ (v l : Nat) (h1 : Hp) (z y x : Option Value), l ≤ n → n < l + v → K68 h h1 → (∀ j, j < l → F4 (eM h n) (h A) h1 j) → R g mX9_findGoods 2 [some (.ref (ad g 62)), some (.ref (ad g A)), some (.int (nI l)), z, y, x] [] h1 Q := by
  have inner : ∀ l, l < n → (∀ (h1 : Hp) {z y x : Option Value}, K68 h h1 → (∀ j, j < l + 1 → F4 (eM h n) (h A) h1 j) → R g mX9_findGoods 2 [some (.ref (ad g 62)), some (.ref (ad g A)), some (.int (nI (l + 1))), z, y, x] [] h1 Q) → ∀ (v m : Nat) (h2 : Hp) (x : Option Value), m ≤ n → n < m + v → K68 h h2 → (∀ j, j < l → F4 (eM h n) (h A) h2 j) → JN (askS (eM h n) (h A) l (wallS (eM h n) (h A) l)) l m h2 → R g mX9_findGoods 28 [some (.ref (ad g 62)), some (.ref (ad g A)), some (.int (nI l)), some (.int (wallS (eM h n) (h A) l)), some (.int (nI m)), x] [] h2 Q := by
    intro l hl hout v
    induction v with
    | zero => intro m h2 x a b; omega
    | succ v ih =>
      intro m h2 x a b k2 F2 hJ
      refine r_iload rfl dX9_findGoods_28 ?_
      refine r_aload_n rfl dX9_findGoods_30 ?_
      refine r_getI foX9_55 rfl rfl dX9_findGoods_31 ?_
      rw [k2 62 (by omega), h0]
      refine r_icmp_ge 122 dX9_findGoods_34 (by decide) (fun c_34 => ?_) (fun c_34 => ?_)
      · have em : m = n := by have := ge_y (by omega) (by omega) c_34; omega
        obtain ⟨hj1, hj2⟩ : h2 71 l = nI (sS (eM h n) (h A) l) ∧ h2 69 l = pS (eM h n) (h A) l := by
          rcases hJ with ⟨q, _⟩ | ⟨_, q1, q2⟩
          · omega
          · subst em; exact ⟨q1, q2⟩
        have hsl : sS (eM h n) (h A) l < n := sS_lt (E := eM h n) hl
        refine r_aload_n rfl dX9_findGoods_122 ?_
        refine r_getR foX9_7 rfl rfl dX9_findGoods_123 ?_
        refine r_iconst (v := (4 : Int32)) (by decide) dX9_findGoods_126 ?_
        refine r_iload_n rfl dX9_findGoods_127 ?_
        refine r_imul dX9_findGoods_128 ?_
        rw [ix40]
        refine r_ild rfl rfl (by omega) (by decide) dX9_findGoods_129 ?_
        rw [k2 63 (by omega), show h 63 (4 * l) = eW (eM h n) l from rfl]
        refine r_aload_n rfl dX9_findGoods_130 ?_
        refine r_getR foX9_28 rfl rfl dX9_findGoods_131 ?_
        refine r_iload_n rfl dX9_findGoods_134 ?_
        refine r_ild rfl rfl (by omega) (by decide) dX9_findGoods_135 ?_
        rw [hj2]
        refine r_isub dX9_findGoods_136 ?_
        refine r_ist4 rfl (by decide) dX9_findGoods_137 ?_
        refine r_aload_n rfl dX9_findGoods_139 ?_
        refine r_getR foX9_31 rfl rfl dX9_findGoods_140 ?_
        refine r_iload_n rfl dX9_findGoods_143 ?_
        refine r_iload rfl dX9_findGoods_144 ?_
        refine r_if_le 154 dX9_findGoods_146 (by decide) (fun c_146 => ?_) (fun c_146 => ?_)
        · refine r_iconst (v := (0 : Int32)) (by decide) dX9_findGoods_154 ?_
          refine r_ias rfl rfl (by omega) (by decide) dX9_findGoods_155 ?_
          refine r_aload_n rfl dX9_findGoods_156 ?_
          refine r_getR foX9_37 rfl rfl dX9_findGoods_157 ?_
          refine r_iload_n rfl dX9_findGoods_160 ?_
          refine r_aload_n rfl dX9_findGoods_161 ?_
          refine r_aload_n rfl dX9_findGoods_162 ?_
          refine r_getR foX9_34 rfl rfl dX9_findGoods_163 ?_
          refine r_iload_n rfl dX9_findGoods_166 ?_
          refine r_ild rfl rfl (by omega) (by decide) dX9_findGoods_167 ?_
          rw [hset_ne (by omega), hj1]
          refine r_ild hA rfl (by omega) (by decide) dX9_findGoods_168 ?_
          rw [hset_ne (by omega), k2 A (by omega)]
          refine r_aload_n rfl dX9_findGoods_169 ?_
          refine r_iload_n rfl dX9_findGoods_170 ?_
          refine r_ild hA rfl (by omega) (by decide) dX9_findGoods_171 ?_
          rw [hset_ne (by omega), k2 A (by omega)]
          refine r_icmp_ne 179 dX9_findGoods_172 (by decide) (fun c_172 => ?_) (fun c_172 => ?_)
          · refine r_iload_n rfl dX9_findGoods_179 ?_
            refine r_aload_n rfl dX9_findGoods_180 ?_
            refine r_getR foX9_31 rfl rfl dX9_findGoods_181 ?_
            refine r_iload_n rfl dX9_findGoods_184 ?_
            refine r_ild rfl rfl (by omega) (by decide) dX9_findGoods_185 ?_
            rw [hset_same, upd_eq]
            refine r_imul dX9_findGoods_186 ?_
            refine r_ias rfl rfl (by omega) (by decide) dX9_findGoods_187 ?_
            first | refine r_incN2 rfl (by decide) dX9_findGoods_188 ?_ | refine r_incP2 rfl (by decide) dX9_findGoods_188 ?_
            refine r_goto 2 dX9_findGoods_191 (by decide) ?_
            refine hout _ ((k2.set (by omega)).set (by omega)) (fun j hj => ?_)
            by_cases e : j = l
            · subst e
              have hbs : bS (eM h n) (h A) j = if eW (eM h n) j - pS (eM h n) (h A) j ≤ 0 then 0 else eW (eM h n) j - pS (eM h n) (h A) j := by
                have hi := off_iff (A := 99) (B := 179) (a := eW (eM h n) j) (b := pS (eM h n) (h A) j) (by obtain ⟨a, b, _, d⟩ := (hE.2.1 j hl).1; exact ⟨a, b, by omega, d⟩) (by_bd (fun q hq => ask_bd hE (wall_bd hE hl) hq) _ (by show 0 < n; omega) (Nat.le_refl _)) (by omega) (by omega)
                show (if eW (eM h n) j ≤ pS (eM h n) (h A) j then 0 else eW (eM h n) j - pS (eM h n) (h A) j) = _
                by_cases z : eW (eM h n) j ≤ pS (eM h n) (h A) j
                · rw [if_pos z, if_pos (hi.mpr z)]
                · rw [if_neg z, if_neg (fun y => z (hi.mp y))]
              first
                | rw [if_pos c_146] at hbs
                | rw [if_neg c_146] at hbs
              refine ⟨?_, ?_, ?_, ?_⟩
              · rw [hset_ne (by omega), hset_ne (by omega)]; exact hj2
              · rw [hset_ne (by omega), hset_same, upd_eq]; exact hbs.symm
              · rw [hset_ne (by omega), hset_ne (by omega)]; exact hj1
              · rw [hset_same, upd_eq, tkO]
                first
                  | rw [if_pos c_172]
                  | rw [if_neg c_172, hbs]
            · exact ((F2 j (by omega)).set e).set e
          · refine r_iconst (v := (0 : Int32)) (by decide) dX9_findGoods_175 ?_
            refine r_goto 187 dX9_findGoods_176 (by decide) ?_
            refine r_ias rfl rfl (by omega) (by decide) dX9_findGoods_187 ?_
            first | refine r_incN2 rfl (by decide) dX9_findGoods_188 ?_ | refine r_incP2 rfl (by decide) dX9_findGoods_188 ?_
            refine r_goto 2 dX9_findGoods_191 (by decide) ?_
            refine hout _ ((k2.set (by omega)).set (by omega)) (fun j hj => ?_)
            by_cases e : j = l
            · subst e
              have hbs : bS (eM h n) (h A) j = if eW (eM h n) j - pS (eM h n) (h A) j ≤ 0 then 0 else eW (eM h n) j - pS (eM h n) (h A) j := by
                have hi := off_iff (A := 99) (B := 179) (a := eW (eM h n) j) (b := pS (eM h n) (h A) j) (by obtain ⟨a, b, _, d⟩ := (hE.2.1 j hl).1; exact ⟨a, b, by omega, d⟩) (by_bd (fun q hq => ask_bd hE (wall_bd hE hl) hq) _ (by show 0 < n; omega) (Nat.le_refl _)) (by omega) (by omega)
                show (if eW (eM h n) j ≤ pS (eM h n) (h A) j then 0 else eW (eM h n) j - pS (eM h n) (h A) j) = _
                by_cases z : eW (eM h n) j ≤ pS (eM h n) (h A) j
                · rw [if_pos z, if_pos (hi.mpr z)]
                · rw [if_neg z, if_neg (fun y => z (hi.mp y))]
              first
                | rw [if_pos c_146] at hbs
                | rw [if_neg c_146] at hbs
              refine ⟨?_, ?_, ?_, ?_⟩
              · rw [hset_ne (by omega), hset_ne (by omega)]; exact hj2
              · rw [hset_ne (by omega), hset_same, upd_eq]; exact hbs.symm
              · rw [hset_ne (by omega), hset_ne (by omega)]; exact hj1
              · rw [hset_same, upd_eq, tkO]
                first
                  | rw [if_pos c_172]
                  | rw [if_neg c_172, hbs]
            · exact ((F2 j (by omega)).set e).set e
        · refine r_iload rfl dX9_findGoods_149 ?_
          refine r_goto 155 dX9_findGoods_151 (by decide) ?_
          refine r_ias rfl rfl (by omega) (by decide) dX9_findGoods_155 ?_
          refine r_aload_n rfl dX9_findGoods_156 ?_
          refine r_getR foX9_37 rfl rfl dX9_findGoods_157 ?_
          refine r_iload_n rfl dX9_findGoods_160 ?_
          refine r_aload_n rfl dX9_findGoods_161 ?_
          refine r_aload_n rfl dX9_findGoods_162 ?_
          refine r_getR foX9_34 rfl rfl dX9_findGoods_163 ?_
          refine r_iload_n rfl dX9_findGoods_166 ?_
          refine r_ild rfl rfl (by omega) (by decide) dX9_findGoods_167 ?_
          rw [hset_ne (by omega), hj1]
          refine r_ild hA rfl (by omega) (by decide) dX9_findGoods_168 ?_
          rw [hset_ne (by omega), k2 A (by omega)]
          refine r_aload_n rfl dX9_findGoods_169 ?_
          refine r_iload_n rfl dX9_findGoods_170 ?_
          refine r_ild hA rfl (by omega) (by decide) dX9_findGoods_171 ?_
          rw [hset_ne (by omega), k2 A (by omega)]
          refine r_icmp_ne 179 dX9_findGoods_172 (by decide) (fun c_172 => ?_) (fun c_172 => ?_)
          · refine r_iload_n rfl dX9_findGoods_179 ?_
            refine r_aload_n rfl dX9_findGoods_180 ?_
            refine r_getR foX9_31 rfl rfl dX9_findGoods_181 ?_
            refine r_iload_n rfl dX9_findGoods_184 ?_
            refine r_ild rfl rfl (by omega) (by decide) dX9_findGoods_185 ?_
            rw [hset_same, upd_eq]
            refine r_imul dX9_findGoods_186 ?_
            refine r_ias rfl rfl (by omega) (by decide) dX9_findGoods_187 ?_
            first | refine r_incN2 rfl (by decide) dX9_findGoods_188 ?_ | refine r_incP2 rfl (by decide) dX9_findGoods_188 ?_
            refine r_goto 2 dX9_findGoods_191 (by decide) ?_
            refine hout _ ((k2.set (by omega)).set (by omega)) (fun j hj => ?_)
            by_cases e : j = l
            · subst e
              have hbs : bS (eM h n) (h A) j = if eW (eM h n) j - pS (eM h n) (h A) j ≤ 0 then 0 else eW (eM h n) j - pS (eM h n) (h A) j := by
                have hi := off_iff (A := 99) (B := 179) (a := eW (eM h n) j) (b := pS (eM h n) (h A) j) (by obtain ⟨a, b, _, d⟩ := (hE.2.1 j hl).1; exact ⟨a, b, by omega, d⟩) (by_bd (fun q hq => ask_bd hE (wall_bd hE hl) hq) _ (by show 0 < n; omega) (Nat.le_refl _)) (by omega) (by omega)
                show (if eW (eM h n) j ≤ pS (eM h n) (h A) j then 0 else eW (eM h n) j - pS (eM h n) (h A) j) = _
                by_cases z : eW (eM h n) j ≤ pS (eM h n) (h A) j
                · rw [if_pos z, if_pos (hi.mpr z)]
                · rw [if_neg z, if_neg (fun y => z (hi.mp y))]
              first
                | rw [if_pos c_146] at hbs
                | rw [if_neg c_146] at hbs
              refine ⟨?_, ?_, ?_, ?_⟩
              · rw [hset_ne (by omega), hset_ne (by omega)]; exact hj2
              · rw [hset_ne (by omega), hset_same, upd_eq]; exact hbs.symm
              · rw [hset_ne (by omega), hset_ne (by omega)]; exact hj1
              · rw [hset_same, upd_eq, tkO]
                first
                  | rw [if_pos c_172]
                  | rw [if_neg c_172, hbs]
            · exact ((F2 j (by omega)).set e).set e
          · refine r_iconst (v := (0 : Int32)) (by decide) dX9_findGoods_175 ?_
            refine r_goto 187 dX9_findGoods_176 (by decide) ?_
            refine r_ias rfl rfl (by omega) (by decide) dX9_findGoods_187 ?_
            first | refine r_incN2 rfl (by decide) dX9_findGoods_188 ?_ | refine r_incP2 rfl (by decide) dX9_findGoods_188 ?_
            refine r_goto 2 dX9_findGoods_191 (by decide) ?_
            refine hout _ ((k2.set (by omega)).set (by omega)) (fun j hj => ?_)
            by_cases e : j = l
            · subst e
              have hbs : bS (eM h n) (h A) j = if eW (eM h n) j - pS (eM h n) (h A) j ≤ 0 then 0 else eW (eM h n) j - pS (eM h n) (h A) j := by
                have hi := off_iff (A := 99) (B := 179) (a := eW (eM h n) j) (b := pS (eM h n) (h A) j) (by obtain ⟨a, b, _, d⟩ := (hE.2.1 j hl).1; exact ⟨a, b, by omega, d⟩) (by_bd (fun q hq => ask_bd hE (wall_bd hE hl) hq) _ (by show 0 < n; omega) (Nat.le_refl _)) (by omega) (by omega)
                show (if eW (eM h n) j ≤ pS (eM h n) (h A) j then 0 else eW (eM h n) j - pS (eM h n) (h A) j) = _
                by_cases z : eW (eM h n) j ≤ pS (eM h n) (h A) j
                · rw [if_pos z, if_pos (hi.mpr z)]
                · rw [if_neg z, if_neg (fun y => z (hi.mp y))]
              first
                | rw [if_pos c_146] at hbs
                | rw [if_neg c_146] at hbs
              refine ⟨?_, ?_, ?_, ?_⟩
              · rw [hset_ne (by omega), hset_ne (by omega)]; exact hj2
              · rw [hset_ne (by omega), hset_same, upd_eq]; exact hbs.symm
              · rw [hset_ne (by omega), hset_ne (by omega)]; exact hj1
              · rw [hset_same, upd_eq, tkO]
                first
                  | rw [if_pos c_172]
                  | rw [if_neg c_172, hbs]
            · exact ((F2 j (by omega)).set e).set e
      · have hmk : m < n := ge_n (by omega) c_34
        refine r_aload_n rfl dX9_findGoods_37 ?_
        refine r_getR foX9_7 rfl rfl dX9_findGoods_38 ?_
        refine r_iconst (v := (4 : Int32)) (by decide) dX9_findGoods_41 ?_
        refine r_iload rfl dX9_findGoods_42 ?_
        refine r_imul dX9_findGoods_44 ?_
        refine r_iconst (v := nI 1) (by decide) dX9_findGoods_45 ?_
        refine r_iadd dX9_findGoods_46 ?_
        rw [ix4]
        refine r_ild rfl rfl (by omega) (by decide) dX9_findGoods_47 ?_
        rw [k2 63 (by omega), show h 63 (4 * m + 1) = eC (eM h n) m from rfl]
        refine r_aload_n rfl dX9_findGoods_48 ?_
        refine r_getR foX9_7 rfl rfl dX9_findGoods_49 ?_
        refine r_iconst (v := (4 : Int32)) (by decide) dX9_findGoods_52 ?_
        refine r_iload rfl dX9_findGoods_53 ?_
        refine r_imul dX9_findGoods_55 ?_
        refine r_iconst (v := nI 2) (by decide) dX9_findGoods_56 ?_
        refine r_iadd dX9_findGoods_57 ?_
        rw [ix4]
        refine r_ild rfl rfl (by omega) (by decide) dX9_findGoods_58 ?_
        rw [k2 63 (by omega), show h 63 (4 * m + 2) = eG (eM h n) m from rfl]
        refine r_iadd dX9_findGoods_59 ?_
        refine r_aload_n rfl dX9_findGoods_60 ?_
        refine r_iload rfl dX9_findGoods_61 ?_
        refine r_ild hA rfl (by omega) (by decide) dX9_findGoods_63 ?_
        rw [k2 A (by omega)]
        refine r_aload_n rfl dX9_findGoods_64 ?_
        refine r_iload_n rfl dX9_findGoods_65 ?_
        refine r_ild hA rfl (by omega) (by decide) dX9_findGoods_66 ?_
        rw [k2 A (by omega)]
        refine r_icmp_ne 74 dX9_findGoods_67 (by decide) (fun c_67 => ?_) (fun c_67 => ?_)
        · refine r_iload_n rfl dX9_findGoods_74 ?_
          refine r_iadd dX9_findGoods_75 ?_
          refine r_ist5 rfl (by decide) dX9_findGoods_76 ?_
          refine r_aload_n rfl dX9_findGoods_78 ?_
          refine r_getR foX9_34 rfl rfl dX9_findGoods_79 ?_
          refine r_iload_n rfl dX9_findGoods_82 ?_
          refine r_ild rfl rfl (by omega) (by decide) dX9_findGoods_83 ?_
          refine r_bipush (v := (-6 : Int32)) (by decide) dX9_findGoods_84 ?_
          refine r_icmp_eq 100 dX9_findGoods_86 (by decide) (fun c_86 => ?_) (fun c_86 => ?_)
          · refine r_aload_n rfl dX9_findGoods_100 ?_
            refine r_getR foX9_28 rfl rfl dX9_findGoods_101 ?_
            refine r_iload_n rfl dX9_findGoods_104 ?_
            refine r_iload rfl dX9_findGoods_105 ?_
            refine r_ias rfl rfl (by omega) (by decide) dX9_findGoods_107 ?_
            refine r_aload_n rfl dX9_findGoods_108 ?_
            refine r_getR foX9_34 rfl rfl dX9_findGoods_109 ?_
            refine r_iload_n rfl dX9_findGoods_112 ?_
            refine r_iload rfl dX9_findGoods_113 ?_
            refine r_ias rfl rfl (by omega) (by decide) dX9_findGoods_115 ?_
            first | refine r_incN4 rfl (by decide) dX9_findGoods_116 ?_ | refine r_incP4 rfl (by decide) dX9_findGoods_116 ?_
            refine r_goto 28 dX9_findGoods_119 (by decide) ?_
            have hlt := ask_lt (r := h A) (k := l) hE (wall_bd (r := h A) hE hl) (show m < eN (eM h n) from hmk)
            have hby := byF_lt (f := askS (eM h n) (h A) l (wallS (eM h n) (h A) l)) hl m (by omega)
            first
              | exact ih (m + 1) _ _ (by omega) (by omega) k2 F2 (JN_skip (ask_pos c_67) c_86 c_97 hJ)
              | exact ih (m + 1) _ _ (by omega) (by omega) k2 F2 (JN_skip (ask_neg c_67) c_86 c_97 hJ)
              | exact ih (m + 1) _ _ (by omega) (by omega) ((k2.set (by omega)).set (by omega)) (fun j hj => ((F2 j hj).set (by omega)).set (by omega)) (JN_set hlt (by omega) (ask_pos c_67) (Or.inl c_86) hJ)
              | exact ih (m + 1) _ _ (by omega) (by omega) ((k2.set (by omega)).set (by omega)) (fun j hj => ((F2 j hj).set (by omega)).set (by omega)) (JN_set hlt (by omega) (ask_neg c_67) (Or.inl c_86) hJ)
              | exact ih (m + 1) _ _ (by omega) (by omega) ((k2.set (by omega)).set (by omega)) (fun j hj => ((F2 j hj).set (by omega)).set (by omega)) (JN_set hlt (by omega) (ask_pos c_67) (Or.inr c_97) hJ)
              | exact ih (m + 1) _ _ (by omega) (by omega) ((k2.set (by omega)).set (by omega)) (fun j hj => ((F2 j hj).set (by omega)).set (by omega)) (JN_set hlt (by omega) (ask_neg c_67) (Or.inr c_97) hJ)
          · refine r_iload rfl dX9_findGoods_89 ?_
            refine r_aload_n rfl dX9_findGoods_91 ?_
            refine r_getR foX9_28 rfl rfl dX9_findGoods_92 ?_
            refine r_iload_n rfl dX9_findGoods_95 ?_
            refine r_ild rfl rfl (by omega) (by decide) dX9_findGoods_96 ?_
            refine r_icmp_ge 116 dX9_findGoods_97 (by decide) (fun c_97 => ?_) (fun c_97 => ?_)
            · first | refine r_incN4 rfl (by decide) dX9_findGoods_116 ?_ | refine r_incP4 rfl (by decide) dX9_findGoods_116 ?_
              refine r_goto 28 dX9_findGoods_119 (by decide) ?_
              have hlt := ask_lt (r := h A) (k := l) hE (wall_bd (r := h A) hE hl) (show m < eN (eM h n) from hmk)
              have hby := byF_lt (f := askS (eM h n) (h A) l (wallS (eM h n) (h A) l)) hl m (by omega)
              first
                | exact ih (m + 1) _ _ (by omega) (by omega) k2 F2 (JN_skip (ask_pos c_67) c_86 c_97 hJ)
                | exact ih (m + 1) _ _ (by omega) (by omega) k2 F2 (JN_skip (ask_neg c_67) c_86 c_97 hJ)
                | exact ih (m + 1) _ _ (by omega) (by omega) ((k2.set (by omega)).set (by omega)) (fun j hj => ((F2 j hj).set (by omega)).set (by omega)) (JN_set hlt (by omega) (ask_pos c_67) (Or.inl c_86) hJ)
                | exact ih (m + 1) _ _ (by omega) (by omega) ((k2.set (by omega)).set (by omega)) (fun j hj => ((F2 j hj).set (by omega)).set (by omega)) (JN_set hlt (by omega) (ask_neg c_67) (Or.inl c_86) hJ)
                | exact ih (m + 1) _ _ (by omega) (by omega) ((k2.set (by omega)).set (by omega)) (fun j hj => ((F2 j hj).set (by omega)).set (by omega)) (JN_set hlt (by omega) (ask_pos c_67) (Or.inr c_97) hJ)
                | exact ih (m + 1) _ _ (by omega) (by omega) ((k2.set (by omega)).set (by omega)) (fun j hj => ((F2 j hj).set (by omega)).set (by omega)) (JN_set hlt (by omega) (ask_neg c_67) (Or.inr c_97) hJ)
            · refine r_aload_n rfl dX9_findGoods_100 ?_
              refine r_getR foX9_28 rfl rfl dX9_findGoods_101 ?_
              refine r_iload_n rfl dX9_findGoods_104 ?_
              refine r_iload rfl dX9_findGoods_105 ?_
              refine r_ias rfl rfl (by omega) (by decide) dX9_findGoods_107 ?_
              refine r_aload_n rfl dX9_findGoods_108 ?_
              refine r_getR foX9_34 rfl rfl dX9_findGoods_109 ?_
              refine r_iload_n rfl dX9_findGoods_112 ?_
              refine r_iload rfl dX9_findGoods_113 ?_
              refine r_ias rfl rfl (by omega) (by decide) dX9_findGoods_115 ?_
              first | refine r_incN4 rfl (by decide) dX9_findGoods_116 ?_ | refine r_incP4 rfl (by decide) dX9_findGoods_116 ?_
              refine r_goto 28 dX9_findGoods_119 (by decide) ?_
              have hlt := ask_lt (r := h A) (k := l) hE (wall_bd (r := h A) hE hl) (show m < eN (eM h n) from hmk)
              have hby := byF_lt (f := askS (eM h n) (h A) l (wallS (eM h n) (h A) l)) hl m (by omega)
              first
                | exact ih (m + 1) _ _ (by omega) (by omega) k2 F2 (JN_skip (ask_pos c_67) c_86 c_97 hJ)
                | exact ih (m + 1) _ _ (by omega) (by omega) k2 F2 (JN_skip (ask_neg c_67) c_86 c_97 hJ)
                | exact ih (m + 1) _ _ (by omega) (by omega) ((k2.set (by omega)).set (by omega)) (fun j hj => ((F2 j hj).set (by omega)).set (by omega)) (JN_set hlt (by omega) (ask_pos c_67) (Or.inl c_86) hJ)
                | exact ih (m + 1) _ _ (by omega) (by omega) ((k2.set (by omega)).set (by omega)) (fun j hj => ((F2 j hj).set (by omega)).set (by omega)) (JN_set hlt (by omega) (ask_neg c_67) (Or.inl c_86) hJ)
                | exact ih (m + 1) _ _ (by omega) (by omega) ((k2.set (by omega)).set (by omega)) (fun j hj => ((F2 j hj).set (by omega)).set (by omega)) (JN_set hlt (by omega) (ask_pos c_67) (Or.inr c_97) hJ)
                | exact ih (m + 1) _ _ (by omega) (by omega) ((k2.set (by omega)).set (by omega)) (fun j hj => ((F2 j hj).set (by omega)).set (by omega)) (JN_set hlt (by omega) (ask_neg c_67) (Or.inr c_97) hJ)
        · refine r_iconst (v := (0 : Int32)) (by decide) dX9_findGoods_70 ?_
          refine r_goto 75 dX9_findGoods_71 (by decide) ?_
          refine r_iadd dX9_findGoods_75 ?_
          refine r_ist5 rfl (by decide) dX9_findGoods_76 ?_
          refine r_aload_n rfl dX9_findGoods_78 ?_
          refine r_getR foX9_34 rfl rfl dX9_findGoods_79 ?_
          refine r_iload_n rfl dX9_findGoods_82 ?_
          refine r_ild rfl rfl (by omega) (by decide) dX9_findGoods_83 ?_
          refine r_bipush (v := (-6 : Int32)) (by decide) dX9_findGoods_84 ?_
          refine r_icmp_eq 100 dX9_findGoods_86 (by decide) (fun c_86 => ?_) (fun c_86 => ?_)
          · refine r_aload_n rfl dX9_findGoods_100 ?_
            refine r_getR foX9_28 rfl rfl dX9_findGoods_101 ?_
            refine r_iload_n rfl dX9_findGoods_104 ?_
            refine r_iload rfl dX9_findGoods_105 ?_
            refine r_ias rfl rfl (by omega) (by decide) dX9_findGoods_107 ?_
            refine r_aload_n rfl dX9_findGoods_108 ?_
            refine r_getR foX9_34 rfl rfl dX9_findGoods_109 ?_
            refine r_iload_n rfl dX9_findGoods_112 ?_
            refine r_iload rfl dX9_findGoods_113 ?_
            refine r_ias rfl rfl (by omega) (by decide) dX9_findGoods_115 ?_
            first | refine r_incN4 rfl (by decide) dX9_findGoods_116 ?_ | refine r_incP4 rfl (by decide) dX9_findGoods_116 ?_
            refine r_goto 28 dX9_findGoods_119 (by decide) ?_
            have hlt := ask_lt (r := h A) (k := l) hE (wall_bd (r := h A) hE hl) (show m < eN (eM h n) from hmk)
            have hby := byF_lt (f := askS (eM h n) (h A) l (wallS (eM h n) (h A) l)) hl m (by omega)
            first
              | exact ih (m + 1) _ _ (by omega) (by omega) k2 F2 (JN_skip (ask_pos c_67) c_86 c_97 hJ)
              | exact ih (m + 1) _ _ (by omega) (by omega) k2 F2 (JN_skip (ask_neg c_67) c_86 c_97 hJ)
              | exact ih (m + 1) _ _ (by omega) (by omega) ((k2.set (by omega)).set (by omega)) (fun j hj => ((F2 j hj).set (by omega)).set (by omega)) (JN_set hlt (by omega) (ask_pos c_67) (Or.inl c_86) hJ)
              | exact ih (m + 1) _ _ (by omega) (by omega) ((k2.set (by omega)).set (by omega)) (fun j hj => ((F2 j hj).set (by omega)).set (by omega)) (JN_set hlt (by omega) (ask_neg c_67) (Or.inl c_86) hJ)
              | exact ih (m + 1) _ _ (by omega) (by omega) ((k2.set (by omega)).set (by omega)) (fun j hj => ((F2 j hj).set (by omega)).set (by omega)) (JN_set hlt (by omega) (ask_pos c_67) (Or.inr c_97) hJ)
              | exact ih (m + 1) _ _ (by omega) (by omega) ((k2.set (by omega)).set (by omega)) (fun j hj => ((F2 j hj).set (by omega)).set (by omega)) (JN_set hlt (by omega) (ask_neg c_67) (Or.inr c_97) hJ)
          · refine r_iload rfl dX9_findGoods_89 ?_
            refine r_aload_n rfl dX9_findGoods_91 ?_
            refine r_getR foX9_28 rfl rfl dX9_findGoods_92 ?_
            refine r_iload_n rfl dX9_findGoods_95 ?_
            refine r_ild rfl rfl (by omega) (by decide) dX9_findGoods_96 ?_
            refine r_icmp_ge 116 dX9_findGoods_97 (by decide) (fun c_97 => ?_) (fun c_97 => ?_)
            · first | refine r_incN4 rfl (by decide) dX9_findGoods_116 ?_ | refine r_incP4 rfl (by decide) dX9_findGoods_116 ?_
              refine r_goto 28 dX9_findGoods_119 (by decide) ?_
              have hlt := ask_lt (r := h A) (k := l) hE (wall_bd (r := h A) hE hl) (show m < eN (eM h n) from hmk)
              have hby := byF_lt (f := askS (eM h n) (h A) l (wallS (eM h n) (h A) l)) hl m (by omega)
              first
                | exact ih (m + 1) _ _ (by omega) (by omega) k2 F2 (JN_skip (ask_pos c_67) c_86 c_97 hJ)
                | exact ih (m + 1) _ _ (by omega) (by omega) k2 F2 (JN_skip (ask_neg c_67) c_86 c_97 hJ)
                | exact ih (m + 1) _ _ (by omega) (by omega) ((k2.set (by omega)).set (by omega)) (fun j hj => ((F2 j hj).set (by omega)).set (by omega)) (JN_set hlt (by omega) (ask_pos c_67) (Or.inl c_86) hJ)
                | exact ih (m + 1) _ _ (by omega) (by omega) ((k2.set (by omega)).set (by omega)) (fun j hj => ((F2 j hj).set (by omega)).set (by omega)) (JN_set hlt (by omega) (ask_neg c_67) (Or.inl c_86) hJ)
                | exact ih (m + 1) _ _ (by omega) (by omega) ((k2.set (by omega)).set (by omega)) (fun j hj => ((F2 j hj).set (by omega)).set (by omega)) (JN_set hlt (by omega) (ask_pos c_67) (Or.inr c_97) hJ)
                | exact ih (m + 1) _ _ (by omega) (by omega) ((k2.set (by omega)).set (by omega)) (fun j hj => ((F2 j hj).set (by omega)).set (by omega)) (JN_set hlt (by omega) (ask_neg c_67) (Or.inr c_97) hJ)
            · refine r_aload_n rfl dX9_findGoods_100 ?_
              refine r_getR foX9_28 rfl rfl dX9_findGoods_101 ?_
              refine r_iload_n rfl dX9_findGoods_104 ?_
              refine r_iload rfl dX9_findGoods_105 ?_
              refine r_ias rfl rfl (by omega) (by decide) dX9_findGoods_107 ?_
              refine r_aload_n rfl dX9_findGoods_108 ?_
              refine r_getR foX9_34 rfl rfl dX9_findGoods_109 ?_
              refine r_iload_n rfl dX9_findGoods_112 ?_
              refine r_iload rfl dX9_findGoods_113 ?_
              refine r_ias rfl rfl (by omega) (by decide) dX9_findGoods_115 ?_
              first | refine r_incN4 rfl (by decide) dX9_findGoods_116 ?_ | refine r_incP4 rfl (by decide) dX9_findGoods_116 ?_
              refine r_goto 28 dX9_findGoods_119 (by decide) ?_
              have hlt := ask_lt (r := h A) (k := l) hE (wall_bd (r := h A) hE hl) (show m < eN (eM h n) from hmk)
              have hby := byF_lt (f := askS (eM h n) (h A) l (wallS (eM h n) (h A) l)) hl m (by omega)
              first
                | exact ih (m + 1) _ _ (by omega) (by omega) k2 F2 (JN_skip (ask_pos c_67) c_86 c_97 hJ)
                | exact ih (m + 1) _ _ (by omega) (by omega) k2 F2 (JN_skip (ask_neg c_67) c_86 c_97 hJ)
                | exact ih (m + 1) _ _ (by omega) (by omega) ((k2.set (by omega)).set (by omega)) (fun j hj => ((F2 j hj).set (by omega)).set (by omega)) (JN_set hlt (by omega) (ask_pos c_67) (Or.inl c_86) hJ)
                | exact ih (m + 1) _ _ (by omega) (by omega) ((k2.set (by omega)).set (by omega)) (fun j hj => ((F2 j hj).set (by omega)).set (by omega)) (JN_set hlt (by omega) (ask_neg c_67) (Or.inl c_86) hJ)
                | exact ih (m + 1) _ _ (by omega) (by omega) ((k2.set (by omega)).set (by omega)) (fun j hj => ((F2 j hj).set (by omega)).set (by omega)) (JN_set hlt (by omega) (ask_pos c_67) (Or.inr c_97) hJ)
                | exact ih (m + 1) _ _ (by omega) (by omega) ((k2.set (by omega)).set (by omega)) (fun j hj => ((F2 j hj).set (by omega)).set (by omega)) (JN_set hlt (by omega) (ask_neg c_67) (Or.inr c_97) hJ)
  intro v
  induction v with
  | zero => intro l h1 z y x a b; omega
  | succ v ih =>
    intro l h1 z y x a b k1 F1
    refine r_iload_n rfl dX9_findGoods_2 ?_
    refine r_aload_n rfl dX9_findGoods_3 ?_
    refine r_getI foX9_55 rfl rfl dX9_findGoods_4 ?_
    rw [k1 62 (by omega), h0]
    refine r_icmp_ge 194 dX9_findGoods_7 (by decide) (fun c_7 => ?_) (fun c_7 => ?_)
    · have e : l = n := by have := ge_y (by omega) (by omega) c_7; omega
      subst e
      exact hall _ _ _ _ k1 F1
    · have hlk : l < n := ge_n (by omega) c_7
      refine r_aload_n rfl dX9_findGoods_10 ?_
      refine r_aload_n rfl dX9_findGoods_11 ?_
      refine r_iload_n rfl dX9_findGoods_12 ?_
      refine r_cV2i (T := TX9) (N := 21) moX9_wallOf lkX9_108 rfl rfl (Nat.le_of_ble_eq_true rfl) ⟨by decide, by decide⟩ (Nat.le_of_ble_eq_true rfl) dX9_findGoods_13 rfl (m_wallOf hA hn (by rw [k1 62 (by omega)]; exact h0) hlk (by rw [k1.eM]; exact fun q hq => (hE.2.1 q hq).2.2.2)) (fun v21 h21 q21 => ?_)
      obtain ⟨e21, f21⟩ := q21
      rw [k1.eM, k1 A (by omega)] at f21
      subst f21
      rw [e21]
      refine r_ist3 rfl (by decide) dX9_findGoods_16 ?_
      refine r_aload_n rfl dX9_findGoods_17 ?_
      refine r_getR foX9_34 rfl rfl dX9_findGoods_18 ?_
      refine r_iload_n rfl dX9_findGoods_21 ?_
      refine r_bipush (v := (-6 : Int32)) (by decide) dX9_findGoods_22 ?_
      refine r_ias rfl rfl (by omega) (by decide) dX9_findGoods_24 ?_
      refine r_iconst (v := nI 0) (by decide) dX9_findGoods_25 ?_
      refine r_ist4 rfl (by decide) dX9_findGoods_26 ?_
      exact inner l hlk (fun h3 _ _ _ k3 F3 => ih (l + 1) h3 _ _ _ (by omega) (by omega) k3 F3) (n + 1) 0 _ _ (by omega) (by omega) (k1.set (by omega)) (fun j hj => (F1 j hj).set (by omega)) (Or.inl ⟨rfl, by rw [hset_same, upd_eq]⟩)

