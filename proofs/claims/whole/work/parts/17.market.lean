/-! the lands: how many, WISH, COST, GAIN, TOLL, the rules of walls and of shares -/
abbrev Ec : Type := Nat × (Nat → Int32) × (Nat → Int32) × (Nat → Int32) × (Nat → Int32) × Int32 × Int32
def eN (E : Ec) : Nat := E.1
def eW (E : Ec) : Nat → Int32 := E.2.1
def eC (E : Ec) : Nat → Int32 := E.2.2.1
def eG (E : Ec) : Nat → Int32 := E.2.2.2.1
def eT (E : Ec) : Nat → Int32 := E.2.2.2.2.1
def eWa (E : Ec) : Int32 := E.2.2.2.2.2.1
def eSh (E : Ec) : Int32 := E.2.2.2.2.2.2
def eH (h : Hp) (L n : Nat) : Ec := (n, h (L + 1), h (L + 2), h (L + 3), h (L + 4), h L 1, h L 2)
def LandAt (L : Nat) : Prop := shl[L]? = some (.inr (3, [none, none, none, none, some (L + 1), some (L + 2), some (L + 3), some (L + 4)])) ∧ shl[L + 1]? = some (.inl 6) ∧ shl[L + 2]? = some (.inl 6) ∧ shl[L + 3]? = some (.inl 6) ∧ shl[L + 4]? = some (.inl 6)
def MarkAt (M : Nat) : Prop := shl[M]? = some (.inr (4, [some (M + 1), some (M + 2), some (M + 3), some (M + 4), some (M + 5), some (M + 6)])) ∧ shl[M + 1]? = some (.inl 6) ∧ shl[M + 2]? = some (.inl 6) ∧ shl[M + 3]? = some (.inl 6) ∧ shl[M + 4]? = some (.inl 6) ∧ shl[M + 5]? = some (.inl 6) ∧ shl[M + 6]? = some (.inl 6)
/-! over the lands that are with k: the least, the greatest, the sum, how many -/
def mnF (T r : Nat → Int32) (k : Nat) (a : Int32) : Nat → Int32
  | 0 => a
  | l + 1 => if r l = r k then (if mnF T r k a l ≤ T l then mnF T r k a l else T l) else mnF T r k a l
def mxF (T r : Nat → Int32) (k : Nat) (a : Int32) : Nat → Int32
  | 0 => a
  | l + 1 => if r l = r k then (if T l ≤ mxF T r k a l then mxF T r k a l else T l) else mxF T r k a l
def smF (T r : Nat → Int32) (u : Int32) : Nat → Int32
  | 0 => 0
  | l + 1 => if r l = u then smF T r u l + T l else smF T r u l
def ctF (r : Nat → Int32) (u : Int32) : Nat → Nat
  | 0 => 0
  | l + 1 => if r l = u then ctF r u l + 1 else ctF r u l
theorem ctF_le (r : Nat → Int32) (u : Int32) : ∀ l, ctF r u l ≤ l := by
  intro l
  induction l with
  | zero => exact Nat.le_refl _
  | succ l ih => rw [ctF]; split <;> omega
theorem ctF_pos {r : Nat → Int32} {u : Int32} {k : Nat} (hk : r k = u) : ∀ l, k < l → 0 < ctF r u l := by
  intro l
  induction l with
  | zero => intro h; omega
  | succ l ih =>
    intro h
    rw [ctF]
    by_cases e : l = k
    · subst e; rw [if_pos hk]; omega
    · have := ih (by omega)
      split <;> omega
def wallS (E : Ec) (r : Nat → Int32) (k : Nat) : Int32 := if eWa E = 0 then mnF (eT E) r k (eT E k) (eN E) else if eWa E = 1 then mxF (eT E) r k (eT E k) (eN E) else smF (eT E) r (r k) (eN E) / nI (ctF r (r k) (eN E))
theorem wallS_at (h : Hp) (L n : Nat) (r : Nat → Int32) (k : Nat) : wallS (eH h L n) r k = if h L 1 = 0 then mnF (h (L + 4)) r k (h (L + 4) k) n else if h L 1 = 1 then mxF (h (L + 4)) r k (h (L + 4) k) n else smF (h (L + 4)) r (r k) n / nI (ctF r (r k) n) := rfl
/-! where a land buys, its price, how many -/
def askS (E : Ec) (r : Nat → Int32) (k : Nat) (wa : Int32) (l : Nat) : Int32 := if r l = r k then eC E l + eG E l else eC E l + eG E l + wa
def byF (f : Nat → Int32) (k : Nat) : Nat → (Nat × Int32)
  | 0 => (k, 1000)
  | l + 1 => if (byF f k l).2 ≤ f l then byF f k l else (l, f l)
theorem byF_lt {f : Nat → Int32} {k n : Nat} (hk : k < n) : ∀ l, l ≤ n → (byF f k l).1 < n := by
  intro l
  induction l with
  | zero => intro _; exact hk
  | succ l ih => intro hl; rw [byF]; split
                 · exact ih (by omega)
                 · show l < n; omega
def selS (E : Ec) (r : Nat → Int32) (k : Nat) (wa : Int32) : Nat := (byF (askS E r k wa) k (eN E)).1
def priS (E : Ec) (r : Nat → Int32) (k : Nat) (wa : Int32) : Int32 := (byF (askS E r k wa) k (eN E)).2
def bouS (E : Ec) (r : Nat → Int32) (k : Nat) (wa : Int32) : Int32 := if eW E k ≤ priS E r k wa then 0 else eW E k - priS E r k wa

set_option maxRecDepth 100000 in
set_option maxHeartbeats 4000000 in
theorem c_wallAround {g : GG} {M L P n k : Nat} {h : Hp} (hL : LandAt L) (hP : PartAt P) (hn : n ≤ 6) (h0 : h L 0 = nI n) (hk : k < n) : R g mX4_wallAround 0 [some (.ref (ad g M)), some (.ref (ad g L)), some (.ref (ad g P)), some (.int (nI k)), none, none, none, none, none, none] [] h (Ri fun v h' => h' = h ∧ v = wallS (eH h L n) (h (P + 1)) k) := by
  have loop : ∀ (m l : Nat) (x4 x5 x6 x7 : Int32) (z : Option Value), l ≤ n → n < l + m → x4 = mnF (h (L + 4)) (h (P + 1)) k (h (L + 4) k) l → x5 = mxF (h (L + 4)) (h (P + 1)) k (h (L + 4) k) l → x6 = smF (h (L + 4)) (h (P + 1)) (h (P + 1) k) l → x7 = nI (ctF (h (P + 1)) (h (P + 1) k) l) → R g mX4_wallAround 25 [some (.ref (ad g M)), some (.ref (ad g L)), some (.ref (ad g P)), some (.int (nI k)), some (.int x4), some (.int x5), some (.int x6), some (.int x7), some (.int (nI l)), z] [] h (Ri fun v h' => h' = h ∧ v = wallS (eH h L n) (h (P + 1)) k) := by
    intro m
    induction m with
    | zero => intro l x4 x5 x6 x7 z a b; omega
    | succ m ih =>
      intro l x4 x5 x6 x7 z a b e4 e5 e6 e7
      subst e4; subst e5; subst e6; subst e7
      refine r_iload rfl dX4_wallAround_25 ?_
      refine r_aload_n rfl dX4_wallAround_27 ?_
      refine r_getI foX4_30 hL.1 rfl dX4_wallAround_28 ?_
      refine r_icmp_ge 107 dX4_wallAround_31 (by decide) (fun c_31 => ?_) (fun c_31 => ?_)
      · refine r_aload_n rfl dX4_wallAround_107 ?_
        refine r_getI foX4_64 hL.1 rfl dX4_wallAround_108 ?_
        refine r_if_ne 117 dX4_wallAround_111 (by decide) (fun c_111 => ?_) (fun c_111 => ?_)
        · refine r_aload_n rfl dX4_wallAround_117 ?_
          refine r_getI foX4_64 hL.1 rfl dX4_wallAround_118 ?_
          refine r_iconst (v := (1 : Int32)) (by decide) dX4_wallAround_121 ?_
          refine r_icmp_ne 128 dX4_wallAround_122 (by decide) (fun c_122 => ?_) (fun c_122 => ?_)
          · refine r_iload rfl dX4_wallAround_128 ?_
            refine r_if_le 141 dX4_wallAround_130 (by decide) (fun c_130 => ?_) (fun c_130 => ?_)
            · refine r_iconst (v := (0 : Int32)) (by decide) dX4_wallAround_141 ?_
              refine ret_i dX4_wallAround_142 rfl ?_
              rw [h0] at c_31
              have e : l = n := by have := ge_y (by omega) (by omega) c_31; omega
              subst e
              refine ⟨rfl, ?_⟩
              rw [wallS_at, if_neg c_111, if_neg c_122]
              first
                | done
                | rfl
                | exact absurd c_130 (nI_nle (ctF_pos rfl l hk) (by have := ctF_le (h (P + 1)) (h (P + 1) k) l; omega))
            · refine r_iload rfl dX4_wallAround_133 ?_
              refine r_iload rfl dX4_wallAround_135 ?_
              refine r_idiv (by intro q; rw [q] at c_130; exact c_130 (by decide)) dX4_wallAround_137 ?_
              refine r_goto 142 dX4_wallAround_138 (by decide) ?_
              refine ret_i dX4_wallAround_142 rfl ?_
              rw [h0] at c_31
              have e : l = n := by have := ge_y (by omega) (by omega) c_31; omega
              subst e
              refine ⟨rfl, ?_⟩
              rw [wallS_at, if_neg c_111, if_neg c_122]
              first
                | done
                | rfl
                | exact absurd c_130 (nI_nle (ctF_pos rfl l hk) (by have := ctF_le (h (P + 1)) (h (P + 1) k) l; omega))
          · refine r_iload rfl dX4_wallAround_125 ?_
            refine ret_i dX4_wallAround_127 rfl ?_
            rw [h0] at c_31
            have e : l = n := by have := ge_y (by omega) (by omega) c_31; omega
            subst e
            refine ⟨rfl, ?_⟩
            rw [wallS_at, if_neg c_111, if_pos c_122]
        · refine r_iload rfl dX4_wallAround_114 ?_
          refine ret_i dX4_wallAround_116 rfl ?_
          rw [h0] at c_31
          have e : l = n := by have := ge_y (by omega) (by omega) c_31; omega
          subst e
          refine ⟨rfl, ?_⟩
          rw [wallS_at, if_pos c_111]
      · rw [h0] at c_31
        have hlk : l < n := ge_n (by omega) c_31
        refine r_aload_n rfl dX4_wallAround_34 ?_
        refine r_getR foX4_44 hP.1 rfl dX4_wallAround_35 ?_
        refine r_iload rfl dX4_wallAround_38 ?_
        refine r_ild hP.2.1 rfl (by omega) (by decide) dX4_wallAround_40 ?_
        refine r_aload_n rfl dX4_wallAround_41 ?_
        refine r_getR foX4_44 hP.1 rfl dX4_wallAround_42 ?_
        refine r_iload_n rfl dX4_wallAround_45 ?_
        refine r_ild hP.2.1 rfl (by omega) (by decide) dX4_wallAround_46 ?_
        refine r_icmp_ne 101 dX4_wallAround_47 (by decide) (fun c_47 => ?_) (fun c_47 => ?_)
        · first | refine r_incN8 rfl (by decide) dX4_wallAround_101 ?_ | refine r_incP8 rfl (by decide) dX4_wallAround_101 ?_
          refine r_goto 25 dX4_wallAround_104 (by decide) ?_
          refine ih (l + 1) _ _ _ _ _ (by omega) (by omega) ?_ ?_ ?_ ?_
          all_goals first
            | (simp [mnF, mxF, smF, ctF, c_47, c_63, c_79]; done)
            | (simp [mnF, mxF, smF, ctF, c_47]; done)
        · refine r_aload_n rfl dX4_wallAround_50 ?_
          refine r_getR foX4_61 hL.1 rfl dX4_wallAround_51 ?_
          refine r_iload rfl dX4_wallAround_54 ?_
          refine r_ild hL.2.2.2.2 rfl (by omega) (by decide) dX4_wallAround_56 ?_
          refine r_ist9 rfl (by decide) dX4_wallAround_57 ?_
          refine r_iload rfl dX4_wallAround_59 ?_
          refine r_iload rfl dX4_wallAround_61 ?_
          refine r_icmp_ge 71 dX4_wallAround_63 (by decide) (fun c_63 => ?_) (fun c_63 => ?_)
          · refine r_iload rfl dX4_wallAround_71 ?_
            refine r_ist4 rfl (by decide) dX4_wallAround_73 ?_
            refine r_iload rfl dX4_wallAround_75 ?_
            refine r_iload rfl dX4_wallAround_77 ?_
            refine r_icmp_le 87 dX4_wallAround_79 (by decide) (fun c_79 => ?_) (fun c_79 => ?_)
            · refine r_iload rfl dX4_wallAround_87 ?_
              refine r_ist5 rfl (by decide) dX4_wallAround_89 ?_
              refine r_iload rfl dX4_wallAround_91 ?_
              refine r_iload rfl dX4_wallAround_93 ?_
              refine r_iadd dX4_wallAround_95 ?_
              refine r_ist6 rfl (by decide) dX4_wallAround_96 ?_
              first | refine r_incN7 rfl (by decide) dX4_wallAround_98 ?_ | refine r_incP7 rfl (by decide) dX4_wallAround_98 ?_
              first | refine r_incN8 rfl (by decide) dX4_wallAround_101 ?_ | refine r_incP8 rfl (by decide) dX4_wallAround_101 ?_
              refine r_goto 25 dX4_wallAround_104 (by decide) ?_
              refine ih (l + 1) _ _ _ _ _ (by omega) (by omega) ?_ ?_ ?_ ?_
              all_goals first
                | (simp [mnF, mxF, smF, ctF, c_47, c_63, c_79]; done)
                | (simp [mnF, mxF, smF, ctF, c_47]; done)
            · refine r_iload rfl dX4_wallAround_82 ?_
              refine r_goto 89 dX4_wallAround_84 (by decide) ?_
              refine r_ist5 rfl (by decide) dX4_wallAround_89 ?_
              refine r_iload rfl dX4_wallAround_91 ?_
              refine r_iload rfl dX4_wallAround_93 ?_
              refine r_iadd dX4_wallAround_95 ?_
              refine r_ist6 rfl (by decide) dX4_wallAround_96 ?_
              first | refine r_incN7 rfl (by decide) dX4_wallAround_98 ?_ | refine r_incP7 rfl (by decide) dX4_wallAround_98 ?_
              first | refine r_incN8 rfl (by decide) dX4_wallAround_101 ?_ | refine r_incP8 rfl (by decide) dX4_wallAround_101 ?_
              refine r_goto 25 dX4_wallAround_104 (by decide) ?_
              refine ih (l + 1) _ _ _ _ _ (by omega) (by omega) ?_ ?_ ?_ ?_
              all_goals first
                | (simp [mnF, mxF, smF, ctF, c_47, c_63, c_79]; done)
                | (simp [mnF, mxF, smF, ctF, c_47]; done)
          · refine r_iload rfl dX4_wallAround_66 ?_
            refine r_goto 73 dX4_wallAround_68 (by decide) ?_
            refine r_ist4 rfl (by decide) dX4_wallAround_73 ?_
            refine r_iload rfl dX4_wallAround_75 ?_
            refine r_iload rfl dX4_wallAround_77 ?_
            refine r_icmp_le 87 dX4_wallAround_79 (by decide) (fun c_79 => ?_) (fun c_79 => ?_)
            · refine r_iload rfl dX4_wallAround_87 ?_
              refine r_ist5 rfl (by decide) dX4_wallAround_89 ?_
              refine r_iload rfl dX4_wallAround_91 ?_
              refine r_iload rfl dX4_wallAround_93 ?_
              refine r_iadd dX4_wallAround_95 ?_
              refine r_ist6 rfl (by decide) dX4_wallAround_96 ?_
              first | refine r_incN7 rfl (by decide) dX4_wallAround_98 ?_ | refine r_incP7 rfl (by decide) dX4_wallAround_98 ?_
              first | refine r_incN8 rfl (by decide) dX4_wallAround_101 ?_ | refine r_incP8 rfl (by decide) dX4_wallAround_101 ?_
              refine r_goto 25 dX4_wallAround_104 (by decide) ?_
              refine ih (l + 1) _ _ _ _ _ (by omega) (by omega) ?_ ?_ ?_ ?_
              all_goals first
                | (simp [mnF, mxF, smF, ctF, c_47, c_63, c_79]; done)
                | (simp [mnF, mxF, smF, ctF, c_47]; done)
            · refine r_iload rfl dX4_wallAround_82 ?_
              refine r_goto 89 dX4_wallAround_84 (by decide) ?_
              refine r_ist5 rfl (by decide) dX4_wallAround_89 ?_
              refine r_iload rfl dX4_wallAround_91 ?_
              refine r_iload rfl dX4_wallAround_93 ?_
              refine r_iadd dX4_wallAround_95 ?_
              refine r_ist6 rfl (by decide) dX4_wallAround_96 ?_
              first | refine r_incN7 rfl (by decide) dX4_wallAround_98 ?_ | refine r_incP7 rfl (by decide) dX4_wallAround_98 ?_
              first | refine r_incN8 rfl (by decide) dX4_wallAround_101 ?_ | refine r_incP8 rfl (by decide) dX4_wallAround_101 ?_
              refine r_goto 25 dX4_wallAround_104 (by decide) ?_
              refine ih (l + 1) _ _ _ _ _ (by omega) (by omega) ?_ ?_ ?_ ?_
              all_goals first
                | (simp [mnF, mxF, smF, ctF, c_47, c_63, c_79]; done)
                | (simp [mnF, mxF, smF, ctF, c_47]; done)
  refine r_aload_n rfl dX4_wallAround_0 ?_
  refine r_getR foX4_61 hL.1 rfl dX4_wallAround_1 ?_
  refine r_iload_n rfl dX4_wallAround_4 ?_
  refine r_ild hL.2.2.2.2 rfl (by omega) (by decide) dX4_wallAround_5 ?_
  refine r_ist4 rfl (by decide) dX4_wallAround_6 ?_
  refine r_aload_n rfl dX4_wallAround_8 ?_
  refine r_getR foX4_61 hL.1 rfl dX4_wallAround_9 ?_
  refine r_iload_n rfl dX4_wallAround_12 ?_
  refine r_ild hL.2.2.2.2 rfl (by omega) (by decide) dX4_wallAround_13 ?_
  refine r_ist5 rfl (by decide) dX4_wallAround_14 ?_
  refine r_iconst (v := (0 : Int32)) (by decide) dX4_wallAround_16 ?_
  refine r_ist6 rfl (by decide) dX4_wallAround_17 ?_
  refine r_iconst (v := nI 0) (by decide) dX4_wallAround_19 ?_
  refine r_ist7 rfl (by decide) dX4_wallAround_20 ?_
  refine r_iconst (v := nI 0) (by decide) dX4_wallAround_22 ?_
  refine r_ist8 rfl (by decide) dX4_wallAround_23 ?_
  exact loop (n + 1) 0 _ _ _ _ _ (by omega) (by omega) rfl rfl rfl rfl

theorem bouS_at (h : Hp) (L n : Nat) (r : Nat → Int32) (k : Nat) (wa : Int32) : bouS (eH h L n) r k wa = if h (L + 1) k ≤ (byF (askS (eH h L n) r k wa) k n).2 then 0 else h (L + 1) k - (byF (askS (eH h L n) r k wa) k n).2 := rfl
theorem askS_at (h : Hp) (L n P k : Nat) (wa : Int32) (l : Nat) : askS (eH h L n) (h (P + 1)) k wa l = if h (P + 1) l = h (P + 1) k then h (L + 2) l + h (L + 3) l else h (L + 2) l + h (L + 3) l + wa := rfl

set_option maxRecDepth 100000 in
set_option maxHeartbeats 4000000 in
theorem c_buy {g : GG} {M L P n k : Nat} {h : Hp} (hM : MarkAt M) (hL : LandAt L) (hP : PartAt P) (hML : M + 7 ≤ L ∨ L + 5 ≤ M) (hn : n ≤ 6) (h0 : h L 0 = nI n) (hk : k < n) : R g mX4_buy 0 [some (.ref (ad g M)), some (.ref (ad g L)), some (.ref (ad g P)), some (.int (nI k)), none, none, none, none] [] h (Rv fun h' => h' = hset (hset (hset h (M + 2) k (priS (eH h L n) (h (P + 1)) k (h (M + 1) k))) (M + 3) k (nI (selS (eH h L n) (h (P + 1)) k (h (M + 1) k)))) (M + 4) k (bouS (eH h L n) (h (P + 1)) k (h (M + 1) k))) := by
  have loop : ∀ (m l : Nat) (x4 x5 : Int32) (z : Option Value), l ≤ n → n < l + m → x4 = nI (byF (askS (eH h L n) (h (P + 1)) k (h (M + 1) k)) k l).1 → x5 = (byF (askS (eH h L n) (h (P + 1)) k (h (M + 1) k)) k l).2 → R g mX4_buy 11 [some (.ref (ad g M)), some (.ref (ad g L)), some (.ref (ad g P)), some (.int (nI k)), some (.int x4), some (.int x5), some (.int (nI l)), z] [] h (Rv fun h' => h' = hset (hset (hset h (M + 2) k (priS (eH h L n) (h (P + 1)) k (h (M + 1) k))) (M + 3) k (nI (selS (eH h L n) (h (P + 1)) k (h (M + 1) k)))) (M + 4) k (bouS (eH h L n) (h (P + 1)) k (h (M + 1) k))) := by
    intro m
    induction m with
    | zero => intro l x4 x5 z a b; omega
    | succ m ih =>
      intro l x4 x5 z a b e4 e5
      subst e4; subst e5
      refine r_iload rfl dX4_buy_11 ?_
      refine r_aload_n rfl dX4_buy_13 ?_
      refine r_getI foX4_30 hL.1 rfl dX4_buy_14 ?_
      refine r_icmp_ge 85 dX4_buy_17 (by decide) (fun c_17 => ?_) (fun c_17 => ?_)
      · rw [h0] at c_17
        have e : l = n := by have := ge_y (by omega) (by omega) c_17; omega
        subst e
        refine r_aload_n rfl dX4_buy_85 ?_
        refine r_getR foX4_15 hM.1 rfl dX4_buy_86 ?_
        refine r_iload_n rfl dX4_buy_89 ?_
        refine r_iload rfl dX4_buy_90 ?_
        refine r_ias hM.2.2.1 rfl (by omega) (by decide) dX4_buy_92 ?_
        refine r_aload_n rfl dX4_buy_93 ?_
        refine r_getR foX4_18 hM.1 rfl dX4_buy_94 ?_
        refine r_iload_n rfl dX4_buy_97 ?_
        refine r_iload rfl dX4_buy_98 ?_
        refine r_ias hM.2.2.2.1 rfl (by omega) (by decide) dX4_buy_100 ?_
        refine r_aload_n rfl dX4_buy_101 ?_
        refine r_getR foX4_21 hM.1 rfl dX4_buy_102 ?_
        refine r_iload_n rfl dX4_buy_105 ?_
        refine r_aload_n rfl dX4_buy_106 ?_
        refine r_getR foX4_70 hL.1 rfl dX4_buy_107 ?_
        refine r_iload_n rfl dX4_buy_110 ?_
        refine r_ild hL.2.1 rfl (by omega) (by decide) dX4_buy_111 ?_
        refine r_iload rfl dX4_buy_112 ?_
        refine r_icmp_le 129 dX4_buy_114 (by decide) (fun c_114 => ?_) (fun c_114 => ?_)
        · refine r_iconst (v := (0 : Int32)) (by decide) dX4_buy_129 ?_
          refine r_ias hM.2.2.2.2.1 rfl (by omega) (by decide) dX4_buy_130 ?_
          refine ret_v dX4_buy_131 rfl ?_
          rw [hset_ne (by omega), hset_ne (by omega)] at c_114
          first
            | (rw [bouS_at, if_pos c_114]; rfl)
            | (rw [bouS_at, if_neg c_114, hset_ne (by omega), hset_ne (by omega)]; rfl)
        · refine r_aload_n rfl dX4_buy_117 ?_
          refine r_getR foX4_70 hL.1 rfl dX4_buy_118 ?_
          refine r_iload_n rfl dX4_buy_121 ?_
          refine r_ild hL.2.1 rfl (by omega) (by decide) dX4_buy_122 ?_
          refine r_iload rfl dX4_buy_123 ?_
          refine r_isub dX4_buy_125 ?_
          refine r_goto 130 dX4_buy_126 (by decide) ?_
          refine r_ias hM.2.2.2.2.1 rfl (by omega) (by decide) dX4_buy_130 ?_
          refine ret_v dX4_buy_131 rfl ?_
          rw [hset_ne (by omega), hset_ne (by omega)] at c_114
          first
            | (rw [bouS_at, if_pos c_114]; rfl)
            | (rw [bouS_at, if_neg c_114, hset_ne (by omega), hset_ne (by omega)]; rfl)
      · rw [h0] at c_17
        have hlk : l < n := ge_n (by omega) c_17
        refine r_aload_n rfl dX4_buy_20 ?_
        refine r_getR foX4_67 hL.1 rfl dX4_buy_21 ?_
        refine r_iload rfl dX4_buy_24 ?_
        refine r_ild hL.2.2.1 rfl (by omega) (by decide) dX4_buy_26 ?_
        refine r_aload_n rfl dX4_buy_27 ?_
        refine r_getR foX4_58 hL.1 rfl dX4_buy_28 ?_
        refine r_iload rfl dX4_buy_31 ?_
        refine r_ild hL.2.2.2.1 rfl (by omega) (by decide) dX4_buy_33 ?_
        refine r_iadd dX4_buy_34 ?_
        refine r_ist7 rfl (by decide) dX4_buy_35 ?_
        refine r_aload_n rfl dX4_buy_37 ?_
        refine r_getR foX4_44 hP.1 rfl dX4_buy_38 ?_
        refine r_iload rfl dX4_buy_41 ?_
        refine r_ild hP.2.1 rfl (by omega) (by decide) dX4_buy_43 ?_
        refine r_aload_n rfl dX4_buy_44 ?_
        refine r_getR foX4_44 hP.1 rfl dX4_buy_45 ?_
        refine r_iload_n rfl dX4_buy_48 ?_
        refine r_ild hP.2.1 rfl (by omega) (by decide) dX4_buy_49 ?_
        refine r_icmp_eq 64 dX4_buy_50 (by decide) (fun c_50 => ?_) (fun c_50 => ?_)
        · refine r_iload rfl dX4_buy_64 ?_
          refine r_iload rfl dX4_buy_66 ?_
          refine r_icmp_ge 79 dX4_buy_68 (by decide) (fun c_68 => ?_) (fun c_68 => ?_)
          · first | refine r_incN6 rfl (by decide) dX4_buy_79 ?_ | refine r_incP6 rfl (by decide) dX4_buy_79 ?_
            refine r_goto 11 dX4_buy_82 (by decide) ?_
            have ea := askS_at h L n P k (h (M + 1) k) l
            first
              | rw [if_pos c_50] at ea
              | rw [if_neg c_50] at ea
            rw [← ea] at c_68
            first
              | exact ih (l + 1) _ _ _ (by omega) (by omega) (by rw [byF, if_pos c_68]) (by rw [byF, if_pos c_68])
              | exact ih (l + 1) _ _ _ (by omega) (by omega) (by rw [byF, if_neg c_68]) (by rw [byF, if_neg c_68]; exact ea.symm)
          · refine r_iload rfl dX4_buy_71 ?_
            refine r_ist5 rfl (by decide) dX4_buy_73 ?_
            refine r_iload rfl dX4_buy_75 ?_
            refine r_ist4 rfl (by decide) dX4_buy_77 ?_
            first | refine r_incN6 rfl (by decide) dX4_buy_79 ?_ | refine r_incP6 rfl (by decide) dX4_buy_79 ?_
            refine r_goto 11 dX4_buy_82 (by decide) ?_
            have ea := askS_at h L n P k (h (M + 1) k) l
            first
              | rw [if_pos c_50] at ea
              | rw [if_neg c_50] at ea
            rw [← ea] at c_68
            first
              | exact ih (l + 1) _ _ _ (by omega) (by omega) (by rw [byF, if_pos c_68]) (by rw [byF, if_pos c_68])
              | exact ih (l + 1) _ _ _ (by omega) (by omega) (by rw [byF, if_neg c_68]) (by rw [byF, if_neg c_68]; exact ea.symm)
        · refine r_iload rfl dX4_buy_53 ?_
          refine r_aload_n rfl dX4_buy_55 ?_
          refine r_getR foX4_9 hM.1 rfl dX4_buy_56 ?_
          refine r_iload_n rfl dX4_buy_59 ?_
          refine r_ild hM.2.1 rfl (by omega) (by decide) dX4_buy_60 ?_
          refine r_iadd dX4_buy_61 ?_
          refine r_ist7 rfl (by decide) dX4_buy_62 ?_
          refine r_iload rfl dX4_buy_64 ?_
          refine r_iload rfl dX4_buy_66 ?_
          refine r_icmp_ge 79 dX4_buy_68 (by decide) (fun c_68 => ?_) (fun c_68 => ?_)
          · first | refine r_incN6 rfl (by decide) dX4_buy_79 ?_ | refine r_incP6 rfl (by decide) dX4_buy_79 ?_
            refine r_goto 11 dX4_buy_82 (by decide) ?_
            have ea := askS_at h L n P k (h (M + 1) k) l
            first
              | rw [if_pos c_50] at ea
              | rw [if_neg c_50] at ea
            rw [← ea] at c_68
            first
              | exact ih (l + 1) _ _ _ (by omega) (by omega) (by rw [byF, if_pos c_68]) (by rw [byF, if_pos c_68])
              | exact ih (l + 1) _ _ _ (by omega) (by omega) (by rw [byF, if_neg c_68]) (by rw [byF, if_neg c_68]; exact ea.symm)
          · refine r_iload rfl dX4_buy_71 ?_
            refine r_ist5 rfl (by decide) dX4_buy_73 ?_
            refine r_iload rfl dX4_buy_75 ?_
            refine r_ist4 rfl (by decide) dX4_buy_77 ?_
            first | refine r_incN6 rfl (by decide) dX4_buy_79 ?_ | refine r_incP6 rfl (by decide) dX4_buy_79 ?_
            refine r_goto 11 dX4_buy_82 (by decide) ?_
            have ea := askS_at h L n P k (h (M + 1) k) l
            first
              | rw [if_pos c_50] at ea
              | rw [if_neg c_50] at ea
            rw [← ea] at c_68
            first
              | exact ih (l + 1) _ _ _ (by omega) (by omega) (by rw [byF, if_pos c_68]) (by rw [byF, if_pos c_68])
              | exact ih (l + 1) _ _ _ (by omega) (by omega) (by rw [byF, if_neg c_68]) (by rw [byF, if_neg c_68]; exact ea.symm)
  refine r_iload_n rfl dX4_buy_0 ?_
  refine r_ist4 rfl (by decide) dX4_buy_1 ?_
  refine r_sipush (v := (1000 : Int32)) (by decide) dX4_buy_3 ?_
  refine r_ist5 rfl (by decide) dX4_buy_6 ?_
  refine r_iconst (v := nI 0) (by decide) dX4_buy_8 ?_
  refine r_ist6 rfl (by decide) dX4_buy_9 ?_
  exact loop (n + 1) 0 _ _ _ (by omega) (by omega) rfl rfl

