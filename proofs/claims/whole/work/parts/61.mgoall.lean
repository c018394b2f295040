/-- what goAll may write -/
def KT (h hh : Hp) : Prop := (∀ q, ¬ (67 ≤ q ∧ q ≤ 77) → ¬ q = 65 → ¬ q = 62 → hh q = h q) ∧ ∀ i, ¬ i = 19 → ¬ i = 20 → hh 62 i = h 62 i
theorem KT.eM {h hh : Hp} {n : Nat} (k : KT h hh) : eM hh n = eM h n := eM_same (k.1 63 (by omega) (by omega) (by omega)) (k.2 2 (by omega) (by omega)) (k.2 3 (by omega) (by omega))
theorem KT.O {h hh h' : Hp} (k : KT h hh) (o : KO hh h') : KT h h' := ⟨fun q a b d => by rw [o q (by omega) b]; exact k.1 q a b d, fun i a b => by rw [o 62 (by omega) (by omega)]; exact k.2 i a b⟩
theorem KT.s19 {h hh : Hp} {x : Int32} (k : KT h hh) : KT h (hset hh 62 19 x) := ⟨fun q a b d => by rw [hset_ne d]; exact k.1 q a b d, fun i a b => by rw [hset_same, upd_ne a]; exact k.2 i a b⟩
theorem KT.s20 {h hh : Hp} {x : Int32} (k : KT h hh) : KT h (hset hh 62 20 x) := ⟨fun q a b d => by rw [hset_ne d]; exact k.1 q a b d, fun i a b => by rw [hset_same, upd_ne b]; exact k.2 i a b⟩
theorem KT.s77 {h hh : Hp} {x : Int32} {i : Nat} (k : KT h hh) : KT h (hset hh 77 i x) := ⟨fun q a b d => by rw [hset_ne (by omega)]; exact k.1 q a b d, fun i a b => by rw [hset_ne (by omega)]; exact k.2 i a b⟩
theorem st_wh {n x x' : Nat} {c c' : Nat → Nat} (hn : n ≤ 6) (hc : Can n c) (hc' : Can n c') (hx : x < n) (hx' : x' < n) : stN c x n = stN c' x' n ↔ wh n c x = wh n c' x' := by
  have b : ∀ l, l < n → c l < 7 ∧ c' l < 7 := fun l hl => ⟨by have := hc.le hl; omega, by have := hc'.le hl; omega⟩
  rw [wh, wh]
  constructor
  · intro e
    obtain ⟨e1, e2⟩ := stN_inj n b e
    rw [plc_congr e2 n (Nat.le_refl _), e1]
  · intro e
    have e1 : x = x' := by omega
    have e2 := plc_inj hn hc hc' (show plc n c n = plc n c' n by omega)
    rw [e1]
    exact stN_congr n e2
def EndQ (E : Ec) (n : Nat) (cs : Nat → Nat → Nat) (ns : Nat → Nat) (K : Nat) (ring : Int32) : Prop := (∃ b, b < K ∧ wh n (cs b) (ns b) = wh n (cs K) (ns K) ∧ (∀ j, j < b → ¬ wh n (cs j) (ns j) = wh n (cs K) (ns K)) ∧ ring = nI K - nI b) ∨ ((∀ j, j < K → ¬ wh n (cs j) (ns j) = wh n (cs K) (ns K)) ∧ ((fgF E (lab (cs K)) (mx (cs K) n) n (ns K) = none ∧ ring = 0) ∨ (K = 500 ∧ ring = -1)))
def TQ (E : Ec) (n : Nat) (c0 : Nat → Nat) (x0 : Nat) (h' : Hp) : Prop := ∃ K cs ns, K ≤ 500 ∧ cs 0 = c0 ∧ ns 0 = x0 ∧ RunT E n cs ns K ∧ h' 62 19 = nI K ∧ (∀ j, j < n → h' 76 j = nI (cs K j)) ∧ EndQ E n cs ns K (h' 62 20)
def GI (h hh : Hp) (E : Ec) (n K : Nat) (cs : Nat → Nat → Nat) (ns : Nat → Nat) : Prop := KT h hh ∧ hh 62 19 = nI K ∧ (∀ j, j < n → hh 76 j = nI (cs K j)) ∧ (∀ i, i ≤ K → hh 77 i = nI (stN (cs i) (ns i) n)) ∧ RunT E n cs ns K
theorem GI.ring {h hh : Hp} {E : Ec} {n K : Nat} {cs : Nat → Nat → Nat} {ns : Nat → Nat} {x : Int32} (H : GI h hh E n K cs ns) : GI h (hset hh 62 20 x) E n K cs ns := ⟨H.1.s20, by rw [hset_same, upd_ne (by omega)]; exact H.2.1, by rw [hset_ne (by omega)]; exact H.2.2.1, by rw [hset_ne (by omega)]; exact H.2.2.2.1, H.2.2.2.2⟩
theorem hset_id {h : Hp} {o i : Nat} : hset h o i (h o i) = h := by
  funext q
  by_cases e : q = o
  · subst e
    rw [hset_same]
    funext j
    by_cases z : j = i
    · subst z; rw [upd_eq]
    · rw [upd_ne z]
  · rw [hset_ne e]
theorem nI_subk {a b : Nat} (h : b ≤ a) : nI a - nI b = nI (a - b) := by
  obtain ⟨d, rfl⟩ : ∃ d, a = d + b := ⟨a - b, by omega⟩
  rw [← nI_add, Int32.add_sub_cancel, Nat.add_sub_cancel]
theorem bh_1 {n l : Nat} (hl : l < n) : (l + 1) % n = bh n l := by
  have h1 := bh_mod (n := n) (x := l) (k := 0) (by omega)
  rw [Nat.add_zero, Nat.mod_eq_of_lt hl] at h1
  exact h1.symm
/-- one going more -/
theorem GI.more {h hh h1 h2 : Hp} {E : Ec} {n K : Nat} {cs : Nat → Nat → Nat} {ns : Nat → Nat} {c' : Nat → Nat} {x' : Nat} (H : GI h hh E n K cs ns) (ko : KO hh h1) (hnew : ∀ j, j < K → ¬ wh n (cs j) (ns j) = wh n (cs K) (ns K)) (hs : StpT E n (cs K) (ns K) c' x') (hc : Can n c') (hx : x' < n) (h76 : ∀ j, j < n → h1 76 j = nI (c' j)) (e2 : h2 = hset (hset h1 62 19 (nI (K + 1))) 77 (K + 1) (nI (stN c' x' n))) : GI h h2 E n (K + 1) (sx cs (K + 1) c') (sx ns (K + 1) x') := by
  subst e2
  refine ⟨((H.1.O ko).s19).s77, by rw [hset_ne (by omega), hset_same, upd_eq], fun j hj => ?_, fun i hi => ?_, H.2.2.2.2.more hnew hs hc hx⟩
  · rw [hset_ne (by omega), hset_ne (by omega), sx_eq]; exact h76 j hj
  · rw [hset_same]
    by_cases q : i = K + 1
    · subst q; rw [upd_eq, sx_eq, sx_eq]
    · rw [upd_ne q, sx_ne q, sx_ne q, hset_ne (by omega), ko 77 (by omega) (by omega)]; exact H.2.2.2.1 i (by omega)

set_option maxRecDepth 100000 in
set_option maxHeartbeats 400000 in
theorem m_goAll {g : GG} {n m x0 : Nat} {h : Hp} {c : Nat → Nat} {s : Nat → Int32} (I : RF h n c m (eM h n) s) (hx : x0 < n) : R g mX9_goAll 0 [some (.ref (ad g 62)), some (.int (nI x0)), none, none, none] [] h (Rv fun h' => KT h h' ∧ TQ (eM h n) n c x0 h') := by
  have hn := I.1.1
  have exit39 : ∀ (hh : Hp) (z2 z3 z4 : Option Value), 0 ≤ hh 62 20 → (KT h hh ∧ TQ (eM h n) n c x0 hh) → R g mX9_goAll 39 [some (.ref (ad g 62)), some (.int (nI x0)), z2, z3, z4] [] hh (Rv fun h' => KT h h' ∧ TQ (eM h n) n c x0 h') := by
    intro hh z2 z3 z4 hr hq
    refine r_aload_n rfl dX9_goAll_39 ?_
    refine r_getI foX9_161 rfl rfl dX9_goAll_40 ?_
    refine r_if_ge 177 dX9_goAll_43 (by decide) (fun c_43 => ?_) (fun c_43 => ?_)
    · refine ret_v dX9_goAll_177 rfl ?_
      exact hq
    · exact absurd hr c_43
  have found : ∀ (hh : Hp) (z2 : Option Value) (l3 x4 : Int32), 0 ≤ hh 62 20 → (KT h hh ∧ TQ (eM h n) n c x0 hh) → R g mX9_goAll 119 [some (.ref (ad g 62)), some (.int (nI x0)), z2, some (.int l3), some (.int x4)] [] hh (Rv fun h' => KT h h' ∧ TQ (eM h n) n c x0 h') := by
    intro hh z2 l3 x4 hr hq
    refine r_iload rfl dX9_goAll_119 ?_
    refine r_if_lt 174 dX9_goAll_121 (by decide) (fun c_121 => ?_) (fun c_121 => ?_)
    · refine r_goto 39 dX9_goAll_174 (by decide) ?_
      exact exit39 _ _ _ _ hr hq
    · refine r_aload_n rfl dX9_goAll_124 ?_
      refine r_getI foX9_161 rfl rfl dX9_goAll_125 ?_
      refine r_if_ge 174 dX9_goAll_128 (by decide) (fun c_128 => ?_) (fun c_128 => ?_)
      · refine r_goto 39 dX9_goAll_174 (by decide) ?_
        exact exit39 _ _ _ _ hr hq
      · exact absurd hr c_128
  have inner : ∀ (K : Nat) (cs : Nat → Nat → Nat) (ns : Nat → Nat), K < 500 → cs 0 = c → ns 0 = x0 → ∀ (hh : Hp) (t : Nat) {z2 : Option Value} {l3 : Int32}, t ≤ K + 1 → GI h hh (eM h n) n (K + 1) cs ns → hh 62 20 = -1 → (∀ j, t ≤ j → j < K + 1 → ¬ wh n (cs j) (ns j) = wh n (cs (K + 1)) (ns (K + 1))) → ((∀ j, j < K + 1 → ¬ wh n (cs j) (ns j) = wh n (cs (K + 1)) (ns (K + 1))) → ∀ x4, R g mX9_goAll 39 [some (.ref (ad g 62)), some (.int (nI x0)), z2, some (.int l3), some (.int x4)] [] hh (Rv fun h' => KT h h' ∧ TQ (eM h n) n c x0 h')) → R g mX9_goAll 119 [some (.ref (ad g 62)), some (.int (nI x0)), z2, some (.int l3), some (.int (nI t - 1))] [] hh (Rv fun h' => KT h h' ∧ TQ (eM h n) n c x0 h') := by
    intro K cs ns hK hc0 hx0 hh t
    induction t with
    | zero =>
      intro z2 l3 ht G hr hno K39
      have K39 := K39 (fun j hj => hno j (by omega) hj) (nI 0 - 1)
      refine r_iload rfl dX9_goAll_119 ?_
      refine r_if_lt 174 dX9_goAll_121 (by decide) (fun c_121 => ?_) (fun c_121 => ?_)
      · refine r_goto 39 dX9_goAll_174 (by decide) ?_
        exact K39
      · exact absurd (by decide : nI 0 - 1 < 0) c_121
    | succ t ih =>
      intro z2 l3 ht G hr hno K39
      have rt := G.2.2.2.2
      have ih := ih (z2 := z2) (l3 := l3) (by omega)
      rw [nI_pred]
      refine r_iload rfl dX9_goAll_119 ?_
      refine r_if_lt 174 dX9_goAll_121 (by decide) (fun c_121 => ?_) (fun c_121 => ?_)
      · first
          | exact absurd c_121 (Int32.not_lt.mpr (nI_pos' (by omega)))
          | exact absurd c_128 (by decide)
      · refine r_aload_n rfl dX9_goAll_124 ?_
        refine r_getI foX9_161 rfl rfl dX9_goAll_125 ?_
        rw [hr]
        refine r_if_ge 174 dX9_goAll_128 (by decide) (fun c_128 => ?_) (fun c_128 => ?_)
        · first
            | exact absurd c_121 (Int32.not_lt.mpr (nI_pos' (by omega)))
            | exact absurd c_128 (by decide)
        · refine r_aload_n rfl dX9_goAll_131 ?_
          refine r_aload_n rfl dX9_goAll_132 ?_
          refine r_getR foX9_52 rfl rfl dX9_goAll_133 ?_
          refine r_iload rfl dX9_goAll_136 ?_
          refine r_ild rfl rfl (by omega) (by decide) dX9_goAll_138 ?_
          rw [G.2.2.2.1 t (by omega)]
          refine r_aload_n rfl dX9_goAll_139 ?_
          refine r_getR foX9_52 rfl rfl dX9_goAll_140 ?_
          refine r_aload_n rfl dX9_goAll_143 ?_
          refine r_getI foX9_158 rfl rfl dX9_goAll_144 ?_
          rw [G.2.1]
          refine r_ild rfl rfl (by omega) (by decide) dX9_goAll_147 ?_
          rw [G.2.2.2.1 (K + 1) (Nat.le_refl _)]
          refine r_icmp_ne 161 dX9_goAll_148 (by decide) (fun c_148 => ?_) (fun c_148 => ?_)
          · refine r_aload_n rfl dX9_goAll_161 ?_
            refine r_getI foX9_161 rfl rfl dX9_goAll_162 ?_
            rw [hr]
            refine r_putI fpX9_161 rfl rfl dX9_goAll_165 ?_
            refine r_incQ4 rfl (by decide) dX9_goAll_168 ?_
            refine r_goto 119 dX9_goAll_171 (by decide) ?_
            first
              | (have t9 : ¬ nI (stN (cs t) (ns t) n) = nI (stN (cs (K + 1)) (ns (K + 1)) n) := c_148
                 rw [← hr, hset_id]
                 exact ih G hr (fun j a b => by
                   by_cases q : j = t
                   · subst q
                     exact fun z => t9 (by rw [(st_wh hn (rt.1 j (by omega)).1 (rt.1 (K + 1) (by omega)).1 (rt.1 j (by omega)).2 (rt.1 (K + 1) (by omega)).2).mpr z])
                   · exact hno j (by omega) b) K39)
              | (have t9 : nI (stN (cs t) (ns t) n) = nI (stN (cs (K + 1)) (ns (K + 1)) n) := c_148
                 have b1 : ∀ i, i ≤ K + 1 → stN (cs i) (ns i) n < 2 ^ 31 := fun i hi => stN_lt31 (by have := (rt.1 i hi).2; omega) hn (fun l hl => by have := (rt.1 i hi).1.le hl; omega)
                 have t8 := nI_inj (b1 t (by omega)) (b1 (K + 1) (by omega)) t9
                 have t7 := (st_wh hn (rt.1 t (by omega)).1 (rt.1 (K + 1) (by omega)).1 (rt.1 t (by omega)).2 (rt.1 (K + 1) (by omega)).2).mp t8
                 refine found _ _ _ _ ?_ ?_
                 · rw [hset_same, upd_eq, nI_subk (by omega)]; exact nI_pos' (by omega)
                 · exact ⟨(G.ring).1, K + 1, cs, ns, by omega, hc0, hx0, rt, (G.ring).2.1, (G.ring).2.2.1, Or.inl ⟨t, by omega, t7, fun j hj z => rt.2.2 t (by omega) j hj (z.trans t7.symm), by rw [hset_same, upd_eq]⟩⟩)
          · refine r_aload_n rfl dX9_goAll_151 ?_
            refine r_getI foX9_158 rfl rfl dX9_goAll_152 ?_
            rw [G.2.1]
            refine r_iload rfl dX9_goAll_155 ?_
            refine r_isub dX9_goAll_157 ?_
            refine r_goto 165 dX9_goAll_158 (by decide) ?_
            refine r_putI fpX9_161 rfl rfl dX9_goAll_165 ?_
            refine r_incQ4 rfl (by decide) dX9_goAll_168 ?_
            refine r_goto 119 dX9_goAll_171 (by decide) ?_
            first
              | (have t9 : ¬ nI (stN (cs t) (ns t) n) = nI (stN (cs (K + 1)) (ns (K + 1)) n) := c_148
                 rw [← hr, hset_id]
                 exact ih G hr (fun j a b => by
                   by_cases q : j = t
                   · subst q
                     exact fun z => t9 (by rw [(st_wh hn (rt.1 j (by omega)).1 (rt.1 (K + 1) (by omega)).1 (rt.1 j (by omega)).2 (rt.1 (K + 1) (by omega)).2).mpr z])
                   · exact hno j (by omega) b) K39)
              | (have t9 : nI (stN (cs t) (ns t) n) = nI (stN (cs (K + 1)) (ns (K + 1)) n) := c_148
                 have b1 : ∀ i, i ≤ K + 1 → stN (cs i) (ns i) n < 2 ^ 31 := fun i hi => stN_lt31 (by have := (rt.1 i hi).2; omega) hn (fun l hl => by have := (rt.1 i hi).1.le hl; omega)
                 have t8 := nI_inj (b1 t (by omega)) (b1 (K + 1) (by omega)) t9
                 have t7 := (st_wh hn (rt.1 t (by omega)).1 (rt.1 (K + 1) (by omega)).1 (rt.1 t (by omega)).2 (rt.1 (K + 1) (by omega)).2).mp t8
                 refine found _ _ _ _ ?_ ?_
                 · rw [hset_same, upd_eq, nI_subk (by omega)]; exact nI_pos' (by omega)
                 · exact ⟨(G.ring).1, K + 1, cs, ns, by omega, hc0, hx0, rt, (G.ring).2.1, (G.ring).2.2.1, Or.inl ⟨t, by omega, t7, fun j hj z => rt.2.2 t (by omega) j hj (z.trans t7.symm), by rw [hset_same, upd_eq]⟩⟩)
  have main : ∀ (w K : Nat) (cs : Nat → Nat → Nat) (ns : Nat → Nat) {hh : Hp} (z3 z4 : Option Value), K ≤ 500 → 500 < K + w → cs 0 = c → ns 0 = x0 → GI h hh (eM h n) n K cs ns → hh 62 20 = -1 → (∀ j, j < K → ¬ wh n (cs j) (ns j) = wh n (cs K) (ns K)) → R g mX9_goAll 39 [some (.ref (ad g 62)), some (.int (nI x0)), some (.int (nI (ns K))), z3, z4] [] hh (Rv fun h' => KT h h' ∧ TQ (eM h n) n c x0 h') := by
    intro w
    induction w with
    | zero => intro K cs ns hh z3 z4 a b; omega
    | succ w ih =>
      intro K cs ns hh z3 z4 a b hc0 hx0 G hr hnew
      refine r_aload_n rfl dX9_goAll_39 ?_
      refine r_getI foX9_161 rfl rfl dX9_goAll_40 ?_
      rw [hr]
      refine r_if_ge 177 dX9_goAll_43 (by decide) (fun c_43 => ?_) (fun c_43 => ?_)
      · first
          | exact absurd c_43 (by decide)
          | (have hK : K = 500 := by have := ge_y (by omega) (by omega) c_53; omega
             refine ret_v dX9_goAll_177 rfl ?_
             exact ⟨G.1, K, cs, ns, by omega, hc0, hx0, G.2.2.2.2, G.2.1, G.2.2.1, Or.inr ⟨hnew, Or.inr ⟨hK, hr⟩⟩⟩)
      · refine r_aload_n rfl dX9_goAll_46 ?_
        refine r_getI foX9_158 rfl rfl dX9_goAll_47 ?_
        rw [G.2.1]
        refine r_sipush (v := nI 500) (by decide) dX9_goAll_50 ?_
        refine r_icmp_ge 177 dX9_goAll_53 (by decide) (fun c_53 => ?_) (fun c_53 => ?_)
        · first
            | exact absurd c_43 (by decide)
            | (have hK : K = 500 := by have := ge_y (by omega) (by omega) c_53; omega
               refine ret_v dX9_goAll_177 rfl ?_
               exact ⟨G.1, K, cs, ns, by omega, hc0, hx0, G.2.2.2.2, G.2.1, G.2.2.1, Or.inr ⟨hnew, Or.inr ⟨hK, hr⟩⟩⟩)
        · have hlk : K < 500 := ge_n (by omega) c_53
          have G0 := G.2.2.2.2.1 K (Nat.le_refl _)
          refine r_aload_n rfl dX9_goAll_56 ?_
          refine r_iload_n rfl dX9_goAll_57 ?_
          refine r_cV1i (T := TX9) (N := 21) moX9_goOne lkX9_167 rfl rfl (Nat.le_of_ble_eq_true rfl) ⟨by decide, by decide⟩ (Nat.le_of_ble_eq_true rfl) dX9_goAll_58 rfl (m_goOne (c := cs K) (x := ns K) ⟨⟨rfl, by omega, by omega, by omega, by omega⟩, hn, by rw [G.1.2 1 (by omega) (by omega)]; exact I.1.2, by rw [G.1.eM]; exact I.2.1.2, G.2.2.1, fun l hl => by have := G0.1.le hl; omega, by have := mx_le G0.1 n (Nat.le_refl _); omega⟩ G0.2) (fun v21 h21 q21 => ?_)
          obtain ⟨ko, po⟩ := q21
          rw [G.1.eM] at po
          refine r_ist3 rfl (by decide) dX9_goAll_61 ?_
          refine r_iload_n rfl dX9_goAll_62 ?_
          refine r_if_ge 74 dX9_goAll_63 (by decide) (fun c_63 => ?_) (fun c_63 => ?_)
          · obtain ⟨l, gl, c2, hfg, hl, ev, hc2, h76⟩ := po.resolve_left (fun z => by rw [z.2.1] at c_63; exact absurd c_63 (by decide))
            subst ev
            refine r_iload_n rfl dX9_goAll_74 ?_
            refine r_iconst (v := (1 : Int32)) (by decide) dX9_goAll_75 ?_
            refine r_iadd dX9_goAll_76 ?_
            rw [nI_1]
            refine r_aload_n rfl dX9_goAll_77 ?_
            refine r_getI foX9_55 rfl rfl dX9_goAll_78 ?_
            rw [ko 62 (by omega) (by omega), G.1.2 1 (by omega) (by omega), I.1.2]
            refine r_irem (fun q => by have := nI_z (n := n) (by omega) q; omega) dX9_goAll_81 ?_
            rw [pk_rem (by omega) (by omega) (by omega), bh_1 hl]
            refine r_ist2 rfl (by decide) dX9_goAll_82 ?_
            refine r_aload_n rfl dX9_goAll_83 ?_
            refine r_dup rfl dX9_goAll_84 ?_
            refine r_getI foX9_158 rfl rfl dX9_goAll_85 ?_
            rw [ko 62 (by omega) (by omega), G.2.1]
            refine r_iconst (v := (1 : Int32)) (by decide) dX9_goAll_88 ?_
            refine r_iadd dX9_goAll_89 ?_
            rw [nI_1]
            refine r_putI fpX9_158 rfl rfl dX9_goAll_90 ?_
            refine r_aload_n rfl dX9_goAll_93 ?_
            refine r_getR foX9_52 rfl rfl dX9_goAll_94 ?_
            refine r_aload_n rfl dX9_goAll_97 ?_
            refine r_getI foX9_158 rfl rfl dX9_goAll_98 ?_
            rw [hset_same, upd_eq]
            refine r_aload_n rfl dX9_goAll_101 ?_
            refine r_aload_n rfl dX9_goAll_102 ?_
            refine r_getR foX9_49 rfl rfl dX9_goAll_103 ?_
            refine r_iload_n rfl dX9_goAll_106 ?_
            refine r_cV2i (T := TX9) (N := 21) moX9_stateOf lkX9_164 rfl rfl (Nat.le_of_ble_eq_true rfl) ⟨by decide, by decide⟩ (Nat.le_of_ble_eq_true rfl) dX9_goAll_107 rfl (m_stateOf (A := 76) (c := c2) (x := bh n l) rfl hn (by rw [hset_same, upd_ne (by omega), ko 62 (by omega) (by omega), G.1.2 1 (by omega) (by omega)]; exact I.1.2) (by rw [hset_ne (by omega)]; exact h76)) (fun v22 h22 q22 => ?_)
            obtain ⟨e22, f22⟩ := q22
            subst f22
            rw [e22]
            refine r_ias rfl rfl (by omega) (by decide) dX9_goAll_110 ?_
            refine r_aload_n rfl dX9_goAll_111 ?_
            refine r_getI foX9_158 rfl rfl dX9_goAll_112 ?_
            rw [hset_ne (by omega), hset_same, upd_eq]
            refine r_iconst (v := (1 : Int32)) (by decide) dX9_goAll_115 ?_
            refine r_isub dX9_goAll_116 ?_
            refine r_ist4 rfl (by decide) dX9_goAll_117 ?_
            have G2 := G.more ko hnew ⟨l, gl, hfg, hl, hc2, rfl⟩ hc2.1 (bh_lt hl) h76 rfl
            have r2 : (hset (hset h21 62 19 (nI (K + 1))) 77 (K + 1) (nI (stN c2 (bh n l) n))) 62 20 = -1 := by rw [hset_ne (by omega), hset_same, upd_ne (by omega), ko 62 (by omega) (by omega)]; exact hr
            have c02 : sx cs (K + 1) c2 0 = c := by rw [sx_ne (by omega)]; exact hc0
            have x02 : sx ns (K + 1) (bh n l) 0 = x0 := by rw [sx_ne (by omega)]; exact hx0
            exact inner K _ _ hlk c02 x02 _ (K + 1) (Nat.le_refl _) G2 r2 (fun j a b => by omega) (fun hn2 x4 => by
              have t1 := ih (K + 1) _ _ (some (.int (nI l))) (some (.int x4)) (by omega) (by omega) c02 x02 G2 r2 hn2
              rw [sx_eq] at t1
              exact t1)
          · have hv := po.resolve_right (fun z => by obtain ⟨l, gl, c2, _, hl, ev, _⟩ := z; rw [ev] at c_63; exact c_63 (nI_pos' (by omega)))
            refine r_aload_n rfl dX9_goAll_66 ?_
            refine r_iconst (v := (0 : Int32)) (by decide) dX9_goAll_67 ?_
            refine r_putI fpX9_161 rfl rfl dX9_goAll_68 ?_
            refine r_goto 174 dX9_goAll_71 (by decide) ?_
            refine r_goto 39 dX9_goAll_174 (by decide) ?_
            refine exit39 _ _ _ _ (by rw [hset_same, upd_eq]; decide) ?_
            refine ⟨(G.1.O ko).s20, K, cs, ns, by omega, hc0, hx0, G.2.2.2.2, ?_, ?_, Or.inr ⟨hnew, Or.inl ⟨hv.1, by rw [hset_same, upd_eq]⟩⟩⟩
            · rw [hset_same, upd_ne (by omega), ko 62 (by omega) (by omega)]; exact G.2.1
            · rw [hset_ne (by omega)]; exact hv.2.2
  refine r_aload_n rfl dX9_goAll_0 ?_
  refine r_aload_n rfl dX9_goAll_1 ?_
  refine r_getR foX9_13 rfl rfl dX9_goAll_2 ?_
  refine r_aload_n rfl dX9_goAll_5 ?_
  refine r_getR foX9_49 rfl rfl dX9_goAll_6 ?_
  refine r_cV2v (T := TX9) (N := 21) moX9_copy lkX9_128 rfl rfl (Nat.le_of_ble_eq_true rfl) ⟨by decide, by decide⟩ (Nat.le_of_ble_eq_true rfl) dX9_goAll_9 rfl (m_copy (B := 64) (D := 76) rfl rfl (by omega)) (fun h1 q1 => ?_)
  have C := q1
  refine r_aload_n rfl dX9_goAll_12 ?_
  refine r_iconst (v := nI 0) (by decide) dX9_goAll_13 ?_
  refine r_putI fpX9_158 rfl rfl dX9_goAll_14 ?_
  refine r_aload_n rfl dX9_goAll_17 ?_
  refine r_iconst (v := (-1 : Int32)) (by decide) dX9_goAll_18 ?_
  refine r_putI fpX9_161 rfl rfl dX9_goAll_19 ?_
  have k62 : ∀ i, ¬ i = 19 → ¬ i = 20 → (hset (hset h1 62 19 (nI 0)) 62 20 (-1)) 62 i = h 62 i := fun i a b => by rw [hset_same, upd_ne b, hset_same, upd_ne a, C.1 62 (by omega)]
  have r76 : ∀ j, j < n → (hset (hset h1 62 19 (nI 0)) 62 20 (-1)) 76 j = nI (c j) := fun j hj => by
    rw [hset_ne (by omega), hset_ne (by omega), C.2.1 j (by omega)]; exact I.2.2.2.1 j hj
  refine r_iload_n rfl dX9_goAll_22 ?_
  refine r_ist2 rfl (by decide) dX9_goAll_23 ?_
  refine r_aload_n rfl dX9_goAll_24 ?_
  refine r_getR foX9_52 rfl rfl dX9_goAll_25 ?_
  refine r_iconst (v := nI 0) (by decide) dX9_goAll_28 ?_
  refine r_aload_n rfl dX9_goAll_29 ?_
  refine r_aload_n rfl dX9_goAll_30 ?_
  refine r_getR foX9_49 rfl rfl dX9_goAll_31 ?_
  refine r_iload_n rfl dX9_goAll_34 ?_
  refine r_cV2i (T := TX9) (N := 21) moX9_stateOf lkX9_164 rfl rfl (Nat.le_of_ble_eq_true rfl) ⟨by decide, by decide⟩ (Nat.le_of_ble_eq_true rfl) dX9_goAll_35 rfl (m_stateOf (A := 76) (c := c) (x := x0) rfl hn (by rw [k62 1 (by omega) (by omega)]; exact I.1.2) r76) (fun v2 h2 q2 => ?_)
  obtain ⟨e2, f2⟩ := q2
  subst f2
  rw [e2]
  refine r_ias rfl rfl (by omega) (by decide) dX9_goAll_38 ?_
  refine main 501 0 (fun _ => c) (fun _ => x0) _ _ (by omega) (by omega) rfl rfl ⟨⟨fun q a b d => ?_, fun i a b => ?_⟩, ?_, ?_, fun i hi => ?_, ⟨fun i hi => ⟨I.2.2.1, hx⟩, fun i hi => by omega, fun i hi => by omega⟩⟩ ?_ (fun j hj => by omega)
  · rw [hset_ne (by omega), hset_ne d, hset_ne d, C.1 q (by omega)]
  · rw [hset_ne (by omega)]; exact k62 i a b
  · rw [hset_ne (by omega), hset_same, upd_ne (by omega), hset_same, upd_eq]
  · rw [hset_ne (by omega)]; exact r76
  · obtain rfl : i = 0 := by omega
    rw [hset_same, upd_eq]
  · rw [hset_ne (by omega), hset_same, upd_eq]

