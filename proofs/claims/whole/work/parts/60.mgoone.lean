/-- the best goal, as the reference holds it -/
def RG (b : Int32 × Int32) (most to : Int32) : Prop := (b.1 = -2 ∧ b.2 = 0 ∧ to = -6) ∨ (0 < b.2 ∧ most = b.2 ∧ ((b.1 = -1 ∧ to = 7) ∨ ∃ u, u < 7 ∧ b.1 = nI u ∧ to = nI u))
theorem RG_0 {E : Ec} {r : Nat → Int32} {k : Nat} (h : gLv E r k ≤ 0) : RG (bgF E r k 0) (gLv E r k) (-6) := by
  rw [bgF, bgI, if_pos h]
  exact Or.inl ⟨rfl, rfl, rfl⟩
theorem RG_1 {E : Ec} {r : Nat → Int32} {k : Nat} (h : ¬ gLv E r k ≤ 0) : RG (bgF E r k 0) (gLv E r k) 7 := by
  rw [bgF, bgI, if_neg h]
  exact Or.inr ⟨Int32.not_le.mp h, rfl, Or.inl ⟨rfl, rfl⟩⟩
theorem RG.no {b : Int32 × Int32} {most to : Int32} (H : RG b most to) : to = -6 ↔ b.1 = -2 := by
  rcases H with ⟨h1, _, h2⟩ | ⟨_, _, ⟨h1, h2⟩ | ⟨u, hu, h1, h2⟩⟩
  · rw [h1, h2]; simp
  · rw [h1, h2]; decide
  · rw [h1, h2]
    exact ⟨fun q => absurd q (nI_m6 (by omega)), fun q => absurd (q ▸ nI_pos' (show u < 2 ^ 31 by omega) : (0 : Int32) ≤ -2) (by decide)⟩
theorem RG.pos {b : Int32 × Int32} {most to : Int32} (H : RG b most to) : 0 ≤ b.2 := by
  rcases H with ⟨_, h1, _⟩ | ⟨h1, _⟩
  · rw [h1]; decide
  · exact Int32.le_of_lt h1
theorem RG_keep {E : Ec} {r : Nat → Int32} {k u : Nat} {most to : Int32} (H : RG (bgF E r k u) most to) (h : r k = nI u ∨ gJ E r k (nI u) ≤ 0 ∨ (¬ to = -6 ∧ gJ E r k (nI u) ≤ most)) : RG (bgF E r k (u + 1)) most to := by
  have e : bgF E r k (u + 1) = bgF E r k u := by
    rw [bgF]
    by_cases q : r k = nI u
    · rw [if_pos q]
    · rw [if_neg q, if_pos]
      rcases h with z | z | ⟨z1, z2⟩
      · exact absurd z q
      · exact Int32.le_trans z H.pos
      · rcases H with ⟨_, _, y⟩ | ⟨_, y, _⟩
        · exact absurd y z1
        · rw [← y]; exact z2
  rw [e]
  exact H
theorem RG_new {E : Ec} {r : Nat → Int32} {k u : Nat} {most to : Int32} (hu : u < 7) (H : RG (bgF E r k u) most to) (h1 : ¬ r k = nI u) (h2 : ¬ gJ E r k (nI u) ≤ 0) (h3 : to = -6 ∨ ¬ gJ E r k (nI u) ≤ most) : RG (bgF E r k (u + 1)) (gJ E r k (nI u)) (nI u) := by
  have e : bgF E r k (u + 1) = (nI u, gJ E r k (nI u)) := by
    rw [bgF, if_neg h1, if_neg]
    rcases H with ⟨_, y, _⟩ | ⟨y0, y, y2⟩
    · rw [y]; exact h2
    · rcases h3 with z | z
      · rcases y2 with ⟨_, q⟩ | ⟨v, hv, _, q⟩
        · rw [q] at z; exact absurd z (by decide)
        · rw [q] at z; exact absurd z (nI_m6 (by omega))
      · rw [← y]; exact z
  rw [e]
  exact Or.inr ⟨Int32.not_le.mp h2, rfl, Or.inr ⟨u, hu, rfl, rfl⟩⟩
theorem CanOf.pat {n : Nat} {r r' : Nat → Int32} {c : Nat → Nat} (h : CanOf n r c) (p : Pat n r r') : CanOf n r' c := ⟨h.1, fun l k a b => (h.2 l k a b).trans (p l k a b)⟩
theorem bh_mod {n x k : Nat} (hn : 0 < n) : bh n ((x + k) % n) = (x + (k + 1)) % n := by
  have h1 := Nat.mod_lt (x + k) hn
  have e : (x + (k + 1)) % n = ((x + k) % n + 1) % n := by rw [Nat.mod_add_mod, Nat.add_assoc]
  rw [e, bh]
  split
  · rw [show (x + k) % n + 1 = n by omega, Nat.mod_self]
  · exact (Nat.mod_eq_of_lt (show (x + k) % n + 1 < n by omega)).symm
/-- what goOne may write -/
def KO (h h' : Hp) : Prop := ∀ q, ¬ (67 ≤ q ∧ q ≤ 76) → ¬ q = 65 → h' q = h q
theorem RG.dv {b : Int32 × Int32} {most to : Int32} (H : RG b most to) (h : ¬ b.1 = -2) : ∃ d, d < 8 ∧ to = nI d ∧ ∀ (n : Nat) (c : Nat → Nat) (l : Nat), (∀ j, j < n → c j < 7) → Pat n (upd (lab c) l to) (upd (lab c) l b.1) := by
  rcases H with ⟨h1, _, h2⟩ | ⟨_, _, ⟨h1, h2⟩ | ⟨u, hu, h1, h2⟩⟩
  · exact absurd h1 h
  · refine ⟨7, by omega, h2, fun n c l hc => ?_⟩
    rw [h1, h2]
    exact pat_fresh (fun j hj => nI_7 (hc j hj)) (fun j hj => nI_m1 (by have := hc j hj; omega))
  · refine ⟨u, by omega, h2, fun n c l hc => ?_⟩
    rw [h1, h2]
    exact Pat.refl _ _

set_option maxRecDepth 100000 in
set_option maxHeartbeats 400000 in
theorem m_goOne {g : GG} {n x : Nat} {h : Hp} {c : Nat → Nat} (M0 : MK h 76 n c) (hx : x < n) : R g mX9_goOne 0 [some (.ref (ad g 62)), some (.int (nI x)), none, none, none, none, none, none, none] [] h (Ri fun v h' => KO h h' ∧ ((fgF (eM h n) (lab c) (mx c n) n x = none ∧ v = -6 ∧ ∀ j, j < n → h' 76 j = nI (c j)) ∨ ∃ l gl c', fgF (eM h n) (lab c) (mx c n) n x = some (l, gl) ∧ l < n ∧ v = nI l ∧ CanOf n (upd (lab c) l gl) c' ∧ ∀ j, j < n → h' 76 j = nI (c' j))) := by
  have hn := M0.2.1
  have hc7 := M0.2.2.2.2.2.1
  have hU := M0.2.2.2.2.2.2
  have T162 : ∀ (k l : Nat) (hh : Hp) (a b d : Int32) (z : Option Value) (QQ : Option Value → Hp → Prop), R g mX9_goOne 19 [some (.ref (ad g 62)), some (.int (nI x)), some (.int (nI (mx c n))), some (.int (nI (k + 1))), some (.int (nI l)), some (.int a), some (.int b), some (.int d), z] [] hh QQ → R g mX9_goOne 162 [some (.ref (ad g 62)), some (.int (nI x)), some (.int (nI (mx c n))), some (.int (nI k)), some (.int (nI l)), some (.int a), some (.int b), some (.int d), z] [] hh QQ := by
    intro k l hh a b d z QQ K
    first | refine r_incN3 rfl (by decide) dX9_goOne_162 ?_ | refine r_incP3 rfl (by decide) dX9_goOne_162 ?_
    refine r_goto 19 dX9_goOne_165 (by decide) ?_
    exact K
  have loop1 : ∀ (hj : Hp), MJ hj 76 n c → KN h hj → ∀ (w k : Nat) (hh : Hp) (z4 z5 z6 z7 z8 : Option Value), k ≤ n → n < k + w → fgF (eM h n) (lab c) (mx c n) n x = fgF (eM h n) (lab c) (mx c n) (n - k) ((x + k) % n) → KM hj hh → R g mX9_goOne 19 [some (.ref (ad g 62)), some (.int (nI x)), some (.int (nI (mx c n))), some (.int (nI k)), z4, z5, z6, z7, z8] [] hh (Ri fun v h' => KO h h' ∧ ((fgF (eM h n) (lab c) (mx c n) n x = none ∧ v = -6 ∧ ∀ j, j < n → h' 76 j = nI (c j)) ∨ ∃ l gl c', fgF (eM h n) (lab c) (mx c n) n x = some (l, gl) ∧ l < n ∧ v = nI l ∧ CanOf n (upd (lab c) l gl) c' ∧ ∀ j, j < n → h' 76 j = nI (c' j))) := by
    intro hj J kj
    have eJ : eM hj n = eM h n := kj.eM
    have loop2 : ∀ (k l : Nat), l < n → (¬ (bgF (eM h n) (lab c) l (mx c n)).1 = -2 → fgF (eM h n) (lab c) (mx c n) n x = some (l, (bgF (eM h n) (lab c) l (mx c n)).1)) → (∀ (hh : Hp) (a b d : Int32) (z : Option Value), (bgF (eM h n) (lab c) l (mx c n)).1 = -2 → KM hj hh → R g mX9_goOne 162 [some (.ref (ad g 62)), some (.int (nI x)), some (.int (nI (mx c n))), some (.int (nI k)), some (.int (nI l)), some (.int a), some (.int b), some (.int d), z] [] hh (Ri fun v h' => KO h h' ∧ ((fgF (eM h n) (lab c) (mx c n) n x = none ∧ v = -6 ∧ ∀ j, j < n → h' 76 j = nI (c j)) ∨ ∃ l gl c', fgF (eM h n) (lab c) (mx c n) n x = some (l, gl) ∧ l < n ∧ v = nI l ∧ CanOf n (upd (lab c) l gl) c' ∧ ∀ j, j < n → h' 76 j = nI (c' j)))) → ∀ (w u : Nat) (hh : Hp) (most to : Int32) (z : Option Value), u ≤ mx c n → mx c n < u + w → RG (bgF (eM h n) (lab c) l u) most to → KM hj hh → R g mX9_goOne 66 [some (.ref (ad g 62)), some (.int (nI x)), some (.int (nI (mx c n))), some (.int (nI k)), some (.int (nI l)), some (.int most), some (.int to), some (.int (nI u)), z] [] hh (Ri fun v h' => KO h h' ∧ ((fgF (eM h n) (lab c) (mx c n) n x = none ∧ v = -6 ∧ ∀ j, j < n → h' 76 j = nI (c j)) ∨ ∃ l gl c', fgF (eM h n) (lab c) (mx c n) n x = some (l, gl) ∧ l < n ∧ v = nI l ∧ CanOf n (upd (lab c) l gl) c' ∧ ∀ j, j < n → h' 76 j = nI (c' j))) := by
      intro k l hl hfg K w
      induction w with
      | zero => intro u hh most to z a b; omega
      | succ w ih =>
        intro u hh most to z a b H k1
        have J2 := J.keep k1
        refine r_iload rfl dX9_goOne_66 ?_
        refine r_iload_n rfl dX9_goOne_68 ?_
        refine r_icmp_ge 135 dX9_goOne_69 (by decide) (fun c_69 => ?_) (fun c_69 => ?_)
        · have e : u = mx c n := by have := ge_y (by omega) (by omega) c_69; omega
          subst e
          refine r_iload rfl dX9_goOne_135 ?_
          refine r_bipush (v := (-6 : Int32)) (by decide) dX9_goOne_137 ?_
          refine r_icmp_eq 162 dX9_goOne_139 (by decide) (fun c_139 => ?_) (fun c_139 => ?_)
          · exact K _ _ _ _ _ (H.no.mp c_139) k1
          · have hb2 : ¬ (bgF (eM h n) (lab c) l (mx c n)).1 = -2 := fun q => c_139 (H.no.mpr q)
            obtain ⟨dv, hdv, edv, hpat⟩ := H.dv hb2
            refine r_aload_n rfl dX9_goOne_142 ?_
            refine r_getR foX9_49 rfl rfl dX9_goOne_143 ?_
            refine r_iload rfl dX9_goOne_146 ?_
            refine r_iload rfl dX9_goOne_148 ?_
            refine r_ias rfl rfl (by omega) (by decide) dX9_goOne_150 ?_
            refine r_aload_n rfl dX9_goOne_151 ?_
            refine r_aload_n rfl dX9_goOne_152 ?_
            refine r_getR foX9_49 rfl rfl dX9_goOne_153 ?_
            refine r_cV1v (T := TX9) (N := 21) moX9_number lkX9_104 rfl rfl (Nat.le_of_ble_eq_true rfl) ⟨by decide, by decide⟩ (Nat.le_of_ble_eq_true rfl) dX9_goOne_156 rfl (m_number (A := 76) (n := n) (d := fun j => if j = l then dv else c j) rfl (by omega) (by omega) hn (by rw [hset_ne (by omega)]; exact J2.2.2.1) (fun j hj => by
    rw [hset_same]
    by_cases q : j = l
    · rw [q, upd_eq, if_pos rfl]; exact edv
    · rw [upd_ne q, if_neg q]; exact J2.2.2.2.2.1 j hj) (fun j hj => by
    by_cases q : j = l
    · simp only [if_pos q]; exact hdv
    · simp only [if_neg q]; have := hc7 j hj; omega)) (fun h21 q21 => ?_)
            obtain ⟨kn, c', hc', rw'⟩ := q21
            rw [hset_same] at hc'
            refine r_iload rfl dX9_goOne_159 ?_
            refine ret_i dX9_goOne_161 rfl ?_
            refine ⟨fun q a b => by rw [kn q (by omega) (by omega), hset_ne (by omega), k1 q (by omega) b, kj q (by omega) b (by omega)], Or.inr ⟨l, _, c', hfg hb2, hl, rfl, ?_, rw'⟩⟩
            refine CanOf.pat hc' (Pat.trans (r' := upd (lab c) l to) (Pat.of_eq (fun j hj => ?_)) (hpat n c l hc7))
            exact upd_cong (J2.2.2.2.2.1 j hj)
        · have hlk : u < mx c n := ge_n (by omega) c_69
          refine r_iload rfl dX9_goOne_72 ?_
          refine r_aload_n rfl dX9_goOne_74 ?_
          refine r_getR foX9_49 rfl rfl dX9_goOne_75 ?_
          refine r_iload rfl dX9_goOne_78 ?_
          refine r_ild rfl rfl (by omega) (by decide) dX9_goOne_80 ?_
          rw [J2.2.2.2.2.1 l hl]
          refine r_icmp_ne 88 dX9_goOne_81 (by decide) (fun c_81 => ?_) (fun c_81 => ?_)
          · refine r_aload_n rfl dX9_goOne_88 ?_
            refine r_aload_n rfl dX9_goOne_89 ?_
            refine r_getR foX9_49 rfl rfl dX9_goOne_90 ?_
            refine r_iload rfl dX9_goOne_93 ?_
            refine r_iload rfl dX9_goOne_95 ?_
            refine r_cV3i (T := TX9) (N := 21) moX9_gainIn lkX9_135 rfl rfl (Nat.le_of_ble_eq_true rfl) ⟨by decide, by decide⟩ (Nat.le_of_ble_eq_true rfl) dX9_goOne_97 rfl (m_gainIn J2 hl) (fun v22 h22 q22 => ?_)
            obtain ⟨e22, kx⟩ := q22
            have kx := k1.trans kx
            rw [k1.eM, eJ, gJ_eq (EcEq.refl _) (show EqN (eN (eM h n)) (hh 76) (lab c) from J2.2.2.2.2.1) hl] at e22
            subst e22
            refine r_ist8 rfl (by decide) dX9_goOne_100 ?_
            refine r_iload rfl dX9_goOne_102 ?_
            refine r_if_le 129 dX9_goOne_104 (by decide) (fun c_104 => ?_) (fun c_104 => ?_)
            · first | refine r_incN7 rfl (by decide) dX9_goOne_129 ?_ | refine r_incP7 rfl (by decide) dX9_goOne_129 ?_
              refine r_goto 66 dX9_goOne_132 (by decide) ?_
              first
                | exact absurd (Int32.le_refl _) c_104
                | (have t9 : lab c l = nI u := c_81.symm
                   exact ih (u + 1) _ _ _ _ (by omega) (by omega) (RG_keep H (Or.inl t9)) k1)
                | (have t9 : gJ (eM h n) (lab c) l (nI u) ≤ 0 := c_104
                   exact ih (u + 1) _ _ _ _ (by omega) (by omega) (RG_keep H (Or.inr (Or.inl t9))) kx)
                | (have t9 : most < gJ (eM h n) (lab c) l (nI u) := Int32.not_le.mp c_118
                   exact ih (u + 1) _ _ _ _ (by omega) (by omega) (RG_new (by omega) H (fun q => c_81 q.symm) c_104 (Or.inr c_118)) kx)
                | (have t9 : gJ (eM h n) (lab c) l (nI u) ≤ most := c_118
                   exact ih (u + 1) _ _ _ _ (by omega) (by omega) (RG_keep H (Or.inr (Or.inr ⟨c_111, t9⟩))) kx)
                | exact ih (u + 1) _ _ _ _ (by omega) (by omega) (RG_new (by omega) H (fun q => c_81 q.symm) c_104 (Or.inl c_111)) kx
            · refine r_iload rfl dX9_goOne_107 ?_
              refine r_bipush (v := (-6 : Int32)) (by decide) dX9_goOne_109 ?_
              refine r_icmp_eq 121 dX9_goOne_111 (by decide) (fun c_111 => ?_) (fun c_111 => ?_)
              · refine r_iload rfl dX9_goOne_121 ?_
                refine r_ist5 rfl (by decide) dX9_goOne_123 ?_
                refine r_iload rfl dX9_goOne_125 ?_
                refine r_ist6 rfl (by decide) dX9_goOne_127 ?_
                first | refine r_incN7 rfl (by decide) dX9_goOne_129 ?_ | refine r_incP7 rfl (by decide) dX9_goOne_129 ?_
                refine r_goto 66 dX9_goOne_132 (by decide) ?_
                first
                  | exact absurd (Int32.le_refl _) c_104
                  | (have t9 : lab c l = nI u := c_81.symm
                     exact ih (u + 1) _ _ _ _ (by omega) (by omega) (RG_keep H (Or.inl t9)) k1)
                  | (have t9 : gJ (eM h n) (lab c) l (nI u) ≤ 0 := c_104
                     exact ih (u + 1) _ _ _ _ (by omega) (by omega) (RG_keep H (Or.inr (Or.inl t9))) kx)
                  | (have t9 : most < gJ (eM h n) (lab c) l (nI u) := Int32.not_le.mp c_118
                     exact ih (u + 1) _ _ _ _ (by omega) (by omega) (RG_new (by omega) H (fun q => c_81 q.symm) c_104 (Or.inr c_118)) kx)
                  | (have t9 : gJ (eM h n) (lab c) l (nI u) ≤ most := c_118
                     exact ih (u + 1) _ _ _ _ (by omega) (by omega) (RG_keep H (Or.inr (Or.inr ⟨c_111, t9⟩))) kx)
                  | exact ih (u + 1) _ _ _ _ (by omega) (by omega) (RG_new (by omega) H (fun q => c_81 q.symm) c_104 (Or.inl c_111)) kx
              · refine r_iload rfl dX9_goOne_114 ?_
                refine r_iload rfl dX9_goOne_116 ?_
                refine r_icmp_le 129 dX9_goOne_118 (by decide) (fun c_118 => ?_) (fun c_118 => ?_)
                · first | refine r_incN7 rfl (by decide) dX9_goOne_129 ?_ | refine r_incP7 rfl (by decide) dX9_goOne_129 ?_
                  refine r_goto 66 dX9_goOne_132 (by decide) ?_
                  first
                    | exact absurd (Int32.le_refl _) c_104
                    | (have t9 : lab c l = nI u := c_81.symm
                       exact ih (u + 1) _ _ _ _ (by omega) (by omega) (RG_keep H (Or.inl t9)) k1)
                    | (have t9 : gJ (eM h n) (lab c) l (nI u) ≤ 0 := c_104
                       exact ih (u + 1) _ _ _ _ (by omega) (by omega) (RG_keep H (Or.inr (Or.inl t9))) kx)
                    | (have t9 : most < gJ (eM h n) (lab c) l (nI u) := Int32.not_le.mp c_118
                       exact ih (u + 1) _ _ _ _ (by omega) (by omega) (RG_new (by omega) H (fun q => c_81 q.symm) c_104 (Or.inr c_118)) kx)
                    | (have t9 : gJ (eM h n) (lab c) l (nI u) ≤ most := c_118
                       exact ih (u + 1) _ _ _ _ (by omega) (by omega) (RG_keep H (Or.inr (Or.inr ⟨c_111, t9⟩))) kx)
                    | exact ih (u + 1) _ _ _ _ (by omega) (by omega) (RG_new (by omega) H (fun q => c_81 q.symm) c_104 (Or.inl c_111)) kx
                · refine r_iload rfl dX9_goOne_121 ?_
                  refine r_ist5 rfl (by decide) dX9_goOne_123 ?_
                  refine r_iload rfl dX9_goOne_125 ?_
                  refine r_ist6 rfl (by decide) dX9_goOne_127 ?_
                  first | refine r_incN7 rfl (by decide) dX9_goOne_129 ?_ | refine r_incP7 rfl (by decide) dX9_goOne_129 ?_
                  refine r_goto 66 dX9_goOne_132 (by decide) ?_
                  first
                    | exact absurd (Int32.le_refl _) c_104
                    | (have t9 : lab c l = nI u := c_81.symm
                       exact ih (u + 1) _ _ _ _ (by omega) (by omega) (RG_keep H (Or.inl t9)) k1)
                    | (have t9 : gJ (eM h n) (lab c) l (nI u) ≤ 0 := c_104
                       exact ih (u + 1) _ _ _ _ (by omega) (by omega) (RG_keep H (Or.inr (Or.inl t9))) kx)
                    | (have t9 : most < gJ (eM h n) (lab c) l (nI u) := Int32.not_le.mp c_118
                       exact ih (u + 1) _ _ _ _ (by omega) (by omega) (RG_new (by omega) H (fun q => c_81 q.symm) c_104 (Or.inr c_118)) kx)
                    | (have t9 : gJ (eM h n) (lab c) l (nI u) ≤ most := c_118
                       exact ih (u + 1) _ _ _ _ (by omega) (by omega) (RG_keep H (Or.inr (Or.inr ⟨c_111, t9⟩))) kx)
                    | exact ih (u + 1) _ _ _ _ (by omega) (by omega) (RG_new (by omega) H (fun q => c_81 q.symm) c_104 (Or.inl c_111)) kx
          · refine r_iconst (v := (0 : Int32)) (by decide) dX9_goOne_84 ?_
            refine r_goto 100 dX9_goOne_85 (by decide) ?_
            refine r_ist8 rfl (by decide) dX9_goOne_100 ?_
            refine r_iload rfl dX9_goOne_102 ?_
            refine r_if_le 129 dX9_goOne_104 (by decide) (fun c_104 => ?_) (fun c_104 => ?_)
            · first | refine r_incN7 rfl (by decide) dX9_goOne_129 ?_ | refine r_incP7 rfl (by decide) dX9_goOne_129 ?_
              refine r_goto 66 dX9_goOne_132 (by decide) ?_
              first
                | exact absurd (Int32.le_refl _) c_104
                | (have t9 : lab c l = nI u := c_81.symm
                   exact ih (u + 1) _ _ _ _ (by omega) (by omega) (RG_keep H (Or.inl t9)) k1)
                | (have t9 : gJ (eM h n) (lab c) l (nI u) ≤ 0 := c_104
                   exact ih (u + 1) _ _ _ _ (by omega) (by omega) (RG_keep H (Or.inr (Or.inl t9))) kx)
                | (have t9 : most < gJ (eM h n) (lab c) l (nI u) := Int32.not_le.mp c_118
                   exact ih (u + 1) _ _ _ _ (by omega) (by omega) (RG_new (by omega) H (fun q => c_81 q.symm) c_104 (Or.inr c_118)) kx)
                | (have t9 : gJ (eM h n) (lab c) l (nI u) ≤ most := c_118
                   exact ih (u + 1) _ _ _ _ (by omega) (by omega) (RG_keep H (Or.inr (Or.inr ⟨c_111, t9⟩))) kx)
                | exact ih (u + 1) _ _ _ _ (by omega) (by omega) (RG_new (by omega) H (fun q => c_81 q.symm) c_104 (Or.inl c_111)) kx
            · refine r_iload rfl dX9_goOne_107 ?_
              refine r_bipush (v := (-6 : Int32)) (by decide) dX9_goOne_109 ?_
              refine r_icmp_eq 121 dX9_goOne_111 (by decide) (fun c_111 => ?_) (fun c_111 => ?_)
              · refine r_iload rfl dX9_goOne_121 ?_
                refine r_ist5 rfl (by decide) dX9_goOne_123 ?_
                refine r_iload rfl dX9_goOne_125 ?_
                refine r_ist6 rfl (by decide) dX9_goOne_127 ?_
                first | refine r_incN7 rfl (by decide) dX9_goOne_129 ?_ | refine r_incP7 rfl (by decide) dX9_goOne_129 ?_
                refine r_goto 66 dX9_goOne_132 (by decide) ?_
                first
                  | exact absurd (Int32.le_refl _) c_104
                  | (have t9 : lab c l = nI u := c_81.symm
                     exact ih (u + 1) _ _ _ _ (by omega) (by omega) (RG_keep H (Or.inl t9)) k1)
                  | (have t9 : gJ (eM h n) (lab c) l (nI u) ≤ 0 := c_104
                     exact ih (u + 1) _ _ _ _ (by omega) (by omega) (RG_keep H (Or.inr (Or.inl t9))) kx)
                  | (have t9 : most < gJ (eM h n) (lab c) l (nI u) := Int32.not_le.mp c_118
                     exact ih (u + 1) _ _ _ _ (by omega) (by omega) (RG_new (by omega) H (fun q => c_81 q.symm) c_104 (Or.inr c_118)) kx)
                  | (have t9 : gJ (eM h n) (lab c) l (nI u) ≤ most := c_118
                     exact ih (u + 1) _ _ _ _ (by omega) (by omega) (RG_keep H (Or.inr (Or.inr ⟨c_111, t9⟩))) kx)
                  | exact ih (u + 1) _ _ _ _ (by omega) (by omega) (RG_new (by omega) H (fun q => c_81 q.symm) c_104 (Or.inl c_111)) kx
              · refine r_iload rfl dX9_goOne_114 ?_
                refine r_iload rfl dX9_goOne_116 ?_
                refine r_icmp_le 129 dX9_goOne_118 (by decide) (fun c_118 => ?_) (fun c_118 => ?_)
                · first | refine r_incN7 rfl (by decide) dX9_goOne_129 ?_ | refine r_incP7 rfl (by decide) dX9_goOne_129 ?_
                  refine r_goto 66 dX9_goOne_132 (by decide) ?_
                  first
                    | exact absurd (Int32.le_refl _) c_104
                    | (have t9 : lab c l = nI u := c_81.symm
                       exact ih (u + 1) _ _ _ _ (by omega) (by omega) (RG_keep H (Or.inl t9)) k1)
                    | (have t9 : gJ (eM h n) (lab c) l (nI u) ≤ 0 := c_104
                       exact ih (u + 1) _ _ _ _ (by omega) (by omega) (RG_keep H (Or.inr (Or.inl t9))) kx)
                    | (have t9 : most < gJ (eM h n) (lab c) l (nI u) := Int32.not_le.mp c_118
                       exact ih (u + 1) _ _ _ _ (by omega) (by omega) (RG_new (by omega) H (fun q => c_81 q.symm) c_104 (Or.inr c_118)) kx)
                    | (have t9 : gJ (eM h n) (lab c) l (nI u) ≤ most := c_118
                       exact ih (u + 1) _ _ _ _ (by omega) (by omega) (RG_keep H (Or.inr (Or.inr ⟨c_111, t9⟩))) kx)
                    | exact ih (u + 1) _ _ _ _ (by omega) (by omega) (RG_new (by omega) H (fun q => c_81 q.symm) c_104 (Or.inl c_111)) kx
                · refine r_iload rfl dX9_goOne_121 ?_
                  refine r_ist5 rfl (by decide) dX9_goOne_123 ?_
                  refine r_iload rfl dX9_goOne_125 ?_
                  refine r_ist6 rfl (by decide) dX9_goOne_127 ?_
                  first | refine r_incN7 rfl (by decide) dX9_goOne_129 ?_ | refine r_incP7 rfl (by decide) dX9_goOne_129 ?_
                  refine r_goto 66 dX9_goOne_132 (by decide) ?_
                  first
                    | exact absurd (Int32.le_refl _) c_104
                    | (have t9 : lab c l = nI u := c_81.symm
                       exact ih (u + 1) _ _ _ _ (by omega) (by omega) (RG_keep H (Or.inl t9)) k1)
                    | (have t9 : gJ (eM h n) (lab c) l (nI u) ≤ 0 := c_104
                       exact ih (u + 1) _ _ _ _ (by omega) (by omega) (RG_keep H (Or.inr (Or.inl t9))) kx)
                    | (have t9 : most < gJ (eM h n) (lab c) l (nI u) := Int32.not_le.mp c_118
                       exact ih (u + 1) _ _ _ _ (by omega) (by omega) (RG_new (by omega) H (fun q => c_81 q.symm) c_104 (Or.inr c_118)) kx)
                    | (have t9 : gJ (eM h n) (lab c) l (nI u) ≤ most := c_118
                       exact ih (u + 1) _ _ _ _ (by omega) (by omega) (RG_keep H (Or.inr (Or.inr ⟨c_111, t9⟩))) kx)
                    | exact ih (u + 1) _ _ _ _ (by omega) (by omega) (RG_new (by omega) H (fun q => c_81 q.symm) c_104 (Or.inl c_111)) kx
    intro w
    induction w with
    | zero => intro k hh z4 z5 z6 z7 z8 a b; omega
    | succ w ih =>
      intro k hh z4 z5 z6 z7 z8 a b hfk k1
      have J2 := J.keep k1
      refine r_iload_n rfl dX9_goOne_19 ?_
      refine r_aload_n rfl dX9_goOne_20 ?_
      refine r_getI foX9_55 rfl rfl dX9_goOne_21 ?_
      rw [J2.2.2.1]
      refine r_icmp_ge 168 dX9_goOne_24 (by decide) (fun c_24 => ?_) (fun c_24 => ?_)
      · have e : k = n := by have := ge_y (by omega) (by omega) c_24; omega
        subst e
        refine r_bipush (v := (-6 : Int32)) (by decide) dX9_goOne_168 ?_
        refine ret_i dX9_goOne_170 rfl ?_
        refine ⟨fun q a b => by rw [k1 q (by omega) b, kj q (by omega) b (by omega)], Or.inl ⟨by rw [hfk, Nat.sub_self]; rfl, rfl, J2.2.2.2.2.1⟩⟩
      · have hlk : k < n := ge_n (by omega) c_24
        refine r_iload_n rfl dX9_goOne_27 ?_
        refine r_iload_n rfl dX9_goOne_28 ?_
        refine r_iadd dX9_goOne_29 ?_
        rw [nI_add]
        refine r_aload_n rfl dX9_goOne_30 ?_
        refine r_getI foX9_55 rfl rfl dX9_goOne_31 ?_
        rw [J2.2.2.1]
        refine r_irem (fun q => by have := nI_z (n := n) (by omega) q; omega) dX9_goOne_34 ?_
        rw [pk_rem (by omega) (by omega) (by omega)]
        obtain ⟨l, el⟩ : ∃ l, l = (x + k) % n := ⟨_, rfl⟩
        rw [← el]
        have hl : l < n := by rw [el]; exact Nat.mod_lt _ (by omega)
        rw [← el, show n - k = (n - (k + 1)) + 1 by omega] at hfk
        refine r_ist4 rfl (by decide) dX9_goOne_35 ?_
        refine r_aload_n rfl dX9_goOne_37 ?_
        refine r_aload_n rfl dX9_goOne_38 ?_
        refine r_getR foX9_49 rfl rfl dX9_goOne_39 ?_
        refine r_iload rfl dX9_goOne_42 ?_
        refine r_cV2i (T := TX9) (N := 21) moX9_gainApart lkX9_132 rfl rfl (Nat.le_of_ble_eq_true rfl) ⟨by decide, by decide⟩ (Nat.le_of_ble_eq_true rfl) dX9_goOne_44 rfl (m_gainApart J2.1.1 ⟨J2.1.2.1, J2.1.2.2.1⟩ hn J2.2.2.1 J2.2.2.2.1 hl J2.2.2.2.2.1 J2.2.2.2.2.2.1 J2.2.2.2.2.2.2) (fun v21 h21 q21 => ?_)
        obtain ⟨e21, kx⟩ := q21
        have kx := k1.trans kx
        rw [k1.eM, eJ, gLv_eq (EcEq.refl _) (show EqN (eN (eM h n)) (hh 76) (lab c) from J2.2.2.2.2.1) hl] at e21
        subst e21
        refine r_ist5 rfl (by decide) dX9_goOne_47 ?_
        refine r_iload rfl dX9_goOne_49 ?_
        refine r_if_le 59 dX9_goOne_51 (by decide) (fun c_51 => ?_) (fun c_51 => ?_)
        · refine r_bipush (v := (-6 : Int32)) (by decide) dX9_goOne_59 ?_
          refine r_ist6 rfl (by decide) dX9_goOne_61 ?_
          refine r_iconst (v := nI 0) (by decide) dX9_goOne_63 ?_
          refine r_ist7 rfl (by decide) dX9_goOne_64 ?_
          have fin := loop2 k l hl (fun q => by rw [hfk, fgF, if_neg q]) (fun hh a b d z hb kz => T162 k l hh a b d z _ (ih (k + 1) hh _ _ _ _ _ (by omega) (by omega) (by
              rw [hfk, fgF, if_pos hb, show eN (eM h n) = n from rfl, el, bh_mod (by omega)]) kz)) (mx c n + 1) 0
          first
            | exact fin _ _ _ _ (by omega) (by omega) (RG_0 c_51) kx
            | exact fin _ _ _ _ (by omega) (by omega) (RG_1 c_51) kx
        · refine r_bipush (v := (7 : Int32)) (by decide) dX9_goOne_54 ?_
          refine r_goto 61 dX9_goOne_56 (by decide) ?_
          refine r_ist6 rfl (by decide) dX9_goOne_61 ?_
          refine r_iconst (v := nI 0) (by decide) dX9_goOne_63 ?_
          refine r_ist7 rfl (by decide) dX9_goOne_64 ?_
          have fin := loop2 k l hl (fun q => by rw [hfk, fgF, if_neg q]) (fun hh a b d z hb kz => T162 k l hh a b d z _ (ih (k + 1) hh _ _ _ _ _ (by omega) (by omega) (by
              rw [hfk, fgF, if_pos hb, show eN (eM h n) = n from rfl, el, bh_mod (by omega)]) kz)) (mx c n + 1) 0
          first
            | exact fin _ _ _ _ (by omega) (by omega) (RG_0 c_51) kx
            | exact fin _ _ _ _ (by omega) (by omega) (RG_1 c_51) kx
  refine r_aload_n rfl dX9_goOne_0 ?_
  refine r_aload_n rfl dX9_goOne_1 ?_
  refine r_getR foX9_49 rfl rfl dX9_goOne_2 ?_
  refine r_cV1v (T := TX9) (N := 21) moX9_keepGoods lkX9_143 rfl rfl (Nat.le_of_ble_eq_true rfl) ⟨by decide, by decide⟩ (Nat.le_of_ble_eq_true rfl) dX9_goOne_5 rfl (m_keepGoods (A := 76) rfl (by omega) hn M0.2.2.1 M0.2.2.2.1) (fun h1 q1 => ?_)
  obtain ⟨J, kj⟩ := M0.J q1.1 q1.2
  refine r_aload_n rfl dX9_goOne_8 ?_
  refine r_aload_n rfl dX9_goOne_9 ?_
  refine r_getR foX9_49 rfl rfl dX9_goOne_10 ?_
  refine r_cV1i (T := TX9) (N := 21) moX9_manyOf lkX9_73 rfl rfl (Nat.le_of_ble_eq_true rfl) ⟨by decide, by decide⟩ (Nat.le_of_ble_eq_true rfl) dX9_goOne_13 rfl (m_manyOf (A := 76) (c := c) rfl hn J.2.2.1 J.2.2.2.2.1 (fun l hl => by have := hc7 l hl; omega)) (fun v2 h2 q2 => ?_)
  obtain ⟨e2, f2⟩ := q2
  subst f2
  rw [e2]
  refine r_ist2 rfl (by decide) dX9_goOne_16 ?_
  refine r_iconst (v := nI 0) (by decide) dX9_goOne_17 ?_
  refine r_ist3 rfl (by decide) dX9_goOne_18 ?_
  exact loop1 _ J kj (n + 1) 0 _ _ _ _ _ _ (by omega) (by omega) (by rw [Nat.sub_zero, Nat.add_zero, Nat.mod_eq_of_lt hx]) KM.refl

