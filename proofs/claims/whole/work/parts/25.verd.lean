def EqN (n : Nat) (r r' : Nat → Int32) : Prop := ∀ j, j < n → r j = r' j
section EQN
variable {E E' : Ec} {r r' : Nat → Int32}
theorem EqN.upd {n k : Nat} {x : Int32} (h : EqN n r r') : EqN n (upd r k x) (upd r' k x) := fun i hi => by
  by_cases e : i = k
  · subst e; rw [upd_eq, upd_eq]
  · rw [upd_ne e, upd_ne e]; exact h i hi
theorem EqN.gath {n : Nat} {s : Int32} (h : EqN n r r') : EqN n (gath r s) (gath r' s) := fun i hi => by
  show (if bt s i then -1 else r i) = if bt s i then -1 else r' i
  rw [h i hi]
theorem good_eq (hE : EcEq E E') (h : EqN (eN E) r r') {k : Nat} (hk : k < eN E) : goodS E r k = goodS E' r' k := goodS_pat hE (Pat.of_eq h) hk
theorem gLv_eq (hE : EcEq E E') (h : EqN (eN E) r r') {k : Nat} (hk : k < eN E) : gLv E r k = gLv E' r' k := by rw [gLv, gLv, good_eq hE h hk, good_eq hE h.upd hk]
theorem nLess_eq (hE : EcEq E E') (h : EqN (eN E) r r') {k : Nat} {u : Int32} : nLess E r k u ↔ nLess E' r' k u := by
  constructor
  · intro q l hl e
    rw [← hE.1] at hl
    rw [← good_eq hE h hl, ← good_eq hE h.upd hl]
    exact q l hl (by rw [h l hl]; exact e)
  · intro q l hl e
    rw [good_eq hE h hl, good_eq hE h.upd hl]
    exact q l (by rw [← hE.1]; exact hl) (by rw [← h l hl]; exact e)
theorem gJ_eq (hE : EcEq E E') (h : EqN (eN E) r r') {k : Nat} {u : Int32} (hk : k < eN E) : gJ E r k u = gJ E' r' k u := by
  rw [gJ, gJ, good_eq hE h hk, good_eq hE h.upd hk]
  by_cases q : nLess E r k u
  · rw [if_pos q, if_pos ((nLess_eq hE h).mp q)]
  · rw [if_neg q, if_neg (fun z => q ((nLess_eq hE h).mpr z))]
theorem allG_eq (hE : EcEq E E') (h : EqN (eN E) r r') {s : Int32} : allG E r s ↔ allG E' r' s := by
  constructor
  · intro q l hl e
    rw [← hE.1] at hl
    rw [← good_eq hE h hl, ← good_eq hE h.gath hl]
    exact q l hl e
  · intro q l hl e
    rw [good_eq hE h hl, good_eq hE h.gath hl]
    exact q l (by rw [← hE.1]; exact hl) e
theorem inF_congr {p p' : Nat → Bool} {val val' : Nat → Int32} {df df' : Int32} (hd : df = df') : ∀ e u, (∀ i, u ≤ i → i < u + e → p i = p' i ∧ val i = val' i) → inF p val df e u = inF p' val' df' e u := by
  intro e
  induction e with
  | zero => intro u _; exact hd
  | succ e ih => intro u h; rw [inF, inF, (h u (Nat.le_refl _) (by omega)).1, (h u (Nat.le_refl _) (by omega)).2, ih (u + 1) (fun i a b => h i (by omega) (by omega))]
theorem staV_eq (hE : EcEq E E') (h : EqN (eN E) r r') : staV E r = staV E' r' := by
  rw [staV, staV, ← hE.1]
  exact inF_congr rfl _ _ (fun i _ hi => ⟨by rw [gLv_eq hE h (by omega)], rfl⟩)
theorem corV_eq (hE : EcEq E E') (h : EqN (eN E) r r') : corV E r = corV E' r' := by
  rw [corV, corV, show 2 ^ eN E' - 1 = 2 ^ eN E - 1 by rw [hE.1]]
  exact inF_congr rfl _ _ (fun i _ hi => ⟨decide_eq_decide.mpr (allG_eq hE h), rfl⟩)
theorem joF_eq (hE : EcEq E E') (h : EqN (eN E) r r') {U : Nat} : ∀ d l, l + d ≤ eN E → joF E r U d l = joF E' r' U d l := by
  intro d
  induction d with
  | zero => intro l _; rfl
  | succ d ih =>
    intro l hl
    rw [joF, joF]
    exact inF_congr (ih (l + 1) (by omega)) _ _ (fun i _ hi => ⟨by rw [joP, joP, gJ_eq hE h (by omega), h l (by omega)], rfl⟩)
theorem joiV_eq (hE : EcEq E E') (h : EqN (eN E) r r') {U : Nat} : joiV E r U = joiV E' r' U := by
  rw [joiV, joiV, ← hE.1]
  exact joF_eq hE h _ _ (by omega)
theorem bgF_eq (hE : EcEq E E') (h : EqN (eN E) r r') {k : Nat} (hk : k < eN E) : ∀ u, bgF E r k u = bgF E' r' k u := by
  intro u
  induction u with
  | zero => rw [bgF, bgF, bgI, bgI, gLv_eq hE h hk]
  | succ u ih => rw [bgF, bgF, ih, gJ_eq hE h hk, h k hk]
def brk (E : Ec) (r : Nat → Int32) (U rest : Nat) : Int32 := if rest = 2 then corV E r else if rest = 1 ∧ staV E r = -6 then joiV E r U else staV E r
theorem brk_eq (hE : EcEq E E') (h : EqN (eN E) r r') {U rest : Nat} : brk E r U rest = brk E' r' U rest := by
  rw [brk, brk, corV_eq hE h, staV_eq hE h, joiV_eq hE h]
end EQN
def VerdAt (V : Nat) : Prop := shl[V]? = some (.inr (7, [some (V + 1), some (V + 2)])) ∧ shl[V + 1]? = some (.inl 609) ∧ shl[V + 2]? = some (.inl 609)
def VC (h : Hp) (V G n : Nat) : Prop := ∃ ver, h (G + 1) 3 = nI ver ∧ 0 < ver ∧ ver < 2 ^ 30 ∧ (∀ p, p < 609 → ∃ a, h (V + 1) p = nI a ∧ a ≤ ver) ∧ ∀ c rest, rest < 3 → Can n c → h (V + 1) (rest * 203 + plc n c n) = nI ver → h (V + 2) (rest * 203 + plc n c n) = brk (eH h (G + 1) n) (lab c) (mx c n) rest
theorem VC.keep {h h' : Hp} {V G n : Nat} (H : VC h V G n) (h1 : h' (V + 1) = h (V + 1)) (h2 : h' (V + 2) = h (V + 2)) (h3 : h' (G + 1) 3 = h (G + 1) 3) (h4 : eH h' (G + 1) n = eH h (G + 1) n) : VC h' V G n := by
  obtain ⟨ver, g1, g2, g3, g4, g5⟩ := H
  exact ⟨ver, by rw [h3]; exact g1, g2, g3, fun p hp => by rw [h1]; exact g4 p hp, fun c rest hr hc he => by rw [h1] at he; rw [h2, h4]; exact g5 c rest hr hc he⟩
theorem VC_new {h h1 : Hp} {V G n rest : Nat} {c : Nat → Nat} {x : Int32} (hVG : G + 18 ≤ V ∨ V + 3 ≤ G) (hn : n ≤ 6) (hr : rest < 3) (hc : Can n c) (H : VC h V G n) (k : KeepJ G h h1) (hx : x = brk (eH h (G + 1) n) (lab c) (mx c n) rest) :
    VC (hset (hset h1 (V + 2) (rest * 203 + plc n c n) x) (V + 1) (rest * 203 + plc n c n) (hset h1 (V + 2) (rest * 203 + plc n c n) x (G + 1) 3)) V G n := by
  have hpl := plc_lt hn hc
  generalize hp : rest * 203 + plc n c n = p
  have e1 : hset h1 (V + 2) p x (G + 1) 3 = h (G + 1) 3 := by rw [hset_ne (by omega), k _ (by omega)]
  rw [e1]
  have e2 : ∀ q, ¬ q = V + 1 → ¬ q = V + 2 → hset (hset h1 (V + 2) p x) (V + 1) p (h (G + 1) 3) q = h1 q := fun q a b => by rw [hset_ne a, hset_ne b]
  have eE : eH (hset (hset h1 (V + 2) p x) (V + 1) p (h (G + 1) 3)) (G + 1) n = eH h (G + 1) n := eH_keep (fun q a b => by rw [e2 q (by omega) (by omega)]; exact k q (by omega))
  obtain ⟨ver, g1, g2, g3, g4, g5⟩ := H
  refine ⟨ver, by rw [e2 _ (by omega) (by omega), k _ (by omega)]; exact g1, g2, g3, fun p' hp' => ?_, fun c' rest' hr' hc' he => ?_⟩
  · rw [hset_same]
    by_cases e : p' = p
    · subst e; rw [upd_eq]; exact ⟨ver, g1, Nat.le_refl _⟩
    · rw [upd_ne e, hset_ne (by omega), k _ (by omega)]; exact g4 p' hp'
  · have hpl' := plc_lt hn hc'
    rw [eE, hset_ne (by omega), hset_same]
    by_cases e : rest' * 203 + plc n c' n = p
    · have er : rest' = rest := by omega
      have ec : plc n c' n = plc n c n := by omega
      have hcc := plc_inj hn hc' hc ec
      rw [e, upd_eq, hx, er, mx_congr hcc]
      exact (brk_eq (EcEq.refl _) (fun j hj => by show nI (c' j) = nI (c j); rw [hcc j hj])).symm
    · rw [hset_same, upd_ne e, hset_ne (by omega), k _ (by omega)] at he
      rw [upd_ne e, k _ (by omega)]
      exact g5 c' rest' hr' hc' he
theorem VC.val {h : Hp} {V G n rest : Nat} {c : Nat → Nat} (H : VC h V G n) (hr : rest < 3) (hc : Can n c) (he : h (V + 1) (rest * 203 + plc n c n) = h (G + 1) 3) : h (V + 2) (rest * 203 + plc n c n) = brk (eH h (G + 1) n) (lab c) (mx c n) rest := by
  obtain ⟨ver, g1, g2, g3, g4, g5⟩ := H
  exact g5 c rest hr hc (by rw [he, g1])
theorem is1 {a : Nat} (ha : a < 3) : nI a = 1 ↔ a = 1 := by
  rw [show (1 : Int32) = nI 1 by decide]; exact nI_eq (by omega) (by omega)
theorem is2 {a : Nat} (ha : a < 3) : nI a = 2 ↔ a = 2 := by
  rw [show (2 : Int32) = nI 2 by decide]; exact nI_eq (by omega) (by omega)
theorem nI_is {a b : Nat} (ha : a < 3) (hb : b < 3) {x : Int32} (hx : x = nI b) : nI a = x ↔ a = b := by subst hx; exact nI_eq (by omega) (by omega)
def KeepV (V G : Nat) (h h' : Hp) : Prop := ∀ q, ¬ (G + 6 < q ∧ q ≤ G + 17) → ¬ q = V + 1 → ¬ q = V + 2 → h' q = h q

set_option maxRecDepth 100000 in
set_option maxHeartbeats 4000000 in
theorem c_firstBreaker {g : GG} {V J G P n rest : Nat} {h : Hp} {c : Nat → Nat} (hV : VerdAt V) (hJ : JudgeAt J G) (hP : PartAt P) (hd : G + 18 ≤ P ∨ P + 3 ≤ G) (hVG : G + 18 ≤ V ∨ V + 3 ≤ G) (j : JI g h G n) (hc : Can n c) (hs : PS h P n c) (hr : rest < 3) (hv : VC h V G n) : R g mX7_firstBreaker 0 [some (.ref (ad g V)), some (.ref (ad g J)), some (.int (nI rest)), some (.ref (ad g P)), none, none] [] h (Ri fun v h' => v = brk (eH h (G + 1) n) (lab c) (mx c n) rest ∧ KeepV V G h h' ∧ GC h' G n ∧ VC h' V G n) := by
  have hpl := plc_lt j.2.1 hc
  refine r_iload_n rfl dX7_firstBreaker_0 ?_
  refine r_sipush (v := (203 : Int32)) (by decide) dX7_firstBreaker_1 ?_
  refine r_imul dX7_firstBreaker_4 ?_
  refine r_aload_n rfl dX7_firstBreaker_5 ?_
  refine r_cV0i (T := TX6) (N := 4) moX6_place lkX7_18 hP.1 rfl (Nat.le_of_ble_eq_true rfl) ⟨by decide, by decide⟩ (Nat.le_of_ble_eq_true rfl) dX7_firstBreaker_6 rfl (c_place hP j.2.1 hc hs j.1) (fun v1 h1 q1 => ?_)
  obtain ⟨e1, e2⟩ := q1
  subst e2
  rw [e1, show (203 : Int32) = nI 203 by decide, nI_mul]
  refine r_iadd dX7_firstBreaker_9 ?_
  rw [nI_add]
  refine r_ist4 rfl (by decide) dX7_firstBreaker_10 ?_
  refine r_aload_n rfl dX7_firstBreaker_12 ?_
  refine r_getR foX7_9 hV.1 rfl dX7_firstBreaker_13 ?_
  refine r_iload rfl dX7_firstBreaker_16 ?_
  refine r_ild hV.2.1 rfl (by omega) (by decide) dX7_firstBreaker_18 ?_
  refine r_aload_n rfl dX7_firstBreaker_19 ?_
  refine r_getR foX7_24 hJ.1 rfl dX7_firstBreaker_20 ?_
  refine r_getI foX7_30 hJ.2.1.2.1.1 rfl dX7_firstBreaker_23 ?_
  refine r_icmp_eq 91 dX7_firstBreaker_26 (by decide) (fun c_26 => ?_) (fun c_26 => ?_)
  · refine r_aload_n rfl dX7_firstBreaker_91 ?_
    refine r_getR foX7_15 hV.1 rfl dX7_firstBreaker_92 ?_
    refine r_iload rfl dX7_firstBreaker_95 ?_
    refine r_ild hV.2.2 rfl (by omega) (by decide) dX7_firstBreaker_97 ?_
    refine ret_i dX7_firstBreaker_98 rfl ?_
    first
      | exact ⟨hv.val hr hc c_26, fun _ _ _ _ => rfl, j.2.2.2.2, hv⟩
      | exact absurd ((is1 hr).mp c_51) (by have := (is2 hr).mp c_31; omega)
      | first
        | (have hx : joiV (eH h (G + 1) n) (lab c) (mx c n) = brk (eH h (G + 1) n) (lab c) (mx c n) rest := by rw [brk, if_neg (fun e => c_31 ((is2 hr).mpr e)), if_pos ⟨(is1 hr).mp c_51, c_58⟩]
           exact ⟨by rw [hset_ne (by omega), hset_same, upd_eq]; exact hx, fun q a b d => by rw [hset_ne b, hset_ne d]; exact k3 q a, g3.keep (fun q a b => by rw [hset_ne (by omega), hset_ne (by omega)]), VC_new hVG j.2.1 hr hc hv k3 hx⟩)
        | (have hx : corV (eH h (G + 1) n) (lab c) = brk (eH h (G + 1) n) (lab c) (mx c n) rest := by rw [brk, if_pos ((is2 hr).mp c_31)]
           exact ⟨by rw [hset_ne (by omega), hset_same, upd_eq]; exact hx, fun q a b d => by rw [hset_ne b, hset_ne d]; exact k2 q a, g2.keep (fun q a b => by rw [hset_ne (by omega), hset_ne (by omega)]), VC_new hVG j.2.1 hr hc hv k2 hx⟩)
        | (have hx : staV (eH h (G + 1) n) (lab c) = brk (eH h (G + 1) n) (lab c) (mx c n) rest := by rw [brk, if_neg (fun e => c_31 ((is2 hr).mpr e)), if_neg (fun e => by first | exact c_51 ((is1 hr).mpr e.1) | exact c_58 e.2)]
           exact ⟨by rw [hset_ne (by omega), hset_same, upd_eq]; exact hx, fun q a b d => by rw [hset_ne b, hset_ne d]; exact k2 q a, g2.keep (fun q a b => by rw [hset_ne (by omega), hset_ne (by omega)]), VC_new hVG j.2.1 hr hc hv k2 hx⟩)
  · refine r_iload_n rfl dX7_firstBreaker_29 ?_
    refine r_iconst (v := (2 : Int32)) (by decide) dX7_firstBreaker_30 ?_
    refine r_icmp_ne 42 dX7_firstBreaker_31 (by decide) (fun c_31 => ?_) (fun c_31 => ?_)
    · refine r_aload_n rfl dX7_firstBreaker_42 ?_
      refine r_aload_n rfl dX7_firstBreaker_43 ?_
      refine r_cV1i (T := TX2) (N := 3) moX2_stayBreaker lkX7_40 hJ.1 rfl (Nat.le_of_ble_eq_true rfl) ⟨by decide, by decide⟩ (Nat.le_of_ble_eq_true rfl) dX7_firstBreaker_44 rfl (c_stayBreaker hJ hP hd j hc hs) (fun v2 h2 q2 => ?_)
      obtain ⟨e2, k2, g2⟩ := q2
      subst e2
      refine r_ist5 rfl (by decide) dX7_firstBreaker_47 ?_
      refine r_iload_n rfl dX7_firstBreaker_49 ?_
      refine r_iconst (v := (1 : Int32)) (by decide) dX7_firstBreaker_50 ?_
      refine r_icmp_ne 68 dX7_firstBreaker_51 (by decide) (fun c_51 => ?_) (fun c_51 => ?_)
      · refine r_aload_n rfl dX7_firstBreaker_68 ?_
        refine r_getR foX7_15 hV.1 rfl dX7_firstBreaker_69 ?_
        refine r_iload rfl dX7_firstBreaker_72 ?_
        refine r_iload rfl dX7_firstBreaker_74 ?_
        refine r_ias hV.2.2 rfl (by omega) (by decide) dX7_firstBreaker_76 ?_
        refine r_aload_n rfl dX7_firstBreaker_77 ?_
        refine r_getR foX7_9 hV.1 rfl dX7_firstBreaker_78 ?_
        refine r_iload rfl dX7_firstBreaker_81 ?_
        refine r_aload_n rfl dX7_firstBreaker_83 ?_
        refine r_getR foX7_24 hJ.1 rfl dX7_firstBreaker_84 ?_
        refine r_getI foX7_30 hJ.2.1.2.1.1 rfl dX7_firstBreaker_87 ?_
        refine r_ias hV.2.1 rfl (by omega) (by decide) dX7_firstBreaker_90 ?_
        refine r_aload_n rfl dX7_firstBreaker_91 ?_
        refine r_getR foX7_15 hV.1 rfl dX7_firstBreaker_92 ?_
        refine r_iload rfl dX7_firstBreaker_95 ?_
        refine r_ild hV.2.2 rfl (by omega) (by decide) dX7_firstBreaker_97 ?_
        refine ret_i dX7_firstBreaker_98 rfl ?_
        first
          | exact ⟨hv.val hr hc c_26, fun _ _ _ _ => rfl, j.2.2.2.2, hv⟩
          | exact absurd ((is1 hr).mp c_51) (by have := (is2 hr).mp c_31; omega)
          | first
            | (have hx : joiV (eH h (G + 1) n) (lab c) (mx c n) = brk (eH h (G + 1) n) (lab c) (mx c n) rest := by rw [brk, if_neg (fun e => c_31 ((is2 hr).mpr e)), if_pos ⟨(is1 hr).mp c_51, c_58⟩]
               exact ⟨by rw [hset_ne (by omega), hset_same, upd_eq]; exact hx, fun q a b d => by rw [hset_ne b, hset_ne d]; exact k3 q a, g3.keep (fun q a b => by rw [hset_ne (by omega), hset_ne (by omega)]), VC_new hVG j.2.1 hr hc hv k3 hx⟩)
            | (have hx : corV (eH h (G + 1) n) (lab c) = brk (eH h (G + 1) n) (lab c) (mx c n) rest := by rw [brk, if_pos ((is2 hr).mp c_31)]
               exact ⟨by rw [hset_ne (by omega), hset_same, upd_eq]; exact hx, fun q a b d => by rw [hset_ne b, hset_ne d]; exact k2 q a, g2.keep (fun q a b => by rw [hset_ne (by omega), hset_ne (by omega)]), VC_new hVG j.2.1 hr hc hv k2 hx⟩)
            | (have hx : staV (eH h (G + 1) n) (lab c) = brk (eH h (G + 1) n) (lab c) (mx c n) rest := by rw [brk, if_neg (fun e => c_31 ((is2 hr).mpr e)), if_neg (fun e => by first | exact c_51 ((is1 hr).mpr e.1) | exact c_58 e.2)]
               exact ⟨by rw [hset_ne (by omega), hset_same, upd_eq]; exact hx, fun q a b d => by rw [hset_ne b, hset_ne d]; exact k2 q a, g2.keep (fun q a b => by rw [hset_ne (by omega), hset_ne (by omega)]), VC_new hVG j.2.1 hr hc hv k2 hx⟩)
      · refine r_iload rfl dX7_firstBreaker_54 ?_
        refine r_bipush (v := (-6 : Int32)) (by decide) dX7_firstBreaker_56 ?_
        refine r_icmp_ne 68 dX7_firstBreaker_58 (by decide) (fun c_58 => ?_) (fun c_58 => ?_)
        · refine r_aload_n rfl dX7_firstBreaker_68 ?_
          refine r_getR foX7_15 hV.1 rfl dX7_firstBreaker_69 ?_
          refine r_iload rfl dX7_firstBreaker_72 ?_
          refine r_iload rfl dX7_firstBreaker_74 ?_
          refine r_ias hV.2.2 rfl (by omega) (by decide) dX7_firstBreaker_76 ?_
          refine r_aload_n rfl dX7_firstBreaker_77 ?_
          refine r_getR foX7_9 hV.1 rfl dX7_firstBreaker_78 ?_
          refine r_iload rfl dX7_firstBreaker_81 ?_
          refine r_aload_n rfl dX7_firstBreaker_83 ?_
          refine r_getR foX7_24 hJ.1 rfl dX7_firstBreaker_84 ?_
          refine r_getI foX7_30 hJ.2.1.2.1.1 rfl dX7_firstBreaker_87 ?_
          refine r_ias hV.2.1 rfl (by omega) (by decide) dX7_firstBreaker_90 ?_
          refine r_aload_n rfl dX7_firstBreaker_91 ?_
          refine r_getR foX7_15 hV.1 rfl dX7_firstBreaker_92 ?_
          refine r_iload rfl dX7_firstBreaker_95 ?_
          refine r_ild hV.2.2 rfl (by omega) (by decide) dX7_firstBreaker_97 ?_
          refine ret_i dX7_firstBreaker_98 rfl ?_
          first
            | exact ⟨hv.val hr hc c_26, fun _ _ _ _ => rfl, j.2.2.2.2, hv⟩
            | exact absurd ((is1 hr).mp c_51) (by have := (is2 hr).mp c_31; omega)
            | first
              | (have hx : joiV (eH h (G + 1) n) (lab c) (mx c n) = brk (eH h (G + 1) n) (lab c) (mx c n) rest := by rw [brk, if_neg (fun e => c_31 ((is2 hr).mpr e)), if_pos ⟨(is1 hr).mp c_51, c_58⟩]
                 exact ⟨by rw [hset_ne (by omega), hset_same, upd_eq]; exact hx, fun q a b d => by rw [hset_ne b, hset_ne d]; exact k3 q a, g3.keep (fun q a b => by rw [hset_ne (by omega), hset_ne (by omega)]), VC_new hVG j.2.1 hr hc hv k3 hx⟩)
              | (have hx : corV (eH h (G + 1) n) (lab c) = brk (eH h (G + 1) n) (lab c) (mx c n) rest := by rw [brk, if_pos ((is2 hr).mp c_31)]
                 exact ⟨by rw [hset_ne (by omega), hset_same, upd_eq]; exact hx, fun q a b d => by rw [hset_ne b, hset_ne d]; exact k2 q a, g2.keep (fun q a b => by rw [hset_ne (by omega), hset_ne (by omega)]), VC_new hVG j.2.1 hr hc hv k2 hx⟩)
              | (have hx : staV (eH h (G + 1) n) (lab c) = brk (eH h (G + 1) n) (lab c) (mx c n) rest := by rw [brk, if_neg (fun e => c_31 ((is2 hr).mpr e)), if_neg (fun e => by first | exact c_51 ((is1 hr).mpr e.1) | exact c_58 e.2)]
                 exact ⟨by rw [hset_ne (by omega), hset_same, upd_eq]; exact hx, fun q a b d => by rw [hset_ne b, hset_ne d]; exact k2 q a, g2.keep (fun q a b => by rw [hset_ne (by omega), hset_ne (by omega)]), VC_new hVG j.2.1 hr hc hv k2 hx⟩)
        · refine r_aload_n rfl dX7_firstBreaker_61 ?_
          refine r_aload_n rfl dX7_firstBreaker_62 ?_
          refine r_cV1i (T := TX2) (N := 3) moX2_joinBreaker lkX7_43 hJ.1 rfl (Nat.le_of_ble_eq_true rfl) ⟨by decide, by decide⟩ (Nat.le_of_ble_eq_true rfl) dX7_firstBreaker_63 rfl (c_joinBreaker hJ hP hd (k2.JI j g2) hc (k2.PS hd hs)) (fun v3 h3 q3 => ?_)
          obtain ⟨e3, kz, g3⟩ := q3
          have k3 := k2.trans kz
          rw [k2.eH] at e3
          subst e3
          refine r_ist5 rfl (by decide) dX7_firstBreaker_66 ?_
          refine r_aload_n rfl dX7_firstBreaker_68 ?_
          refine r_getR foX7_15 hV.1 rfl dX7_firstBreaker_69 ?_
          refine r_iload rfl dX7_firstBreaker_72 ?_
          refine r_iload rfl dX7_firstBreaker_74 ?_
          refine r_ias hV.2.2 rfl (by omega) (by decide) dX7_firstBreaker_76 ?_
          refine r_aload_n rfl dX7_firstBreaker_77 ?_
          refine r_getR foX7_9 hV.1 rfl dX7_firstBreaker_78 ?_
          refine r_iload rfl dX7_firstBreaker_81 ?_
          refine r_aload_n rfl dX7_firstBreaker_83 ?_
          refine r_getR foX7_24 hJ.1 rfl dX7_firstBreaker_84 ?_
          refine r_getI foX7_30 hJ.2.1.2.1.1 rfl dX7_firstBreaker_87 ?_
          refine r_ias hV.2.1 rfl (by omega) (by decide) dX7_firstBreaker_90 ?_
          refine r_aload_n rfl dX7_firstBreaker_91 ?_
          refine r_getR foX7_15 hV.1 rfl dX7_firstBreaker_92 ?_
          refine r_iload rfl dX7_firstBreaker_95 ?_
          refine r_ild hV.2.2 rfl (by omega) (by decide) dX7_firstBreaker_97 ?_
          refine ret_i dX7_firstBreaker_98 rfl ?_
          first
            | exact ⟨hv.val hr hc c_26, fun _ _ _ _ => rfl, j.2.2.2.2, hv⟩
            | exact absurd ((is1 hr).mp c_51) (by have := (is2 hr).mp c_31; omega)
            | first
              | (have hx : joiV (eH h (G + 1) n) (lab c) (mx c n) = brk (eH h (G + 1) n) (lab c) (mx c n) rest := by rw [brk, if_neg (fun e => c_31 ((is2 hr).mpr e)), if_pos ⟨(is1 hr).mp c_51, c_58⟩]
                 exact ⟨by rw [hset_ne (by omega), hset_same, upd_eq]; exact hx, fun q a b d => by rw [hset_ne b, hset_ne d]; exact k3 q a, g3.keep (fun q a b => by rw [hset_ne (by omega), hset_ne (by omega)]), VC_new hVG j.2.1 hr hc hv k3 hx⟩)
              | (have hx : corV (eH h (G + 1) n) (lab c) = brk (eH h (G + 1) n) (lab c) (mx c n) rest := by rw [brk, if_pos ((is2 hr).mp c_31)]
                 exact ⟨by rw [hset_ne (by omega), hset_same, upd_eq]; exact hx, fun q a b d => by rw [hset_ne b, hset_ne d]; exact k2 q a, g2.keep (fun q a b => by rw [hset_ne (by omega), hset_ne (by omega)]), VC_new hVG j.2.1 hr hc hv k2 hx⟩)
              | (have hx : staV (eH h (G + 1) n) (lab c) = brk (eH h (G + 1) n) (lab c) (mx c n) rest := by rw [brk, if_neg (fun e => c_31 ((is2 hr).mpr e)), if_neg (fun e => by first | exact c_51 ((is1 hr).mpr e.1) | exact c_58 e.2)]
                 exact ⟨by rw [hset_ne (by omega), hset_same, upd_eq]; exact hx, fun q a b d => by rw [hset_ne b, hset_ne d]; exact k2 q a, g2.keep (fun q a b => by rw [hset_ne (by omega), hset_ne (by omega)]), VC_new hVG j.2.1 hr hc hv k2 hx⟩)
    · refine r_aload_n rfl dX7_firstBreaker_34 ?_
      refine r_aload_n rfl dX7_firstBreaker_35 ?_
      refine r_cV1i (T := TX2) (N := 3) moX2_coreBreaker lkX7_36 hJ.1 rfl (Nat.le_of_ble_eq_true rfl) ⟨by decide, by decide⟩ (Nat.le_of_ble_eq_true rfl) dX7_firstBreaker_36 rfl (c_coreBreaker hJ hP hd j hc hs) (fun v4 h4 q4 => ?_)
      obtain ⟨e2, k2, g2⟩ := q4
      subst e2
      refine r_goto 47 dX7_firstBreaker_39 (by decide) ?_
      refine r_ist5 rfl (by decide) dX7_firstBreaker_47 ?_
      refine r_iload_n rfl dX7_firstBreaker_49 ?_
      refine r_iconst (v := (1 : Int32)) (by decide) dX7_firstBreaker_50 ?_
      refine r_icmp_ne 68 dX7_firstBreaker_51 (by decide) (fun c_51 => ?_) (fun c_51 => ?_)
      · refine r_aload_n rfl dX7_firstBreaker_68 ?_
        refine r_getR foX7_15 hV.1 rfl dX7_firstBreaker_69 ?_
        refine r_iload rfl dX7_firstBreaker_72 ?_
        refine r_iload rfl dX7_firstBreaker_74 ?_
        refine r_ias hV.2.2 rfl (by omega) (by decide) dX7_firstBreaker_76 ?_
        refine r_aload_n rfl dX7_firstBreaker_77 ?_
        refine r_getR foX7_9 hV.1 rfl dX7_firstBreaker_78 ?_
        refine r_iload rfl dX7_firstBreaker_81 ?_
        refine r_aload_n rfl dX7_firstBreaker_83 ?_
        refine r_getR foX7_24 hJ.1 rfl dX7_firstBreaker_84 ?_
        refine r_getI foX7_30 hJ.2.1.2.1.1 rfl dX7_firstBreaker_87 ?_
        refine r_ias hV.2.1 rfl (by omega) (by decide) dX7_firstBreaker_90 ?_
        refine r_aload_n rfl dX7_firstBreaker_91 ?_
        refine r_getR foX7_15 hV.1 rfl dX7_firstBreaker_92 ?_
        refine r_iload rfl dX7_firstBreaker_95 ?_
        refine r_ild hV.2.2 rfl (by omega) (by decide) dX7_firstBreaker_97 ?_
        refine ret_i dX7_firstBreaker_98 rfl ?_
        first
          | exact ⟨hv.val hr hc c_26, fun _ _ _ _ => rfl, j.2.2.2.2, hv⟩
          | exact absurd ((is1 hr).mp c_51) (by have := (is2 hr).mp c_31; omega)
          | first
            | (have hx : joiV (eH h (G + 1) n) (lab c) (mx c n) = brk (eH h (G + 1) n) (lab c) (mx c n) rest := by rw [brk, if_neg (fun e => c_31 ((is2 hr).mpr e)), if_pos ⟨(is1 hr).mp c_51, c_58⟩]
               exact ⟨by rw [hset_ne (by omega), hset_same, upd_eq]; exact hx, fun q a b d => by rw [hset_ne b, hset_ne d]; exact k3 q a, g3.keep (fun q a b => by rw [hset_ne (by omega), hset_ne (by omega)]), VC_new hVG j.2.1 hr hc hv k3 hx⟩)
            | (have hx : corV (eH h (G + 1) n) (lab c) = brk (eH h (G + 1) n) (lab c) (mx c n) rest := by rw [brk, if_pos ((is2 hr).mp c_31)]
               exact ⟨by rw [hset_ne (by omega), hset_same, upd_eq]; exact hx, fun q a b d => by rw [hset_ne b, hset_ne d]; exact k2 q a, g2.keep (fun q a b => by rw [hset_ne (by omega), hset_ne (by omega)]), VC_new hVG j.2.1 hr hc hv k2 hx⟩)
            | (have hx : staV (eH h (G + 1) n) (lab c) = brk (eH h (G + 1) n) (lab c) (mx c n) rest := by rw [brk, if_neg (fun e => c_31 ((is2 hr).mpr e)), if_neg (fun e => by first | exact c_51 ((is1 hr).mpr e.1) | exact c_58 e.2)]
               exact ⟨by rw [hset_ne (by omega), hset_same, upd_eq]; exact hx, fun q a b d => by rw [hset_ne b, hset_ne d]; exact k2 q a, g2.keep (fun q a b => by rw [hset_ne (by omega), hset_ne (by omega)]), VC_new hVG j.2.1 hr hc hv k2 hx⟩)
      · refine r_iload rfl dX7_firstBreaker_54 ?_
        refine r_bipush (v := (-6 : Int32)) (by decide) dX7_firstBreaker_56 ?_
        refine r_icmp_ne 68 dX7_firstBreaker_58 (by decide) (fun c_58 => ?_) (fun c_58 => ?_)
        · refine r_aload_n rfl dX7_firstBreaker_68 ?_
          refine r_getR foX7_15 hV.1 rfl dX7_firstBreaker_69 ?_
          refine r_iload rfl dX7_firstBreaker_72 ?_
          refine r_iload rfl dX7_firstBreaker_74 ?_
          refine r_ias hV.2.2 rfl (by omega) (by decide) dX7_firstBreaker_76 ?_
          refine r_aload_n rfl dX7_firstBreaker_77 ?_
          refine r_getR foX7_9 hV.1 rfl dX7_firstBreaker_78 ?_
          refine r_iload rfl dX7_firstBreaker_81 ?_
          refine r_aload_n rfl dX7_firstBreaker_83 ?_
          refine r_getR foX7_24 hJ.1 rfl dX7_firstBreaker_84 ?_
          refine r_getI foX7_30 hJ.2.1.2.1.1 rfl dX7_firstBreaker_87 ?_
          refine r_ias hV.2.1 rfl (by omega) (by decide) dX7_firstBreaker_90 ?_
          refine r_aload_n rfl dX7_firstBreaker_91 ?_
          refine r_getR foX7_15 hV.1 rfl dX7_firstBreaker_92 ?_
          refine r_iload rfl dX7_firstBreaker_95 ?_
          refine r_ild hV.2.2 rfl (by omega) (by decide) dX7_firstBreaker_97 ?_
          refine ret_i dX7_firstBreaker_98 rfl ?_
          first
            | exact ⟨hv.val hr hc c_26, fun _ _ _ _ => rfl, j.2.2.2.2, hv⟩
            | exact absurd ((is1 hr).mp c_51) (by have := (is2 hr).mp c_31; omega)
            | first
              | (have hx : joiV (eH h (G + 1) n) (lab c) (mx c n) = brk (eH h (G + 1) n) (lab c) (mx c n) rest := by rw [brk, if_neg (fun e => c_31 ((is2 hr).mpr e)), if_pos ⟨(is1 hr).mp c_51, c_58⟩]
                 exact ⟨by rw [hset_ne (by omega), hset_same, upd_eq]; exact hx, fun q a b d => by rw [hset_ne b, hset_ne d]; exact k3 q a, g3.keep (fun q a b => by rw [hset_ne (by omega), hset_ne (by omega)]), VC_new hVG j.2.1 hr hc hv k3 hx⟩)
              | (have hx : corV (eH h (G + 1) n) (lab c) = brk (eH h (G + 1) n) (lab c) (mx c n) rest := by rw [brk, if_pos ((is2 hr).mp c_31)]
                 exact ⟨by rw [hset_ne (by omega), hset_same, upd_eq]; exact hx, fun q a b d => by rw [hset_ne b, hset_ne d]; exact k2 q a, g2.keep (fun q a b => by rw [hset_ne (by omega), hset_ne (by omega)]), VC_new hVG j.2.1 hr hc hv k2 hx⟩)
              | (have hx : staV (eH h (G + 1) n) (lab c) = brk (eH h (G + 1) n) (lab c) (mx c n) rest := by rw [brk, if_neg (fun e => c_31 ((is2 hr).mpr e)), if_neg (fun e => by first | exact c_51 ((is1 hr).mpr e.1) | exact c_58 e.2)]
                 exact ⟨by rw [hset_ne (by omega), hset_same, upd_eq]; exact hx, fun q a b d => by rw [hset_ne b, hset_ne d]; exact k2 q a, g2.keep (fun q a b => by rw [hset_ne (by omega), hset_ne (by omega)]), VC_new hVG j.2.1 hr hc hv k2 hx⟩)
        · refine r_aload_n rfl dX7_firstBreaker_61 ?_
          refine r_aload_n rfl dX7_firstBreaker_62 ?_
          refine r_cV1i (T := TX2) (N := 3) moX2_joinBreaker lkX7_43 hJ.1 rfl (Nat.le_of_ble_eq_true rfl) ⟨by decide, by decide⟩ (Nat.le_of_ble_eq_true rfl) dX7_firstBreaker_63 rfl (c_joinBreaker hJ hP hd (k2.JI j g2) hc (k2.PS hd hs)) (fun v5 h5 q5 => ?_)
          obtain ⟨e3, kz, g3⟩ := q5
          have k3 := k2.trans kz
          rw [k2.eH] at e3
          subst e3
          refine r_ist5 rfl (by decide) dX7_firstBreaker_66 ?_
          refine r_aload_n rfl dX7_firstBreaker_68 ?_
          refine r_getR foX7_15 hV.1 rfl dX7_firstBreaker_69 ?_
          refine r_iload rfl dX7_firstBreaker_72 ?_
          refine r_iload rfl dX7_firstBreaker_74 ?_
          refine r_ias hV.2.2 rfl (by omega) (by decide) dX7_firstBreaker_76 ?_
          refine r_aload_n rfl dX7_firstBreaker_77 ?_
          refine r_getR foX7_9 hV.1 rfl dX7_firstBreaker_78 ?_
          refine r_iload rfl dX7_firstBreaker_81 ?_
          refine r_aload_n rfl dX7_firstBreaker_83 ?_
          refine r_getR foX7_24 hJ.1 rfl dX7_firstBreaker_84 ?_
          refine r_getI foX7_30 hJ.2.1.2.1.1 rfl dX7_firstBreaker_87 ?_
          refine r_ias hV.2.1 rfl (by omega) (by decide) dX7_firstBreaker_90 ?_
          refine r_aload_n rfl dX7_firstBreaker_91 ?_
          refine r_getR foX7_15 hV.1 rfl dX7_firstBreaker_92 ?_
          refine r_iload rfl dX7_firstBreaker_95 ?_
          refine r_ild hV.2.2 rfl (by omega) (by decide) dX7_firstBreaker_97 ?_
          refine ret_i dX7_firstBreaker_98 rfl ?_
          first
            | exact ⟨hv.val hr hc c_26, fun _ _ _ _ => rfl, j.2.2.2.2, hv⟩
            | exact absurd ((is1 hr).mp c_51) (by have := (is2 hr).mp c_31; omega)
            | first
              | (have hx : joiV (eH h (G + 1) n) (lab c) (mx c n) = brk (eH h (G + 1) n) (lab c) (mx c n) rest := by rw [brk, if_neg (fun e => c_31 ((is2 hr).mpr e)), if_pos ⟨(is1 hr).mp c_51, c_58⟩]
                 exact ⟨by rw [hset_ne (by omega), hset_same, upd_eq]; exact hx, fun q a b d => by rw [hset_ne b, hset_ne d]; exact k3 q a, g3.keep (fun q a b => by rw [hset_ne (by omega), hset_ne (by omega)]), VC_new hVG j.2.1 hr hc hv k3 hx⟩)
              | (have hx : corV (eH h (G + 1) n) (lab c) = brk (eH h (G + 1) n) (lab c) (mx c n) rest := by rw [brk, if_pos ((is2 hr).mp c_31)]
                 exact ⟨by rw [hset_ne (by omega), hset_same, upd_eq]; exact hx, fun q a b d => by rw [hset_ne b, hset_ne d]; exact k2 q a, g2.keep (fun q a b => by rw [hset_ne (by omega), hset_ne (by omega)]), VC_new hVG j.2.1 hr hc hv k2 hx⟩)
              | (have hx : staV (eH h (G + 1) n) (lab c) = brk (eH h (G + 1) n) (lab c) (mx c n) rest := by rw [brk, if_neg (fun e => c_31 ((is2 hr).mpr e)), if_neg (fun e => by first | exact c_51 ((is1 hr).mpr e.1) | exact c_58 e.2)]
                 exact ⟨by rw [hset_ne (by omega), hset_same, upd_eq]; exact hx, fun q a b d => by rw [hset_ne b, hset_ne d]; exact k2 q a, g2.keep (fun q a b => by rw [hset_ne (by omega), hset_ne (by omega)]), VC_new hVG j.2.1 hr hc hv k2 hx⟩)

