set_option maxHeartbeats 4000000 in
set_option maxRecDepth 100000 in
theorem whole_start0 (hNL : ∀ E n, EOK E → eN E = n → noLong E n) {p : Program} {e : Env} {s : State} {m : MethodId} {below : List Frame} {meth : Method} {c : Code} (l : Launch) {b L : Nat} {xs : Nat → Int32} (hL : L ≤ 2560) (C0 : lw_At p s m meth c b L xs) : W p l e room_1 s m #[Value.ref b] below meth c s.heap [] 0 0 (lw_Z below #[Value.ref b] s) (entryFrame m ([Value.ref b] : List Value).toArray 4) := by
  obtain ⟨hx, hb, hr, hml, hown, hts, hX, hbl, hlocks, hgv⟩ := id C0
  have hown : s.vm.findClass RL = some m.cls := hown
  have hg : ∀ w ∈ lw_g, w.before #[Value.ref b] s = true := fun w hw => hts w (lw_g_in w hw)
  have hA : ∀ q : Nat, s.heap.size ≤ q → (fun q : Nat => s.heap.size ≤ q) q := fun _ h => h
  have hbA : ¬ (fun q : Nat => s.heap.size ≤ q) b := Nat.not_le.mpr hbl
  have hN : NW s := fun q hq => va_Nw.of rfl (hts _ (tNl q hq))
  obtain ⟨c0, i0, hKn0⟩ := u_known (C := RX0) (T := TX0) (N := 4) (n := 4) hts inX0 (hg _ wnX0)
  obtain ⟨c1, i1, hKn1⟩ := u_known (C := RX1) (T := TX1) (N := 7) (n := 7) hts inX1 (hg _ wnX1)
  obtain ⟨c2, i2, hKn2⟩ := u_known (C := RX2) (T := TX2) (N := 3) (n := 3) hts inX2 (hg _ wnX2)
  obtain ⟨c3, i3, hKn3⟩ := u_known (C := RX3) (T := TX3) (N := 8) (n := 8) hts inX3 (hg _ wnX3)
  obtain ⟨c4, i4, hKn4⟩ := u_known (C := RX4) (T := TX4) (N := 6) (n := 6) hts inX4 (hg _ wnX4)
  obtain ⟨c5, i5, hKn5⟩ := u_known (C := RX5) (T := TX5) (N := 2) (n := 2) hts inX5 (hg _ wnX5)
  obtain ⟨c6, i6, hKn6⟩ := u_known (C := RX6) (T := TX6) (N := 4) (n := 4) hts inX6 (hg _ wnX6)
  obtain ⟨c7, i7, hKn7⟩ := u_known (C := RX7) (T := TX7) (N := 2) (n := 2) hts inX7 (hg _ wnX7)
  obtain ⟨c8, i8, hKn8⟩ := u_known (C := RX8) (T := TX8) (N := 10) (n := 10) hts inX8 (hg _ wnX8)
  obtain ⟨c9, i9, hKn9⟩ := u_known (C := RX9) (T := TX9) (N := 21) (n := 21) hts inX9 (hg _ wnX9)
  obtain ⟨D, hKc⟩ : ∃ (D : va_G), ∀ (k : Nat) (q : vw_C), vwCl[k]? = some q → u_Kn s q.1 q.2.1 q.2.2 (D.1 k) (D.2 k) := by
    refine ⟨(fun k => [c0, c1, c2, c3, c4, c5, c6, c7, c8, c9].getD k c0, fun k => [i0, i1, i2, i3, i4, i5, i6, i7, i8, i9].getD k i0), ?_⟩
    intro k q hq
    match k, hq with
    | 0, hq => cases hq; exact hKn0
    | 1, hq => cases hq; exact hKn1
    | 2, hq => cases hq; exact hKn2
    | 3, hq => cases hq; exact hKn3
    | 4, hq => cases hq; exact hKn4
    | 5, hq => cases hq; exact hKn5
    | 6, hq => cases hq; exact hKn6
    | 7, hq => cases hq; exact hKn7
    | 8, hq => cases hq; exact hKn8
    | 9, hq => cases hq; exact hKn9
    | k + 10, hq => simp [vwCl] at hq
  obtain ⟨ac, kA, comp, ha1, ha2, ha3⟩ := Cond.arrayClass_spec (hg _ wAI)
  have hK : va_K D vwCl [(ac, .int)] s := ⟨hKc, fun k q h => by
    match k, h with
    | 0, h => cases h; exact ⟨fun n z => ⟨fun k h => (by cases h), kA, ha2, comp, ha3⟩, ha1⟩
    | k + 1, h => simp at h⟩
  have hAs : ∀ a : Nat, a < s.heap.size → ¬ (fun q : Nat => s.heap.size ≤ q) a := fun a h => Nat.not_le.mpr h
  obtain ⟨tP, eP, hTP⟩ := st_bell (A := fun q : Nat => s.heap.size ≤ q) hgv hAs
  obtain ⟨tW, eW, hTW⟩ := st_way (A := fun q : Nat => s.heap.size ≤ q) hgv hAs
  have hZP := va_Zof (A := fun q : Nat => s.heap.size ≤ q) (hts _ tPar) (hg _ wzX8) eP hAs
  have hZW := va_Zof (A := fun q : Nat => s.heap.size ≤ q) (hts _ tWay) (hg _ wzX8) eW hAs
  have hNe : va_Nw wNest s := va_Nw.of rfl (hts _ tNest)
  have hTX : va_T .int b L (fun j => .int (xs j)) (fun q : Nat => s.heap.size ≤ q) s s.heap := by
    obtain ⟨scr, x1, x2, x3, x4, x5⟩ := hX
    exact ⟨scr, x1, x2, x3, by omega, by rw [x4], x5, hbA⟩
  have hS : va_S (fun q : Nat => s.heap.size ≤ q) s.heap s.heap [] := va_S.rf
  have hP : va_P D vwCl [] s.heap := fun k q h => by simp at h
  have hD : va_D (fun q : Nat => s.heap.size ≤ q) [] := ⟨fun i j p q h => by simp at h, fun k q h => by simp at h⟩
  have hl := lv_entry ([.ref b]) (n := 4) (Nat.le_of_ble_eq_true rfl)
  rw [lg_entry_eq]
  generalize (lg_sl ([.ref b]) ++ List.replicate (4 - (lg_sl ([.ref b])).length) Slot.unset).toArray = ls at hl ⊢
  have hl : lv_has ls 4 [(0, .ref b)] := hl
  refine va_new (ci := 8) (fs := [.null, .null, .null, .null, .null, .null, .null, .null, .null, .null]) (C := RX8) (T := TX8) (N := 10) hx hb hg gwX8 tyX8 tyX8_ok hown (hg _ wcL_7) (hg _ wnX8) (hg _ wzX8) hK hP hD hS hA rfl (fun j hj => by rcases (show j = 0 ∨ j = 1 ∨ j = 2 ∨ j = 3 ∨ j = 4 ∨ j = 5 ∨ j = 6 ∨ j = 7 ∨ j = 8 ∨ j = 9 by omega) with rfl | rfl | rfl | rfl | rfl | rfl | rfl | rfl | rfl | rfl <;> rfl) (Nat.le_of_ble_eq_true rfl) (Nat.le_of_ble_eq_true rfl) dL_law_0 (fun q8 H hP hD hS => ?_)
  have hP : va_P D vwCl [(q8, .inr (8, [.null, .null, .null, .null, .null, .null, .null, .null, .null, .null]))] H := hP
  have hD : va_D (fun q : Nat => s.heap.size ≤ q) [(q8, .inr (8, [.null, .null, .null, .null, .null, .null, .null, .null, .null, .null]))] := hD
  refine W.widen (k := 1) (n := 10) (by omega) (by omega) ?_
  refine lv_dup hx hb dL_law_3 rfl ?_
  have hPc := hP.sub (ws' := [(q8, .inr (8, [.null, .null, .null, .null, .null, .null, .null, .null, .null, .null]))]) [0] rfl
  have hDc := hD.sub (ws' := [(q8, .inr (8, [.null, .null, .null, .null, .null, .null, .null, .null, .null, .null]))]) [0] (by decide) rfl
  have hFc := va_free (wc := [(q8, .inr (8, [.null, .null, .null, .null, .null, .null, .null, .null, .null, .null]))]) hD hS hA [0] rfl
  refine va_callv (va_runI (As := []) (rest := [.ref q8]) ⟨hx, hb, hml, hown, hg⟩ (n_X8 l D ac q8 H.size) (cwI 0 hg (gGood moX8_init) rfl rfl rfl (hg _ wzX8) (hg _ wmL_9) (hg _ wiX8) rfl moX8_init.2.2.2.2 ⟨Nat.le_of_ble_eq_true rfl, Nat.le_of_ble_eq_true rfl⟩) ⟨fun a U g mk q => by obtain ⟨q0, q1, qP, qK, qD, qN⟩ := q; exact ⟨q0, q1, qP, va_K.moved (u := U) (U := U.calling g mk a) (Vm.Alike.refl U.vm) qK, qD, NW.blind a g mk qN⟩, fun U hU hW => ⟨rfl, by rw [hU], by rw [hU]; exact hPc, va_K.moved hW.alike hK, hDc.weaken (fun _ _ _ _ => trivial), NW.warm hW hN⟩⟩ rfl rfl hl.1 rfl (lv_room (Nat.le_of_ble_eq_true rfl)) dL_law_4 ⟨Nat.le_of_ble_eq_true rfl, Nat.le_of_ble_eq_true rfl⟩) hS (fun q _ h => hFc q h) hFc (fun a8 t H1 locs ht hvm hw hB hz1 hk1 hS => ?_)
  obtain ⟨hP1, hD1⟩ := hB
  rw [ht] at hP1
  have hw : a8 0 = q8 := hw
  subst hw
  obtain ⟨hP, hD⟩ := va_join (wr := []) (w1 := wX8 ac a8) hP hD [0] [] rfl rfl (by decide) (by decide) hk1 hFc hP1 hD1
  generalize H1 = H at hP hS ⊢
  have hP : va_P D vwCl (wX8 ac a8) H := hP
  have hD : va_D (fun q : Nat => s.heap.size ≤ q) (wX8 ac a8) := hD
  refine W.widen (k := 62) (n := 4886) (by omega) (by omega) ?_
  refine lv_astore_n (lv' := [(1, .ref (a8 0)), (0, .ref b)]) hx hb dL_law_7 rfl hl (by decide) rfl (fun ls hl => ?_)
  refine va_new (ci := 9) (fs := [.null, .int 0, .int 0, .int 0, .null, .null, .null, .int 0, .null, .null, .null, .null, .null, .null, .null, .null, .null, .null, .null, .int 0, .int 0]) (C := RX9) (T := TX9) (N := 21) hx hb hg gwX9 tyX9 tyX9_ok hown (hg _ wcL_10) (hg _ wnX9) (hg _ wzX9) hK hP hD hS hA rfl (fun j hj => by rcases (show j = 0 ∨ j = 1 ∨ j = 2 ∨ j = 3 ∨ j = 4 ∨ j = 5 ∨ j = 6 ∨ j = 7 ∨ j = 8 ∨ j = 9 ∨ j = 10 ∨ j = 11 ∨ j = 12 ∨ j = 13 ∨ j = 14 ∨ j = 15 ∨ j = 16 ∨ j = 17 ∨ j = 18 ∨ j = 19 ∨ j = 20 by omega) with rfl | rfl | rfl | rfl | rfl | rfl | rfl | rfl | rfl | rfl | rfl | rfl | rfl | rfl | rfl | rfl | rfl | rfl | rfl | rfl | rfl <;> rfl) (Nat.le_of_ble_eq_true rfl) (Nat.le_of_ble_eq_true rfl) dL_law_8 (fun q9 H hP hD hS => ?_)
  refine W.widen (k := 63) (n := 4907) (by omega) (by omega) ?_
  refine lv_dup hx hb dL_law_11 rfl ?_
  have hPc := hP.sub (ws' := [(q9, .inr (9, [.null, .int 0, .int 0, .int 0, .null, .null, .null, .int 0, .null, .null, .null, .null, .null, .null, .null, .null, .null, .null, .null, .int 0, .int 0]))]) [62] rfl
  have hDc := hD.sub (ws' := [(q9, .inr (9, [.null, .int 0, .int 0, .int 0, .null, .null, .null, .int 0, .null, .null, .null, .null, .null, .null, .null, .null, .null, .null, .null, .int 0, .int 0]))]) [62] (by decide) rfl
  have hFc := va_free (wc := [(q9, .inr (9, [.null, .int 0, .int 0, .int 0, .null, .null, .null, .int 0, .null, .null, .null, .null, .null, .null, .null, .null, .null, .null, .null, .int 0, .int 0]))]) hD hS hA [62] rfl
  refine va_callv (va_runI (As := []) (rest := [.ref q9]) ⟨hx, hb, hml, hown, hg⟩ (n_X9 l D ac q9 H.size) (cwI 0 hg (gGood moX9_init) rfl rfl rfl (hg _ wzX9) (hg _ wmL_12) (hg _ wiX9) rfl moX9_init.2.2.2.2 ⟨Nat.le_of_ble_eq_true rfl, Nat.le_of_ble_eq_true rfl⟩) ⟨fun a U g mk q => by obtain ⟨q0, q1, qP, qK, qD, qN⟩ := q; exact ⟨q0, q1, qP, va_K.moved (u := U) (U := U.calling g mk a) (Vm.Alike.refl U.vm) qK, qD, NW.blind a g mk qN⟩, fun U hU hW => ⟨rfl, by rw [hU], by rw [hU]; exact hPc, va_K.moved hW.alike hK, hDc.weaken (fun _ _ _ _ => trivial), NW.warm hW hN⟩⟩ rfl rfl hl.1 rfl (lv_room (Nat.le_of_ble_eq_true rfl)) dL_law_12 ⟨Nat.le_of_ble_eq_true rfl, Nat.le_of_ble_eq_true rfl⟩) hS (fun q _ h => hFc q h) hFc (fun a9 t H1 locs ht hvm hw hB hz1 hk1 hS => ?_)
  obtain ⟨hP1, hD1⟩ := hB
  rw [ht] at hP1
  have hw : a9 0 = q9 := hw
  subst hw
  obtain ⟨hP, hD⟩ := va_join (wr := wX8 ac a8) (w1 := wX9 ac a9) hP hD [62] [0, 1, 2, 3, 4, 5, 6, 7, 8, 9, 10, 11, 12, 13, 14, 15, 16, 17, 18, 19, 20, 21, 22, 23, 24, 25, 26, 27, 28, 29, 30, 31, 32, 33, 34, 35, 36, 37, 38, 39, 40, 41, 42, 43, 44, 45, 46, 47, 48, 49, 50, 51, 52, 53, 54, 55, 56, 57, 58, 59, 60, 61] rfl rfl (by decide) (by decide) hk1 hFc hP1 hD1
  generalize H1 = H at hP hS ⊢
  refine W.widen (k := 78) (n := 5526) (by omega) (by omega) ?_
  refine lv_astore_n (lv' := [(2, .ref (a9 0)), (1, .ref (a8 0)), (0, .ref b)]) hx hb dL_law_15 rfl hl (by decide) rfl (fun ls hl => ?_)
  refine lv_iconst (v := 0) hx hb dL_law_16 (by decide) ?_
  refine lv_istore_n (lv' := [(3, .int 0), (2, .ref (a9 0)), (1, .ref (a8 0)), (0, .ref b)]) hx hb dL_law_17 rfl hl (by decide) rfl (fun ls hl => ?_)
  rw [wl_gg l D ac a8 a9 tP tW b L xs] at hP hD
  obtain ⟨g, eg⟩ : ∃ g, g = gg l D ac a8 a9 tP tW b L xs := ⟨_, rfl⟩
  have hro : ROv g := by rw [eg]; exact ROv_gg
  have hROk : ROk g (fun q : Nat => s.heap.size ≤ q) s s.heap := by
    subst eg
    refine ⟨hZP, hZW, fun k h1 h2 => ?_, hNe⟩
    rcases (show k = 1000 ∨ k = 1001 ∨ k = 1002 by omega) with rfl | rfl | rfl
    · exact hTP
    · exact hTW
    · exact hTX
  have hloop := law_loop (g := g) hNL (by subst eg; exact hL) (roN g 1002 + 1) 0 h00 (Nat.zero_le _) (by omega) (LX_00 hro)
  have hlv : lvr ls 4 [some (.ref (ad g 1002)), some (.ref (ad g 0)), some (.ref (ad g 62)), some (.int (nI 0))] := by
    subst eg
    refine ⟨hl.1, hl.2.1, fun i v hi => ?_⟩
    match i, hi with
    | 0, hi => cases hi; exact lv_at hl 3 rfl
    | 1, hi => cases hi; exact lv_at hl 2 rfl
    | 2, hi => cases hi; exact lv_at hl 1 rfl
    | 3, hi => cases hi; exact lv_at hl 0 rfl
    | i + 4, hi => simp at hi
  have eD : gD g = D := by rw [eg]; rfl
  have eA : gA g = ac := by rw [eg]; rfl
  have eL : gL g = l := by rw [eg]; rfl
  have hcx : Cx g mL_law p room_1 s m #[Value.ref b] meth c 78 5526 (fun q : Nat => s.heap.size ≤ q) := ⟨hx, hb, hml, hown, hg, hr, hlocks, by rw [eD, eA]; exact hK, hROk, ⟨Nat.le_of_ble_eq_true rfl, Nat.le_of_ble_eq_true rfl, Nat.le_of_ble_eq_true rfl, Nat.le_of_ble_eq_true rfl⟩, fun q h => h⟩
  have hwo : Wo g (fun q : Nat => s.heap.size ≤ q) s h00 H locs := by
    subst eg
    exact ⟨hP, hD, hS⟩
  rw [← eL]
  refine hloop p e room_1 s m _ below meth c H locs 78 5526 _ _ ls hcx hwo hlv ?_
  intro r h' H' locs' pc' ls' hq wo hri
  obtain ⟨v, ev, hv⟩ := hq
  subst hv
  refine va_forget (fun q hq => wo.2.2.2.2 q hq) ?_
  rcases hri with ⟨e1, _⟩ | ⟨v, ty, e1, hd, _⟩ | ⟨a, t, e1, _⟩
  · rw [ev] at e1; cases e1
  · rw [ev]
    exact lw_ret hx hb hr hlocks hd
  · rw [ev] at e1; cases e1

