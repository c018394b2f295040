theorem F4.keep {E : Ec} {r : Nat → Int32} {h1 h2 : Hp} {j : Nat} (h : F4 E r h1 j) (hk : ∀ q, 69 ≤ q → q ≤ 72 → h2 q = h1 q) : F4 E r h2 j := by
  obtain ⟨a, b, c, d⟩ := h
  exact ⟨by rw [hk _ (by omega) (by omega)]; exact a, by rw [hk _ (by omega) (by omega)]; exact b, by rw [hk _ (by omega) (by omega)]; exact c, by rw [hk _ (by omega) (by omega)]; exact d⟩
theorem take_eq {E : Ec} {r tk : Nat → Int32} {k : Nat} (hk : k < eN E) (ht : ∀ l, l < eN E → tk l = tkO E r l) : (if eSh E = 0 then tk k else shO E tk r (r k) k) = takS E r k := by
  rw [takS, ht k hk, shO_pat (EcEq.refl E) (Pat.refl _ r) hk ht]

set_option maxRecDepth 100000 in
set_option maxHeartbeats 400000 in
theorem m_findGoods {g : GG} {A n : Nat} {h : Hp} (hA : shl[A]? = some (.inl 6)) (hAd : A < 68 ∨ 73 < A) (hn : n ≤ 6) (h0 : h 62 1 = nI n) (hE : EOK (eM h n)) : R g mX9_findGoods 0 [some (.ref (ad g 62)), some (.ref (ad g A)), none, none, none, none] [] h (Rv fun h' => K68 h h' ∧ ∀ j, j < n → h' 68 j = goodS (eM h n) (h A) j ∧ F4 (eM h n) (h A) h' j ∧ h' 73 j = takS (eM h n) (h A) j) := by
  have loop3 : ∀ (v l : Nat) (hh : Hp) (z y x : Option Value), l ≤ n → n < l + v → K68 h hh → (∀ j, j < n → F4 (eM h n) (h A) hh j) → (∀ j, j < n → hh 73 j = takS (eM h n) (h A) j) → (∀ j, j < n → hh 68 j = gdF (eM h n) (h A) j l) → R g mX9_findGoods 252 [some (.ref (ad g 62)), some (.ref (ad g A)), some (.int (nI l)), z, y, x] [] hh (Rv fun h' => K68 h h' ∧ ∀ j, j < n → h' 68 j = goodS (eM h n) (h A) j ∧ F4 (eM h n) (h A) h' j ∧ h' 73 j = takS (eM h n) (h A) j) := by
    intro v
    induction v with
    | zero => intro l hh z y x a b; omega
    | succ v ih =>
      intro l hh z y x a b k1 F1 T1 G1
      refine r_iload_n rfl dX9_findGoods_252 ?_
      refine r_aload_n rfl dX9_findGoods_253 ?_
      refine r_getI foX9_55 rfl rfl dX9_findGoods_254 ?_
      rw [k1 62 (by omega), h0]
      refine r_icmp_ge 304 dX9_findGoods_257 (by decide) (fun c_257 => ?_) (fun c_257 => ?_)
      · refine ret_v dX9_findGoods_304 rfl ?_
        have e : l = n := by have := ge_y (by omega) (by omega) c_257; omega
        subst e
        exact ⟨k1, fun j hj => ⟨G1 j hj, F1 j hj, T1 j hj⟩⟩
      · have hlk : l < n := ge_n (by omega) c_257
        have hse : sS (eM h n) (h A) l < n := sS_lt (E := eM h n) hlk
        refine r_aload_n rfl dX9_findGoods_260 ?_
        refine r_getR foX9_25 rfl rfl dX9_findGoods_261 ?_
        refine r_aload_n rfl dX9_findGoods_264 ?_
        refine r_getR foX9_34 rfl rfl dX9_findGoods_265 ?_
        refine r_iload_n rfl dX9_findGoods_268 ?_
        refine r_ild rfl rfl (by omega) (by decide) dX9_findGoods_269 ?_
        rw [(F1 l hlk).2.2.1]
        refine r_dup2 rfl rfl dX9_findGoods_270 ?_
        refine r_ild rfl rfl (by omega) (by decide) dX9_findGoods_271 ?_
        rw [G1 _ hse]
        refine r_iconst (v := (2 : Int32)) (by decide) dX9_findGoods_272 ?_
        refine r_aload_n rfl dX9_findGoods_273 ?_
        refine r_getR foX9_7 rfl rfl dX9_findGoods_274 ?_
        refine r_iconst (v := (4 : Int32)) (by decide) dX9_findGoods_277 ?_
        refine r_aload_n rfl dX9_findGoods_278 ?_
        refine r_getR foX9_34 rfl rfl dX9_findGoods_279 ?_
        refine r_iload_n rfl dX9_findGoods_282 ?_
        refine r_ild rfl rfl (by omega) (by decide) dX9_findGoods_283 ?_
        rw [(F1 l hlk).2.2.1]
        refine r_imul dX9_findGoods_284 ?_
        refine r_iconst (v := nI 2) (by decide) dX9_findGoods_285 ?_
        refine r_iadd dX9_findGoods_286 ?_
        rw [ix4]
        refine r_ild rfl rfl (by omega) (by decide) dX9_findGoods_287 ?_
        rw [k1 63 (by omega), show h 63 (4 * sS (eM h n) (h A) l + 2) = eG (eM h n) (sS (eM h n) (h A) l) from rfl]
        refine r_imul dX9_findGoods_288 ?_
        refine r_aload_n rfl dX9_findGoods_289 ?_
        refine r_getR foX9_31 rfl rfl dX9_findGoods_290 ?_
        refine r_iload_n rfl dX9_findGoods_293 ?_
        refine r_ild rfl rfl (by omega) (by decide) dX9_findGoods_294 ?_
        rw [(F1 l hlk).2.1]
        refine r_imul dX9_findGoods_295 ?_
        refine r_iadd dX9_findGoods_296 ?_
        refine r_ias rfl rfl (by omega) (by decide) dX9_findGoods_297 ?_
        first | refine r_incN2 rfl (by decide) dX9_findGoods_298 ?_ | refine r_incP2 rfl (by decide) dX9_findGoods_298 ?_
        refine r_goto 252 dX9_findGoods_301 (by decide) ?_
        refine ih (l + 1) _ _ _ _ (by omega) (by omega) (k1.set (by omega)) (fun j hj => (F1 j hj).keep (fun q a b => hset_ne (by omega))) (fun j hj => by rw [hset_ne (by omega)]; exact T1 j hj) (fun j hj => ?_)
        rw [hset_same, gdF]
        by_cases e : j = sS (eM h n) (h A) l
        · subst e; rw [upd_eq, if_pos rfl]
        · rw [upd_ne e, if_neg (fun q => e q.symm)]; exact G1 j hj
  have loop2 : ∀ (v l : Nat) (hh : Hp) (z y x : Option Value), l ≤ n → n < l + v → K68 h hh → (∀ j, j < n → F4 (eM h n) (h A) hh j) → (∀ j, j < l → hh 73 j = takS (eM h n) (h A) j ∧ hh 68 j = bS (eM h n) (h A) j * bS (eM h n) (h A) j + 2 * takS (eM h n) (h A) j) → R g mX9_findGoods 196 [some (.ref (ad g 62)), some (.ref (ad g A)), some (.int (nI l)), z, y, x] [] hh (Rv fun h' => K68 h h' ∧ ∀ j, j < n → h' 68 j = goodS (eM h n) (h A) j ∧ F4 (eM h n) (h A) h' j ∧ h' 73 j = takS (eM h n) (h A) j) := by
    intro v
    induction v with
    | zero => intro l hh z y x a b; omega
    | succ v ih =>
      intro l hh z y x a b k1 F1 P1
      refine r_iload_n rfl dX9_findGoods_196 ?_
      refine r_aload_n rfl dX9_findGoods_197 ?_
      refine r_getI foX9_55 rfl rfl dX9_findGoods_198 ?_
      rw [k1 62 (by omega), h0]
      refine r_icmp_ge 250 dX9_findGoods_201 (by decide) (fun c_201 => ?_) (fun c_201 => ?_)
      · have e : l = n := by have := ge_y (by omega) (by omega) c_201; omega
        subst e
        refine r_iconst (v := nI 0) (by decide) dX9_findGoods_250 ?_
        refine r_ist2 rfl (by decide) dX9_findGoods_251 ?_
        exact loop3 (l + 1) 0 _ _ _ _ (by omega) (by omega) k1 F1 (fun j hj => (P1 j hj).1) (fun j hj => (P1 j hj).2)
      · have hlk : l < n := ge_n (by omega) c_201
        refine r_aload_n rfl dX9_findGoods_204 ?_
        refine r_getR foX9_40 rfl rfl dX9_findGoods_205 ?_
        refine r_iload_n rfl dX9_findGoods_208 ?_
        refine r_aload_n rfl dX9_findGoods_209 ?_
        refine r_aload_n rfl dX9_findGoods_210 ?_
        refine r_iload_n rfl dX9_findGoods_211 ?_
        refine r_cV2i (T := TX9) (N := 21) moX9_shareOf lkX9_112 rfl rfl (Nat.le_of_ble_eq_true rfl) ⟨by decide, by decide⟩ (Nat.le_of_ble_eq_true rfl) dX9_findGoods_212 rfl (m_shareOf hA hn (by rw [k1 62 (by omega)]; exact h0) hlk (by rw [k1.eM]; exact fun q hq => (hE.2.1 q hq).1)) (fun v21 h21 q21 => ?_)
        obtain ⟨e21, f21⟩ := q21
        rw [k1.eM, k1 A (by omega), k1 62 (by omega), show (if h 62 3 = 0 then hh 72 l else shO (eM h n) (hh 72) (h A) (h A l) l) = takS (eM h n) (h A) l from take_eq (E := eM h n) hlk (fun j hj => (F1 j hj).2.2.2)] at f21
        subst f21
        rw [e21]
        refine r_ias rfl rfl (by omega) (by decide) dX9_findGoods_215 ?_
        refine r_aload_n rfl dX9_findGoods_216 ?_
        refine r_getR foX9_25 rfl rfl dX9_findGoods_217 ?_
        refine r_iload_n rfl dX9_findGoods_220 ?_
        refine r_aload_n rfl dX9_findGoods_221 ?_
        refine r_getR foX9_31 rfl rfl dX9_findGoods_222 ?_
        refine r_iload_n rfl dX9_findGoods_225 ?_
        refine r_ild rfl rfl (by omega) (by decide) dX9_findGoods_226 ?_
        rw [hset_ne (by omega), (F1 l hlk).2.1]
        refine r_aload_n rfl dX9_findGoods_227 ?_
        refine r_getR foX9_31 rfl rfl dX9_findGoods_228 ?_
        refine r_iload_n rfl dX9_findGoods_231 ?_
        refine r_ild rfl rfl (by omega) (by decide) dX9_findGoods_232 ?_
        rw [hset_ne (by omega), (F1 l hlk).2.1]
        refine r_imul dX9_findGoods_233 ?_
        refine r_iconst (v := (2 : Int32)) (by decide) dX9_findGoods_234 ?_
        refine r_aload_n rfl dX9_findGoods_235 ?_
        refine r_getR foX9_40 rfl rfl dX9_findGoods_236 ?_
        refine r_iload_n rfl dX9_findGoods_239 ?_
        refine r_ild rfl rfl (by omega) (by decide) dX9_findGoods_240 ?_
        rw [hset_same, upd_eq]
        refine r_imul dX9_findGoods_241 ?_
        refine r_iadd dX9_findGoods_242 ?_
        refine r_ias rfl rfl (by omega) (by decide) dX9_findGoods_243 ?_
        first | refine r_incN2 rfl (by decide) dX9_findGoods_244 ?_ | refine r_incP2 rfl (by decide) dX9_findGoods_244 ?_
        refine r_goto 196 dX9_findGoods_247 (by decide) ?_
        refine ih (l + 1) _ _ _ _ (by omega) (by omega) ((k1.set (by omega)).set (by omega)) (fun j hj => ((F1 j hj).keep (fun q a b => hset_ne (by omega))).keep (fun q a b => hset_ne (by omega))) (fun j hj => ?_)
        by_cases e : j = l
        · subst e
          exact ⟨by rw [hset_ne (by omega), hset_same, upd_eq], by rw [hset_same, upd_eq]⟩
        · exact ⟨by rw [hset_ne (by omega), hset_same, upd_ne e]; exact (P1 j (by omega)).1, by rw [hset_same, upd_ne e, hset_ne (by omega)]; exact (P1 j (by omega)).2⟩
  have fin : ∀ (hh : Hp) (z y x : Option Value), K68 h hh → (∀ j, j < n → F4 (eM h n) (h A) hh j) → R g mX9_findGoods 194 [some (.ref (ad g 62)), some (.ref (ad g A)), some (.int (nI n)), z, y, x] [] hh (Rv fun h' => K68 h h' ∧ ∀ j, j < n → h' 68 j = goodS (eM h n) (h A) j ∧ F4 (eM h n) (h A) h' j ∧ h' 73 j = takS (eM h n) (h A) j) := by
    intro hh z y x k1 F1
    refine r_iconst (v := nI 0) (by decide) dX9_findGoods_194 ?_
    refine r_ist2 rfl (by decide) dX9_findGoods_195 ?_
    exact loop2 (n + 1) 0 _ _ _ _ (by omega) (by omega) k1 F1 (fun j hj => by omega)
  refine r_iconst (v := nI 0) (by decide) dX9_findGoods_0 ?_
  refine r_ist2 rfl (by decide) dX9_findGoods_1 ?_
  exact fg_first hA hAd hn h0 hE fin (n + 1) 0 _ _ _ _ (by omega) (by omega) (fun _ _ => rfl) (fun j hj => by omega)

