theorem inc5 (i : Nat) : nI i + Int32.ofInt 5 = nI (i + 5) := by rw [show Int32.ofInt 5 = nI 5 by decide, nI_add]
theorem len5 {N i : Nat} (hN : N < 2 ^ 30) (hi : i < 2 ^ 30) (h : ¬ nI N - nI 5 < nI i) : i + 5 ≤ N := by
  rw [Int32.not_lt, Int32.le_iff_toInt_le, pk_sub_toInt hN (by omega), nI_toInt (by omega)] at h
  omega
theorem LXm {g : GG} {h : Hp} {b b' : Nat} (H : LX g h b) (hb : b ≤ b') : LX g h b' := by
  obtain ⟨n, c, m, b2, hj, h2⟩ := H
  exact ⟨n, c, m, b2, hj, by omega⟩
set_option maxRecDepth 100000 in
set_option maxHeartbeats 2000000 in
theorem law_loop {g : GG} (hNL : ∀ E n, EOK E → eN E = n → noLong E n) (hN : roN g 1002 ≤ 2560) : ∀ (z i : Nat) (hh : Hp), i ≤ roN g 1002 → roN g 1002 < i + z → LX g hh (1 + 40 * i) → R g mL_law 18 [some (.ref (ad g 1002)), some (.ref (ad g 0)), some (.ref (ad g 62)), some (.int (nI i))] [] hh (Ri fun v h' => v = 1) := by
  intro z
  induction z with
  | zero => intro i hh a b; omega
  | succ z ih =>
      intro i hh a b hX
      have hX2 := hX
      obtain ⟨n, c, m, b2, ⟨I, J⟩, hb2⟩ := hX2
      refine r_iload_n rfl dL_law_18 ?_
      refine r_aload_n rfl dL_law_19 ?_
      refine r_rolen (by decide) (by decide) dL_law_20 ?_
      refine r_iconst (v := nI 5) (by decide) dL_law_21 ?_
      refine r_isub dL_law_22 ?_
      refine r_icmp_gt 701 dL_law_23 (by decide) (fun c_23 => ?_) (fun c_23 => ?_)
      · refine r_iconst (v := (1 : Int32)) (by decide) dL_law_701 ?_
        exact ret_z dL_law_702 rfl (Or.inr rfl) rfl
      · have hlk : i + 5 ≤ roN g 1002 := len5 (by omega) (by omega) c_23
        refine r_aload_n rfl dL_law_26 ?_
        refine r_iload_n rfl dL_law_27 ?_
        refine r_irn (by decide) (by decide) rfl (by omega) (by omega) dL_law_28 ?_
        refine r_bipush (v := (31 : Int32)) (by decide) dL_law_29 ?_
        refine r_iand dL_law_31 ?_
        by_cases t_0 : (ro g 1002 i &&& 31) = nI 0
        · refine r_tsIn 132 dL_law_32 (by rw [t_0]; decide) (by rw [t_0]; decide) (by rw [t_0]; rfl) (by decide) ?_
          refine r_aload_n rfl dL_law_132 ?_
          refine r_aload_n rfl dL_law_133 ?_
          refine r_iload_n rfl dL_law_134 ?_
          refine r_iconst (v := nI 1) (by decide) dL_law_135 ?_
          refine r_iadd dL_law_136 ?_
          refine r_irn (by decide) (by decide) (nI_add i 1) (by omega) (by omega) dL_law_137 ?_
          refine r_aload_n rfl dL_law_138 ?_
          refine r_iload_n rfl dL_law_139 ?_
          refine r_iconst (v := nI 2) (by decide) dL_law_140 ?_
          refine r_iadd dL_law_141 ?_
          refine r_irn (by decide) (by decide) (nI_add i 2) (by omega) (by omega) dL_law_142 ?_
          refine r_aload_n rfl dL_law_143 ?_
          refine r_iload_n rfl dL_law_144 ?_
          refine r_iconst (v := nI 3) (by decide) dL_law_145 ?_
          refine r_iadd dL_law_146 ?_
          refine r_irn (by decide) (by decide) (nI_add i 3) (by omega) (by omega) dL_law_147 ?_
          refine r_aload_n rfl dL_law_148 ?_
          refine r_iload_n rfl dL_law_149 ?_
          refine r_iconst (v := nI 4) (by decide) dL_law_150 ?_
          refine r_iadd dL_law_151 ?_
          refine r_irn (by decide) (by decide) (nI_add i 4) (by omega) (by omega) dL_law_152 ?_
          refine r_cV4i (T := TX8) (N := 10) moX8_land lkL_13 rfl rfl (Nat.le_of_ble_eq_true rfl) ⟨by decide, by decide⟩ (Nat.le_of_ble_eq_true rfl) dL_law_153 rfl (c_land I (by omega)) (fun v21 h21 q21 => ?_)
          have p1 := q21
          have J1 := J.up (u_land I p1)
          refine r_aload_n rfl dL_law_156 ?_
          refine r_aload_n rfl dL_law_157 ?_
          refine r_iload_n rfl dL_law_158 ?_
          refine r_iconst (v := nI 1) (by decide) dL_law_159 ?_
          refine r_iadd dL_law_160 ?_
          refine r_irn (by decide) (by decide) (nI_add i 1) (by omega) (by omega) dL_law_161 ?_
          refine r_aload_n rfl dL_law_162 ?_
          refine r_iload_n rfl dL_law_163 ?_
          refine r_iconst (v := nI 2) (by decide) dL_law_164 ?_
          refine r_iadd dL_law_165 ?_
          refine r_irn (by decide) (by decide) (nI_add i 2) (by omega) (by omega) dL_law_166 ?_
          refine r_aload_n rfl dL_law_167 ?_
          refine r_iload_n rfl dL_law_168 ?_
          refine r_iconst (v := nI 3) (by decide) dL_law_169 ?_
          refine r_iadd dL_law_170 ?_
          refine r_irn (by decide) (by decide) (nI_add i 3) (by omega) (by omega) dL_law_171 ?_
          refine r_aload_n rfl dL_law_172 ?_
          refine r_iload_n rfl dL_law_173 ?_
          refine r_iconst (v := nI 4) (by decide) dL_law_174 ?_
          refine r_iadd dL_law_175 ?_
          refine r_irn (by decide) (by decide) (nI_add i 4) (by omega) (by omega) dL_law_176 ?_
          refine r_cV4i (T := TX9) (N := 21) moX9_land lkL_17 rfl rfl (Nat.le_of_ble_eq_true rfl) ⟨by decide, by decide⟩ (Nat.le_of_ble_eq_true rfl) dL_law_177 rfl (m_land J1) (fun v22 h22 q22 => ?_)
          obtain ⟨ev, lx⟩ := j_land I J1 p1 q22
          refine r_icmp_eq 695 dL_law_180 (by decide) (fun c_180 => ?_) (fun c_180 => ?_)
          · refine r_inc3 rfl (by decide) rfl dL_law_695 ?_
            refine r_goto 18 dL_law_698 (by decide) ?_
            rw [inc5]
            first
              | (have t9 := ev
                 exact ih (i + 5) _ (by omega) (by omega) (LXm lx (by omega)))
              | exact ih (i + 5) _ (by omega) (by omega) (LXm hX (by omega))
          · refine r_iconst (v := (0 : Int32)) (by decide) dL_law_183 ?_
            exact absurd ev c_180
        ·
          by_cases t_1 : (ro g 1002 i &&& 31) = nI 1
          · refine r_tsIn 185 dL_law_32 (by rw [t_1]; decide) (by rw [t_1]; decide) (by rw [t_1]; rfl) (by decide) ?_
            refine r_aload_n rfl dL_law_185 ?_
            refine r_aload_n rfl dL_law_186 ?_
            refine r_iload_n rfl dL_law_187 ?_
            refine r_iconst (v := nI 1) (by decide) dL_law_188 ?_
            refine r_iadd dL_law_189 ?_
            refine r_irn (by decide) (by decide) (nI_add i 1) (by omega) (by omega) dL_law_190 ?_
            refine r_aload_n rfl dL_law_191 ?_
            refine r_iload_n rfl dL_law_192 ?_
            refine r_iconst (v := nI 2) (by decide) dL_law_193 ?_
            refine r_iadd dL_law_194 ?_
            refine r_irn (by decide) (by decide) (nI_add i 2) (by omega) (by omega) dL_law_195 ?_
            refine r_aload_n rfl dL_law_196 ?_
            refine r_iload_n rfl dL_law_197 ?_
            refine r_iconst (v := nI 3) (by decide) dL_law_198 ?_
            refine r_iadd dL_law_199 ?_
            refine r_irn (by decide) (by decide) (nI_add i 3) (by omega) (by omega) dL_law_200 ?_
            refine r_cV3i (T := TX8) (N := 10) moX8_change lkL_18 rfl rfl (Nat.le_of_ble_eq_true rfl) ⟨by decide, by decide⟩ (Nat.le_of_ble_eq_true rfl) dL_law_201 rfl (c_change I (by omega)) (fun v23 h23 q23 => ?_)
            have p1 := q23
            have J1 := J.up (u_change I p1)
            refine r_aload_n rfl dL_law_204 ?_
            refine r_aload_n rfl dL_law_205 ?_
            refine r_iload_n rfl dL_law_206 ?_
            refine r_iconst (v := nI 1) (by decide) dL_law_207 ?_
            refine r_iadd dL_law_208 ?_
            refine r_irn (by decide) (by decide) (nI_add i 1) (by omega) (by omega) dL_law_209 ?_
            refine r_aload_n rfl dL_law_210 ?_
            refine r_iload_n rfl dL_law_211 ?_
            refine r_iconst (v := nI 2) (by decide) dL_law_212 ?_
            refine r_iadd dL_law_213 ?_
            refine r_irn (by decide) (by decide) (nI_add i 2) (by omega) (by omega) dL_law_214 ?_
            refine r_aload_n rfl dL_law_215 ?_
            refine r_iload_n rfl dL_law_216 ?_
            refine r_iconst (v := nI 3) (by decide) dL_law_217 ?_
            refine r_iadd dL_law_218 ?_
            refine r_irn (by decide) (by decide) (nI_add i 3) (by omega) (by omega) dL_law_219 ?_
            refine r_cV3i (T := TX9) (N := 21) moX9_change lkL_22 rfl rfl (Nat.le_of_ble_eq_true rfl) ⟨by decide, by decide⟩ (Nat.le_of_ble_eq_true rfl) dL_law_220 rfl (m_change J1) (fun v24 h24 q24 => ?_)
            obtain ⟨ev, lx⟩ := j_change I J1 p1 q24
            refine r_icmp_eq 695 dL_law_223 (by decide) (fun c_223 => ?_) (fun c_223 => ?_)
            · refine r_inc3 rfl (by decide) rfl dL_law_695 ?_
              refine r_goto 18 dL_law_698 (by decide) ?_
              rw [inc5]
              first
                | (have t9 := ev
                   exact ih (i + 5) _ (by omega) (by omega) (LXm lx (by omega)))
                | exact ih (i + 5) _ (by omega) (by omega) (LXm hX (by omega))
            · refine r_iconst (v := (0 : Int32)) (by decide) dL_law_226 ?_
              exact absurd ev c_223
          ·
            by_cases t_2 : (ro g 1002 i &&& 31) = nI 2
            · refine r_tsIn 228 dL_law_32 (by rw [t_2]; decide) (by rw [t_2]; decide) (by rw [t_2]; rfl) (by decide) ?_
              refine r_aload_n rfl dL_law_228 ?_
              refine r_aload_n rfl dL_law_229 ?_
              refine r_iload_n rfl dL_law_230 ?_
              refine r_iconst (v := nI 1) (by decide) dL_law_231 ?_
              refine r_iadd dL_law_232 ?_
              refine r_irn (by decide) (by decide) (nI_add i 1) (by omega) (by omega) dL_law_233 ?_
              refine r_aload_n rfl dL_law_234 ?_
              refine r_iload_n rfl dL_law_235 ?_
              refine r_iconst (v := nI 2) (by decide) dL_law_236 ?_
              refine r_iadd dL_law_237 ?_
              refine r_irn (by decide) (by decide) (nI_add i 2) (by omega) (by omega) dL_law_238 ?_
              refine r_cV2i (T := TX8) (N := 10) moX8_set lkL_23 rfl rfl (Nat.le_of_ble_eq_true rfl) ⟨by decide, by decide⟩ (Nat.le_of_ble_eq_true rfl) dL_law_239 rfl (c_set I (by omega)) (fun v25 h25 q25 => ?_)
              have p1 := q25
              have J1 := J.up (u_set I p1)
              refine r_aload_n rfl dL_law_242 ?_
              refine r_aload_n rfl dL_law_243 ?_
              refine r_iload_n rfl dL_law_244 ?_
              refine r_iconst (v := nI 1) (by decide) dL_law_245 ?_
              refine r_iadd dL_law_246 ?_
              refine r_irn (by decide) (by decide) (nI_add i 1) (by omega) (by omega) dL_law_247 ?_
              refine r_aload_n rfl dL_law_248 ?_
              refine r_iload_n rfl dL_law_249 ?_
              refine r_iconst (v := nI 2) (by decide) dL_law_250 ?_
              refine r_iadd dL_law_251 ?_
              refine r_irn (by decide) (by decide) (nI_add i 2) (by omega) (by omega) dL_law_252 ?_
              refine r_cV2i (T := TX9) (N := 21) moX9_set lkL_27 rfl rfl (Nat.le_of_ble_eq_true rfl) ⟨by decide, by decide⟩ (Nat.le_of_ble_eq_true rfl) dL_law_253 rfl (m_set J1) (fun v26 h26 q26 => ?_)
              obtain ⟨ev, lx⟩ := j_set I J1 p1 q26
              refine r_icmp_eq 695 dL_law_256 (by decide) (fun c_256 => ?_) (fun c_256 => ?_)
              · refine r_inc3 rfl (by decide) rfl dL_law_695 ?_
                refine r_goto 18 dL_law_698 (by decide) ?_
                rw [inc5]
                first
                  | (have t9 := ev
                     exact ih (i + 5) _ (by omega) (by omega) (LXm lx (by omega)))
                  | exact ih (i + 5) _ (by omega) (by omega) (LXm hX (by omega))
              · refine r_iconst (v := (0 : Int32)) (by decide) dL_law_259 ?_
                exact absurd ev c_256
            ·
              by_cases t_3 : (ro g 1002 i &&& 31) = nI 3
              · refine r_tsIn 261 dL_law_32 (by rw [t_3]; decide) (by rw [t_3]; decide) (by rw [t_3]; rfl) (by decide) ?_
                refine r_aload_n rfl dL_law_261 ?_
                refine r_aload_n rfl dL_law_262 ?_
                refine r_iload_n rfl dL_law_263 ?_
                refine r_iconst (v := nI 1) (by decide) dL_law_264 ?_
                refine r_iadd dL_law_265 ?_
                refine r_irn (by decide) (by decide) (nI_add i 1) (by omega) (by omega) dL_law_266 ?_
                refine r_cV1i (T := TX8) (N := 10) moX8_say lkL_28 rfl rfl (Nat.le_of_ble_eq_true rfl) ⟨by decide, by decide⟩ (Nat.le_of_ble_eq_true rfl) dL_law_267 rfl (c_say I) (fun v27 h27 q27 => ?_)
                have p1 := q27
                have J1 := J.up (u_say I p1)
                refine r_aload_n rfl dL_law_270 ?_
                refine r_aload_n rfl dL_law_271 ?_
                refine r_iload_n rfl dL_law_272 ?_
                refine r_iconst (v := nI 1) (by decide) dL_law_273 ?_
                refine r_iadd dL_law_274 ?_
                refine r_irn (by decide) (by decide) (nI_add i 1) (by omega) (by omega) dL_law_275 ?_
                refine r_cV1i (T := TX9) (N := 21) moX9_say lkL_32 rfl rfl (Nat.le_of_ble_eq_true rfl) ⟨by decide, by decide⟩ (Nat.le_of_ble_eq_true rfl) dL_law_276 rfl (m_say J1) (fun v28 h28 q28 => ?_)
                obtain ⟨ev, lx⟩ := j_say I J1 p1 q28
                refine r_icmp_eq 695 dL_law_279 (by decide) (fun c_279 => ?_) (fun c_279 => ?_)
                · refine r_inc3 rfl (by decide) rfl dL_law_695 ?_
                  refine r_goto 18 dL_law_698 (by decide) ?_
                  rw [inc5]
                  first
                    | (have t9 := ev
                       exact ih (i + 5) _ (by omega) (by omega) (LXm lx (by omega)))
                    | exact ih (i + 5) _ (by omega) (by omega) (LXm hX (by omega))
                · refine r_iconst (v := (0 : Int32)) (by decide) dL_law_282 ?_
                  exact absurd ev c_279
              ·
                by_cases t_4 : (ro g 1002 i &&& 31) = nI 4
                · refine r_tsIn 284 dL_law_32 (by rw [t_4]; decide) (by rw [t_4]; decide) (by rw [t_4]; rfl) (by decide) ?_
                  refine r_aload_n rfl dL_law_284 ?_
                  refine r_cV0i (T := TX8) (N := 10) moX8_wipe lkL_33 rfl rfl (Nat.le_of_ble_eq_true rfl) ⟨by decide, by decide⟩ (Nat.le_of_ble_eq_true rfl) dL_law_285 rfl (c_wipe I) (fun v29 h29 q29 => ?_)
                  have p1 := q29
                  have J1 := J.up (u_wipe I p1)
                  refine r_aload_n rfl dL_law_288 ?_
                  refine r_cV0i (T := TX9) (N := 21) moX9_wipe lkL_37 rfl rfl (Nat.le_of_ble_eq_true rfl) ⟨by decide, by decide⟩ (Nat.le_of_ble_eq_true rfl) dL_law_289 rfl (m_wipe J1) (fun v30 h30 q30 => ?_)
                  obtain ⟨ev, lx⟩ := j_wipe I J1 p1 q30
                  refine r_icmp_eq 695 dL_law_292 (by decide) (fun c_292 => ?_) (fun c_292 => ?_)
                  · refine r_inc3 rfl (by decide) rfl dL_law_695 ?_
                    refine r_goto 18 dL_law_698 (by decide) ?_
                    rw [inc5]
                    first
                      | (have t9 := ev
                         exact ih (i + 5) _ (by omega) (by omega) (LXm lx (by omega)))
                      | exact ih (i + 5) _ (by omega) (by omega) (LXm hX (by omega))
                  · refine r_iconst (v := (0 : Int32)) (by decide) dL_law_295 ?_
                    exact absurd ev c_292
                ·
                  by_cases t_5 : (ro g 1002 i &&& 31) = nI 5
                  · refine r_tsIn 297 dL_law_32 (by rw [t_5]; decide) (by rw [t_5]; decide) (by rw [t_5]; rfl) (by decide) ?_
                    refine r_aload_n rfl dL_law_297 ?_
                    refine r_cV0i (T := TX8) (N := 10) moX8_fault lkL_38 rfl rfl (Nat.le_of_ble_eq_true rfl) ⟨by decide, by decide⟩ (Nat.le_of_ble_eq_true rfl) dL_law_298 rfl (c_fault I) (fun v31 h31 q31 => ?_)
                    have p1 := q31
                    have J1 := J.up (u_fault I p1)
                    refine r_aload_n rfl dL_law_301 ?_
                    refine r_cV0i (T := TX9) (N := 21) moX9_fault lkL_41 rfl rfl (Nat.le_of_ble_eq_true rfl) ⟨by decide, by decide⟩ (Nat.le_of_ble_eq_true rfl) dL_law_302 rfl (m_fault J1) (fun v32 h32 q32 => ?_)
                    obtain ⟨ev, lx⟩ := j_fault I J1 p1 q32
                    refine r_icmp_eq 695 dL_law_305 (by decide) (fun c_305 => ?_) (fun c_305 => ?_)
                    · refine r_inc3 rfl (by decide) rfl dL_law_695 ?_
                      refine r_goto 18 dL_law_698 (by decide) ?_
                      rw [inc5]
                      first
                        | (have t9 := ev
                           exact ih (i + 5) _ (by omega) (by omega) (LXm lx (by omega)))
                        | exact ih (i + 5) _ (by omega) (by omega) (LXm hX (by omega))
                    · refine r_iconst (v := (0 : Int32)) (by decide) dL_law_308 ?_
                      exact absurd ev c_305
                  ·
                    by_cases t_6 : (ro g 1002 i &&& 31) = nI 6
                    · refine r_tsIn 310 dL_law_32 (by rw [t_6]; decide) (by rw [t_6]; decide) (by rw [t_6]; rfl) (by decide) ?_
                      refine r_aload_n rfl dL_law_310 ?_
                      refine r_cV0i (T := TX8) (N := 10) moX8_part lkL_42 rfl rfl (Nat.le_of_ble_eq_true rfl) ⟨by decide, by decide⟩ (Nat.le_of_ble_eq_true rfl) dL_law_311 rfl (c_part I) (fun v33 h33 q33 => ?_)
                      have p1 := q33
                      have J1 := J.up (u_part I p1)
                      refine r_aload_n rfl dL_law_314 ?_
                      refine r_cV0i (T := TX9) (N := 21) moX9_part lkL_45 rfl rfl (Nat.le_of_ble_eq_true rfl) ⟨by decide, by decide⟩ (Nat.le_of_ble_eq_true rfl) dL_law_315 rfl (m_part J1) (fun v34 h34 q34 => ?_)
                      obtain ⟨ev, lx⟩ := j_part I J1 p1 q34
                      refine r_icmp_eq 695 dL_law_318 (by decide) (fun c_318 => ?_) (fun c_318 => ?_)
                      · refine r_inc3 rfl (by decide) rfl dL_law_695 ?_
                        refine r_goto 18 dL_law_698 (by decide) ?_
                        rw [inc5]
                        first
                          | (have t9 := ev
                             exact ih (i + 5) _ (by omega) (by omega) (LXm lx (by omega)))
                          | exact ih (i + 5) _ (by omega) (by omega) (LXm hX (by omega))
                      · refine r_iconst (v := (0 : Int32)) (by decide) dL_law_321 ?_
                        exact absurd ev c_318
                    ·
                      by_cases t_7 : (ro g 1002 i &&& 31) = nI 7
                      · refine r_tsIn 323 dL_law_32 (by rw [t_7]; decide) (by rw [t_7]; decide) (by rw [t_7]; rfl) (by decide) ?_
                        refine r_aload_n rfl dL_law_323 ?_
                        refine r_aload_n rfl dL_law_324 ?_
                        refine r_iload_n rfl dL_law_325 ?_
                        refine r_iconst (v := nI 1) (by decide) dL_law_326 ?_
                        refine r_iadd dL_law_327 ?_
                        refine r_irn (by decide) (by decide) (nI_add i 1) (by omega) (by omega) dL_law_328 ?_
                        refine r_cV1i (T := TX8) (N := 10) moX8_union lkL_46 rfl rfl (Nat.le_of_ble_eq_true rfl) ⟨by decide, by decide⟩ (Nat.le_of_ble_eq_true rfl) dL_law_329 rfl (c_union I) (fun v35 h35 q35 => ?_)
                        have p1 := q35
                        have J1 := J.up (u_union I p1)
                        refine r_aload_n rfl dL_law_332 ?_
                        refine r_aload_n rfl dL_law_333 ?_
                        refine r_iload_n rfl dL_law_334 ?_
                        refine r_iconst (v := nI 1) (by decide) dL_law_335 ?_
                        refine r_iadd dL_law_336 ?_
                        refine r_irn (by decide) (by decide) (nI_add i 1) (by omega) (by omega) dL_law_337 ?_
                        refine r_cV1i (T := TX9) (N := 21) moX9_union lkL_49 rfl rfl (Nat.le_of_ble_eq_true rfl) ⟨by decide, by decide⟩ (Nat.le_of_ble_eq_true rfl) dL_law_338 rfl (m_union J1) (fun v36 h36 q36 => ?_)
                        obtain ⟨ev, lx⟩ := j_union I J1 p1 q36
                        refine r_icmp_eq 695 dL_law_341 (by decide) (fun c_341 => ?_) (fun c_341 => ?_)
                        · refine r_inc3 rfl (by decide) rfl dL_law_695 ?_
                          refine r_goto 18 dL_law_698 (by decide) ?_
                          rw [inc5]
                          first
                            | (have t9 := ev
                               exact ih (i + 5) _ (by omega) (by omega) (LXm lx (by omega)))
                            | exact ih (i + 5) _ (by omega) (by omega) (LXm hX (by omega))
                        · refine r_iconst (v := (0 : Int32)) (by decide) dL_law_344 ?_
                          exact absurd ev c_341
                      ·
                        by_cases t_8 : (ro g 1002 i &&& 31) = nI 8
                        · refine r_tsIn 346 dL_law_32 (by rw [t_8]; decide) (by rw [t_8]; decide) (by rw [t_8]; rfl) (by decide) ?_
                          refine r_aload_n rfl dL_law_346 ?_
                          refine r_aload_n rfl dL_law_347 ?_
                          refine r_iload_n rfl dL_law_348 ?_
                          refine r_iconst (v := nI 1) (by decide) dL_law_349 ?_
                          refine r_iadd dL_law_350 ?_
                          refine r_irn (by decide) (by decide) (nI_add i 1) (by omega) (by omega) dL_law_351 ?_
                          refine r_aload_n rfl dL_law_352 ?_
                          refine r_iload_n rfl dL_law_353 ?_
                          refine r_iconst (v := nI 2) (by decide) dL_law_354 ?_
                          refine r_iadd dL_law_355 ?_
                          refine r_irn (by decide) (by decide) (nI_add i 2) (by omega) (by omega) dL_law_356 ?_
                          refine r_cV2i (T := TX8) (N := 10) moX8_of lkL_50 rfl rfl (Nat.le_of_ble_eq_true rfl) ⟨by decide, by decide⟩ (Nat.le_of_ble_eq_true rfl) dL_law_357 rfl (c_of I) (fun v37 h37 q37 => ?_)
                          have p1 := q37
                          have J1 := J.up (u_of I p1)
                          refine r_aload_n rfl dL_law_360 ?_
                          refine r_aload_n rfl dL_law_361 ?_
                          refine r_iload_n rfl dL_law_362 ?_
                          refine r_iconst (v := nI 1) (by decide) dL_law_363 ?_
                          refine r_iadd dL_law_364 ?_
                          refine r_irn (by decide) (by decide) (nI_add i 1) (by omega) (by omega) dL_law_365 ?_
                          refine r_aload_n rfl dL_law_366 ?_
                          refine r_iload_n rfl dL_law_367 ?_
                          refine r_iconst (v := nI 2) (by decide) dL_law_368 ?_
                          refine r_iadd dL_law_369 ?_
                          refine r_irn (by decide) (by decide) (nI_add i 2) (by omega) (by omega) dL_law_370 ?_
                          refine r_cV2i (T := TX9) (N := 21) moX9_of lkL_53 rfl rfl (Nat.le_of_ble_eq_true rfl) ⟨by decide, by decide⟩ (Nat.le_of_ble_eq_true rfl) dL_law_371 rfl (m_of J1) (fun v38 h38 q38 => ?_)
                          obtain ⟨ev, lx⟩ := j_of I J1 p1 q38
                          refine r_icmp_eq 695 dL_law_374 (by decide) (fun c_374 => ?_) (fun c_374 => ?_)
                          · refine r_inc3 rfl (by decide) rfl dL_law_695 ?_
                            refine r_goto 18 dL_law_698 (by decide) ?_
                            rw [inc5]
                            first
                              | (have t9 := ev
                                 exact ih (i + 5) _ (by omega) (by omega) (LXm lx (by omega)))
                              | exact ih (i + 5) _ (by omega) (by omega) (LXm hX (by omega))
                          · refine r_iconst (v := (0 : Int32)) (by decide) dL_law_377 ?_
                            exact absurd ev c_374
                        ·
                          by_cases t_9 : (ro g 1002 i &&& 31) = nI 9
                          · refine r_tsIn 379 dL_law_32 (by rw [t_9]; decide) (by rw [t_9]; decide) (by rw [t_9]; rfl) (by decide) ?_
                            refine r_aload_n rfl dL_law_379 ?_
                            refine r_aload_n rfl dL_law_380 ?_
                            refine r_iload_n rfl dL_law_381 ?_
                            refine r_iconst (v := nI 1) (by decide) dL_law_382 ?_
                            refine r_iadd dL_law_383 ?_
                            refine r_irn (by decide) (by decide) (nI_add i 1) (by omega) (by omega) dL_law_384 ?_
                            refine r_cV1i (T := TX8) (N := 10) moX8_all lkL_54 rfl rfl (Nat.le_of_ble_eq_true rfl) ⟨by decide, by decide⟩ (Nat.le_of_ble_eq_true rfl) dL_law_385 rfl (c_all I) (fun v39 h39 q39 => ?_)
                            have p1 := q39
                            have J1 := J.up (u_all I p1)
                            refine r_aload_n rfl dL_law_388 ?_
                            refine r_aload_n rfl dL_law_389 ?_
                            refine r_iload_n rfl dL_law_390 ?_
                            refine r_iconst (v := nI 1) (by decide) dL_law_391 ?_
                            refine r_iadd dL_law_392 ?_
                            refine r_irn (by decide) (by decide) (nI_add i 1) (by omega) (by omega) dL_law_393 ?_
                            refine r_cV1i (T := TX9) (N := 21) moX9_all lkL_57 rfl rfl (Nat.le_of_ble_eq_true rfl) ⟨by decide, by decide⟩ (Nat.le_of_ble_eq_true rfl) dL_law_394 rfl (m_all J1) (fun v40 h40 q40 => ?_)
                            obtain ⟨ev, lx⟩ := j_all I J1 p1 q40
                            refine r_icmp_eq 695 dL_law_397 (by decide) (fun c_397 => ?_) (fun c_397 => ?_)
                            · refine r_inc3 rfl (by decide) rfl dL_law_695 ?_
                              refine r_goto 18 dL_law_698 (by decide) ?_
                              rw [inc5]
                              first
                                | (have t9 := ev
                                   exact ih (i + 5) _ (by omega) (by omega) (LXm lx (by omega)))
                                | exact ih (i + 5) _ (by omega) (by omega) (LXm hX (by omega))
                            · refine r_iconst (v := (0 : Int32)) (by decide) dL_law_400 ?_
                              exact absurd ev c_397
                          ·
                            by_cases t_10 : (ro g 1002 i &&& 31) = nI 10
                            · refine r_tsIn 402 dL_law_32 (by rw [t_10]; decide) (by rw [t_10]; decide) (by rw [t_10]; rfl) (by decide) ?_
                              refine r_aload_n rfl dL_law_402 ?_
                              refine r_aload_n rfl dL_law_403 ?_
                              refine r_iload_n rfl dL_law_404 ?_
                              refine r_iconst (v := nI 1) (by decide) dL_law_405 ?_
                              refine r_iadd dL_law_406 ?_
                              refine r_irn (by decide) (by decide) (nI_add i 1) (by omega) (by omega) dL_law_407 ?_
                              refine r_cV1i (T := TX8) (N := 10) moX8_breaks lkL_58 rfl rfl (Nat.le_of_ble_eq_true rfl) ⟨by decide, by decide⟩ (Nat.le_of_ble_eq_true rfl) dL_law_408 rfl (c_breaks I) (fun v41 h41 q41 => ?_)
                              have p1 := q41
                              have J1 := J.up (u_breaks I p1)
                              refine r_aload_n rfl dL_law_411 ?_
                              refine r_aload_n rfl dL_law_412 ?_
                              refine r_iload_n rfl dL_law_413 ?_
                              refine r_iconst (v := nI 1) (by decide) dL_law_414 ?_
                              refine r_iadd dL_law_415 ?_
                              refine r_irn (by decide) (by decide) (nI_add i 1) (by omega) (by omega) dL_law_416 ?_
                              refine r_cV1i (T := TX9) (N := 21) moX9_breaks lkL_61 rfl rfl (Nat.le_of_ble_eq_true rfl) ⟨by decide, by decide⟩ (Nat.le_of_ble_eq_true rfl) dL_law_417 rfl (m_breaks J1) (fun v42 h42 q42 => ?_)
                              obtain ⟨ev, lx⟩ := j_breaks I J1 p1 q42
                              refine r_icmp_eq 695 dL_law_420 (by decide) (fun c_420 => ?_) (fun c_420 => ?_)
                              · refine r_inc3 rfl (by decide) rfl dL_law_695 ?_
                                refine r_goto 18 dL_law_698 (by decide) ?_
                                rw [inc5]
                                first
                                  | (have t9 := ev
                                     exact ih (i + 5) _ (by omega) (by omega) (LXm lx (by omega)))
                                  | exact ih (i + 5) _ (by omega) (by omega) (LXm hX (by omega))
                              · refine r_iconst (v := (0 : Int32)) (by decide) dL_law_423 ?_
                                exact absurd ev c_420
                            ·
                              by_cases t_11 : (ro g 1002 i &&& 31) = nI 11
                              · refine r_tsIn 425 dL_law_32 (by rw [t_11]; decide) (by rw [t_11]; decide) (by rw [t_11]; rfl) (by decide) ?_
                                refine r_aload_n rfl dL_law_425 ?_
                                refine r_aload_n rfl dL_law_426 ?_
                                refine r_iload_n rfl dL_law_427 ?_
                                refine r_iconst (v := nI 1) (by decide) dL_law_428 ?_
                                refine r_iadd dL_law_429 ?_
                                refine r_irn (by decide) (by decide) (nI_add i 1) (by omega) (by omega) dL_law_430 ?_
                                refine r_aload_n rfl dL_law_431 ?_
                                refine r_iload_n rfl dL_law_432 ?_
                                refine r_iconst (v := nI 2) (by decide) dL_law_433 ?_
                                refine r_iadd dL_law_434 ?_
                                refine r_irn (by decide) (by decide) (nI_add i 2) (by omega) (by omega) dL_law_435 ?_
                                refine r_aload_n rfl dL_law_436 ?_
                                refine r_iload_n rfl dL_law_437 ?_
                                refine r_iconst (v := nI 3) (by decide) dL_law_438 ?_
                                refine r_iadd dL_law_439 ?_
                                refine r_irn (by decide) (by decide) (nI_add i 3) (by omega) (by omega) dL_law_440 ?_
                                refine r_cV3i (T := TX8) (N := 10) moX8_rests lkL_62 rfl rfl (Nat.le_of_ble_eq_true rfl) ⟨by decide, by decide⟩ (Nat.le_of_ble_eq_true rfl) dL_law_441 rfl (c_rests I) (fun v43 h43 q43 => ?_)
                                have p1 := q43
                                have J1 := J.up (u_rests I p1)
                                refine r_aload_n rfl dL_law_444 ?_
                                refine r_aload_n rfl dL_law_445 ?_
                                refine r_iload_n rfl dL_law_446 ?_
                                refine r_iconst (v := nI 1) (by decide) dL_law_447 ?_
                                refine r_iadd dL_law_448 ?_
                                refine r_irn (by decide) (by decide) (nI_add i 1) (by omega) (by omega) dL_law_449 ?_
                                refine r_aload_n rfl dL_law_450 ?_
                                refine r_iload_n rfl dL_law_451 ?_
                                refine r_iconst (v := nI 2) (by decide) dL_law_452 ?_
                                refine r_iadd dL_law_453 ?_
                                refine r_irn (by decide) (by decide) (nI_add i 2) (by omega) (by omega) dL_law_454 ?_
                                refine r_aload_n rfl dL_law_455 ?_
                                refine r_iload_n rfl dL_law_456 ?_
                                refine r_iconst (v := nI 3) (by decide) dL_law_457 ?_
                                refine r_iadd dL_law_458 ?_
                                refine r_irn (by decide) (by decide) (nI_add i 3) (by omega) (by omega) dL_law_459 ?_
                                refine r_cV3i (T := TX9) (N := 21) moX9_rests lkL_65 rfl rfl (Nat.le_of_ble_eq_true rfl) ⟨by decide, by decide⟩ (Nat.le_of_ble_eq_true rfl) dL_law_460 rfl (m_rests J1) (fun v44 h44 q44 => ?_)
                                obtain ⟨ev, lx⟩ := j_rests I J1 p1 q44
                                refine r_icmp_eq 695 dL_law_463 (by decide) (fun c_463 => ?_) (fun c_463 => ?_)
                                · refine r_inc3 rfl (by decide) rfl dL_law_695 ?_
                                  refine r_goto 18 dL_law_698 (by decide) ?_
                                  rw [inc5]
                                  first
                                    | (have t9 := ev
                                       exact ih (i + 5) _ (by omega) (by omega) (LXm lx (by omega)))
                                    | exact ih (i + 5) _ (by omega) (by omega) (LXm hX (by omega))
                                · refine r_iconst (v := (0 : Int32)) (by decide) dL_law_466 ?_
                                  exact absurd ev c_463
                              ·
                                by_cases t_12 : (ro g 1002 i &&& 31) = nI 12
                                · refine r_tsIn 468 dL_law_32 (by rw [t_12]; decide) (by rw [t_12]; decide) (by rw [t_12]; rfl) (by decide) ?_
                                  refine r_aload_n rfl dL_law_468 ?_
                                  refine r_aload_n rfl dL_law_469 ?_
                                  refine r_iload_n rfl dL_law_470 ?_
                                  refine r_iconst (v := nI 1) (by decide) dL_law_471 ?_
                                  refine r_iadd dL_law_472 ?_
                                  refine r_irn (by decide) (by decide) (nI_add i 1) (by omega) (by omega) dL_law_473 ?_
                                  refine r_aload_n rfl dL_law_474 ?_
                                  refine r_iload_n rfl dL_law_475 ?_
                                  refine r_iconst (v := nI 2) (by decide) dL_law_476 ?_
                                  refine r_iadd dL_law_477 ?_
                                  refine r_irn (by decide) (by decide) (nI_add i 2) (by omega) (by omega) dL_law_478 ?_
                                  refine r_cV2i (T := TX8) (N := 10) moX8_go lkL_66 rfl rfl (Nat.le_of_ble_eq_true rfl) ⟨by decide, by decide⟩ (Nat.le_of_ble_eq_true rfl) dL_law_479 rfl (c_go I) (fun v45 h45 q45 => ?_)
                                  have p1 := q45
                                  have J1 := J.up (u_go I p1)
                                  refine r_aload_n rfl dL_law_482 ?_
                                  refine r_aload_n rfl dL_law_483 ?_
                                  refine r_iload_n rfl dL_law_484 ?_
                                  refine r_iconst (v := nI 1) (by decide) dL_law_485 ?_
                                  refine r_iadd dL_law_486 ?_
                                  refine r_irn (by decide) (by decide) (nI_add i 1) (by omega) (by omega) dL_law_487 ?_
                                  refine r_aload_n rfl dL_law_488 ?_
                                  refine r_iload_n rfl dL_law_489 ?_
                                  refine r_iconst (v := nI 2) (by decide) dL_law_490 ?_
                                  refine r_iadd dL_law_491 ?_
                                  refine r_irn (by decide) (by decide) (nI_add i 2) (by omega) (by omega) dL_law_492 ?_
                                  refine r_cV2i (T := TX9) (N := 21) moX9_go lkL_69 rfl rfl (Nat.le_of_ble_eq_true rfl) ⟨by decide, by decide⟩ (Nat.le_of_ble_eq_true rfl) dL_law_493 rfl (m_go J1) (fun v46 h46 q46 => ?_)
                                  obtain ⟨ev, lx⟩ := j_go I J1 (hNL _ _ I.1.2.2.2.1 rfl) p1 q46
                                  refine r_icmp_eq 695 dL_law_496 (by decide) (fun c_496 => ?_) (fun c_496 => ?_)
                                  · refine r_inc3 rfl (by decide) rfl dL_law_695 ?_
                                    refine r_goto 18 dL_law_698 (by decide) ?_
                                    rw [inc5]
                                    first
                                      | (have t9 := ev
                                         exact ih (i + 5) _ (by omega) (by omega) (LXm lx (by omega)))
                                      | exact ih (i + 5) _ (by omega) (by omega) (LXm hX (by omega))
                                  · refine r_iconst (v := (0 : Int32)) (by decide) dL_law_499 ?_
                                    exact absurd ev c_496
                                ·
                                  by_cases t_13 : (ro g 1002 i &&& 31) = nI 13
                                  · refine r_tsIn 501 dL_law_32 (by rw [t_13]; decide) (by rw [t_13]; decide) (by rw [t_13]; rfl) (by decide) ?_
                                    refine r_aload_n rfl dL_law_501 ?_
                                    refine r_aload_n rfl dL_law_502 ?_
                                    refine r_iload_n rfl dL_law_503 ?_
                                    refine r_iconst (v := nI 1) (by decide) dL_law_504 ?_
                                    refine r_iadd dL_law_505 ?_
                                    refine r_irn (by decide) (by decide) (nI_add i 1) (by omega) (by omega) dL_law_506 ?_
                                    refine r_cV1i (T := TX8) (N := 10) moX8_whole lkL_70 rfl rfl (Nat.le_of_ble_eq_true rfl) ⟨by decide, by decide⟩ (Nat.le_of_ble_eq_true rfl) dL_law_507 rfl (c_whole I) (fun v47 h47 q47 => ?_)
                                    have p1 := q47
                                    have J1 := J.up (u_whole I p1)
                                    refine r_aload_n rfl dL_law_510 ?_
                                    refine r_aload_n rfl dL_law_511 ?_
                                    refine r_iload_n rfl dL_law_512 ?_
                                    refine r_iconst (v := nI 1) (by decide) dL_law_513 ?_
                                    refine r_iadd dL_law_514 ?_
                                    refine r_irn (by decide) (by decide) (nI_add i 1) (by omega) (by omega) dL_law_515 ?_
                                    refine r_cV1i (T := TX9) (N := 21) moX9_whole lkL_73 rfl rfl (Nat.le_of_ble_eq_true rfl) ⟨by decide, by decide⟩ (Nat.le_of_ble_eq_true rfl) dL_law_516 rfl (m_whole J1) (fun v48 h48 q48 => ?_)
                                    obtain ⟨ev, lx⟩ := j_whole I J1 p1 q48
                                    refine r_icmp_eq 695 dL_law_519 (by decide) (fun c_519 => ?_) (fun c_519 => ?_)
                                    · refine r_inc3 rfl (by decide) rfl dL_law_695 ?_
                                      refine r_goto 18 dL_law_698 (by decide) ?_
                                      rw [inc5]
                                      first
                                        | (have t9 := ev
                                           exact ih (i + 5) _ (by omega) (by omega) (LXm lx (by omega)))
                                        | exact ih (i + 5) _ (by omega) (by omega) (LXm hX (by omega))
                                    · refine r_iconst (v := (0 : Int32)) (by decide) dL_law_522 ?_
                                      exact absurd ev c_519
                                  ·
                                    by_cases t_14 : (ro g 1002 i &&& 31) = nI 14
                                    · refine r_tsIn 524 dL_law_32 (by rw [t_14]; decide) (by rw [t_14]; decide) (by rw [t_14]; rfl) (by decide) ?_
                                      refine r_aload_n rfl dL_law_524 ?_
                                      refine r_cV0i (T := TX8) (N := 10) moX8_rules lkL_74 rfl rfl (Nat.le_of_ble_eq_true rfl) ⟨by decide, by decide⟩ (Nat.le_of_ble_eq_true rfl) dL_law_525 rfl (c_rules I (by omega)) (fun v49 h49 q49 => ?_)
                                      have p1 := q49
                                      have J1 := J.up (u_rules I p1)
                                      refine r_aload_n rfl dL_law_528 ?_
                                      refine r_cV0i (T := TX9) (N := 21) moX9_rules lkL_77 rfl rfl (Nat.le_of_ble_eq_true rfl) ⟨by decide, by decide⟩ (Nat.le_of_ble_eq_true rfl) dL_law_529 rfl (m_rules J1) (fun v50 h50 q50 => ?_)
                                      obtain ⟨ev, lx⟩ := j_rules I J1 p1 q50
                                      refine r_icmp_eq 695 dL_law_532 (by decide) (fun c_532 => ?_) (fun c_532 => ?_)
                                      · refine r_inc3 rfl (by decide) rfl dL_law_695 ?_
                                        refine r_goto 18 dL_law_698 (by decide) ?_
                                        rw [inc5]
                                        first
                                          | (have t9 := ev
                                             exact ih (i + 5) _ (by omega) (by omega) (LXm lx (by omega)))
                                          | exact ih (i + 5) _ (by omega) (by omega) (LXm hX (by omega))
                                      · refine r_iconst (v := (0 : Int32)) (by decide) dL_law_535 ?_
                                        exact absurd ev c_532
                                    ·
                                      by_cases t_15 : (ro g 1002 i &&& 31) = nI 15
                                      · refine r_tsIn 537 dL_law_32 (by rw [t_15]; decide) (by rw [t_15]; decide) (by rw [t_15]; rfl) (by decide) ?_
                                        refine r_aload_n rfl dL_law_537 ?_
                                        refine r_aload_n rfl dL_law_538 ?_
                                        refine r_iload_n rfl dL_law_539 ?_
                                        refine r_iconst (v := nI 1) (by decide) dL_law_540 ?_
                                        refine r_iadd dL_law_541 ?_
                                        refine r_irn (by decide) (by decide) (nI_add i 1) (by omega) (by omega) dL_law_542 ?_
                                        refine r_aload_n rfl dL_law_543 ?_
                                        refine r_iload_n rfl dL_law_544 ?_
                                        refine r_iconst (v := nI 2) (by decide) dL_law_545 ?_
                                        refine r_iadd dL_law_546 ?_
                                        refine r_irn (by decide) (by decide) (nI_add i 2) (by omega) (by omega) dL_law_547 ?_
                                        refine r_cV2i (T := TX8) (N := 10) moX8_propose lkL_78 rfl rfl (Nat.le_of_ble_eq_true rfl) ⟨by decide, by decide⟩ (Nat.le_of_ble_eq_true rfl) dL_law_548 rfl (c_propose I) (fun v51 h51 q51 => ?_)
                                        have p1 := q51
                                        have J1 := J.up (u_propose I p1)
                                        refine r_aload_n rfl dL_law_551 ?_
                                        refine r_aload_n rfl dL_law_552 ?_
                                        refine r_iload_n rfl dL_law_553 ?_
                                        refine r_iconst (v := nI 1) (by decide) dL_law_554 ?_
                                        refine r_iadd dL_law_555 ?_
                                        refine r_irn (by decide) (by decide) (nI_add i 1) (by omega) (by omega) dL_law_556 ?_
                                        refine r_aload_n rfl dL_law_557 ?_
                                        refine r_iload_n rfl dL_law_558 ?_
                                        refine r_iconst (v := nI 2) (by decide) dL_law_559 ?_
                                        refine r_iadd dL_law_560 ?_
                                        refine r_irn (by decide) (by decide) (nI_add i 2) (by omega) (by omega) dL_law_561 ?_
                                        refine r_cV2i (T := TX9) (N := 21) moX9_propose lkL_81 rfl rfl (Nat.le_of_ble_eq_true rfl) ⟨by decide, by decide⟩ (Nat.le_of_ble_eq_true rfl) dL_law_562 rfl (m_propose J1) (fun v52 h52 q52 => ?_)
                                        obtain ⟨ev, lx⟩ := j_propose I J1 p1 q52
                                        refine r_icmp_eq 695 dL_law_565 (by decide) (fun c_565 => ?_) (fun c_565 => ?_)
                                        · refine r_inc3 rfl (by decide) rfl dL_law_695 ?_
                                          refine r_goto 18 dL_law_698 (by decide) ?_
                                          rw [inc5]
                                          first
                                            | (have t9 := ev
                                               exact ih (i + 5) _ (by omega) (by omega) (LXm lx (by omega)))
                                            | exact ih (i + 5) _ (by omega) (by omega) (LXm hX (by omega))
                                        · refine r_iconst (v := (0 : Int32)) (by decide) dL_law_568 ?_
                                          exact absurd ev c_565
                                      ·
                                        by_cases t_16 : (ro g 1002 i &&& 31) = nI 16
                                        · refine r_tsIn 570 dL_law_32 (by rw [t_16]; decide) (by rw [t_16]; decide) (by rw [t_16]; rfl) (by decide) ?_
                                          refine r_aload_n rfl dL_law_570 ?_
                                          refine r_aload_n rfl dL_law_571 ?_
                                          refine r_iload_n rfl dL_law_572 ?_
                                          refine r_iconst (v := nI 1) (by decide) dL_law_573 ?_
                                          refine r_iadd dL_law_574 ?_
                                          refine r_irn (by decide) (by decide) (nI_add i 1) (by omega) (by omega) dL_law_575 ?_
                                          refine r_aload_n rfl dL_law_576 ?_
                                          refine r_iload_n rfl dL_law_577 ?_
                                          refine r_iconst (v := nI 2) (by decide) dL_law_578 ?_
                                          refine r_iadd dL_law_579 ?_
                                          refine r_irn (by decide) (by decide) (nI_add i 2) (by omega) (by omega) dL_law_580 ?_
                                          refine r_aload_n rfl dL_law_581 ?_
                                          refine r_iload_n rfl dL_law_582 ?_
                                          refine r_iconst (v := nI 3) (by decide) dL_law_583 ?_
                                          refine r_iadd dL_law_584 ?_
                                          refine r_irn (by decide) (by decide) (nI_add i 3) (by omega) (by omega) dL_law_585 ?_
                                          refine r_cV3i (T := TX8) (N := 10) moX8_enter lkL_82 rfl rfl (Nat.le_of_ble_eq_true rfl) ⟨by decide, by decide⟩ (Nat.le_of_ble_eq_true rfl) dL_law_586 rfl (c_enter I) (fun v53 h53 q53 => ?_)
                                          have p1 := q53
                                          have J1 := J.up (u_enter I p1)
                                          refine r_aload_n rfl dL_law_589 ?_
                                          refine r_aload_n rfl dL_law_590 ?_
                                          refine r_iload_n rfl dL_law_591 ?_
                                          refine r_iconst (v := nI 1) (by decide) dL_law_592 ?_
                                          refine r_iadd dL_law_593 ?_
                                          refine r_irn (by decide) (by decide) (nI_add i 1) (by omega) (by omega) dL_law_594 ?_
                                          refine r_aload_n rfl dL_law_595 ?_
                                          refine r_iload_n rfl dL_law_596 ?_
                                          refine r_iconst (v := nI 2) (by decide) dL_law_597 ?_
                                          refine r_iadd dL_law_598 ?_
                                          refine r_irn (by decide) (by decide) (nI_add i 2) (by omega) (by omega) dL_law_599 ?_
                                          refine r_aload_n rfl dL_law_600 ?_
                                          refine r_iload_n rfl dL_law_601 ?_
                                          refine r_iconst (v := nI 3) (by decide) dL_law_602 ?_
                                          refine r_iadd dL_law_603 ?_
                                          refine r_irn (by decide) (by decide) (nI_add i 3) (by omega) (by omega) dL_law_604 ?_
                                          refine r_cV3i (T := TX9) (N := 21) moX9_enter lkL_85 rfl rfl (Nat.le_of_ble_eq_true rfl) ⟨by decide, by decide⟩ (Nat.le_of_ble_eq_true rfl) dL_law_605 rfl (m_enter J1) (fun v54 h54 q54 => ?_)
                                          obtain ⟨ev, lx⟩ := j_enter I J1 p1 q54
                                          refine r_icmp_eq 695 dL_law_608 (by decide) (fun c_608 => ?_) (fun c_608 => ?_)
                                          · refine r_inc3 rfl (by decide) rfl dL_law_695 ?_
                                            refine r_goto 18 dL_law_698 (by decide) ?_
                                            rw [inc5]
                                            first
                                              | (have t9 := ev
                                                 exact ih (i + 5) _ (by omega) (by omega) (LXm lx (by omega)))
                                              | exact ih (i + 5) _ (by omega) (by omega) (LXm hX (by omega))
                                          · refine r_iconst (v := (0 : Int32)) (by decide) dL_law_611 ?_
                                            exact absurd ev c_608
                                        ·
                                          by_cases t_17 : (ro g 1002 i &&& 31) = nI 17
                                          · refine r_tsIn 613 dL_law_32 (by rw [t_17]; decide) (by rw [t_17]; decide) (by rw [t_17]; rfl) (by decide) ?_
                                            refine r_aload_n rfl dL_law_613 ?_
                                            refine r_cV0i (T := TX8) (N := 10) moX8_holds lkL_86 rfl rfl (Nat.le_of_ble_eq_true rfl) ⟨by decide, by decide⟩ (Nat.le_of_ble_eq_true rfl) dL_law_614 rfl (c_holds I) (fun v55 h55 q55 => ?_)
                                            have p1 := q55
                                            have J1 := J.up (u_holds I p1)
                                            refine r_aload_n rfl dL_law_617 ?_
                                            refine r_cV0i (T := TX9) (N := 21) moX9_holds lkL_89 rfl rfl (Nat.le_of_ble_eq_true rfl) ⟨by decide, by decide⟩ (Nat.le_of_ble_eq_true rfl) dL_law_618 rfl (m_holds J1) (fun v56 h56 q56 => ?_)
                                            obtain ⟨ev, lx⟩ := j_holds I J1 p1 q56
                                            refine r_icmp_eq 695 dL_law_621 (by decide) (fun c_621 => ?_) (fun c_621 => ?_)
                                            · refine r_inc3 rfl (by decide) rfl dL_law_695 ?_
                                              refine r_goto 18 dL_law_698 (by decide) ?_
                                              rw [inc5]
                                              first
                                                | (have t9 := ev
                                                   exact ih (i + 5) _ (by omega) (by omega) (LXm lx (by omega)))
                                                | exact ih (i + 5) _ (by omega) (by omega) (LXm hX (by omega))
                                            · refine r_iconst (v := (0 : Int32)) (by decide) dL_law_624 ?_
                                              exact absurd ev c_621
                                          ·
                                            by_cases t_18 : (ro g 1002 i &&& 31) = nI 18
                                            · refine r_tsIn 626 dL_law_32 (by rw [t_18]; decide) (by rw [t_18]; decide) (by rw [t_18]; rfl) (by decide) ?_
                                              refine r_aload_n rfl dL_law_626 ?_
                                              refine r_aload_n rfl dL_law_627 ?_
                                              refine r_iload_n rfl dL_law_628 ?_
                                              refine r_iconst (v := nI 1) (by decide) dL_law_629 ?_
                                              refine r_iadd dL_law_630 ?_
                                              refine r_irn (by decide) (by decide) (nI_add i 1) (by omega) (by omega) dL_law_631 ?_
                                              refine r_cV1i (T := TX8) (N := 10) moX8_hurt lkL_90 rfl rfl (Nat.le_of_ble_eq_true rfl) ⟨by decide, by decide⟩ (Nat.le_of_ble_eq_true rfl) dL_law_632 rfl (c_hurt I) (fun v57 h57 q57 => ?_)
                                              have p1 := q57
                                              have J1 := J.up (u_hurt I p1)
                                              refine r_aload_n rfl dL_law_635 ?_
                                              refine r_aload_n rfl dL_law_636 ?_
                                              refine r_iload_n rfl dL_law_637 ?_
                                              refine r_iconst (v := nI 1) (by decide) dL_law_638 ?_
                                              refine r_iadd dL_law_639 ?_
                                              refine r_irn (by decide) (by decide) (nI_add i 1) (by omega) (by omega) dL_law_640 ?_
                                              refine r_cV1i (T := TX9) (N := 21) moX9_hurt lkL_93 rfl rfl (Nat.le_of_ble_eq_true rfl) ⟨by decide, by decide⟩ (Nat.le_of_ble_eq_true rfl) dL_law_641 rfl (m_hurt J1) (fun v58 h58 q58 => ?_)
                                              obtain ⟨ev, lx⟩ := j_hurt I J1 p1 q58
                                              refine r_icmp_eq 695 dL_law_644 (by decide) (fun c_644 => ?_) (fun c_644 => ?_)
                                              · refine r_inc3 rfl (by decide) rfl dL_law_695 ?_
                                                refine r_goto 18 dL_law_698 (by decide) ?_
                                                rw [inc5]
                                                first
                                                  | (have t9 := ev
                                                     exact ih (i + 5) _ (by omega) (by omega) (LXm lx (by omega)))
                                                  | exact ih (i + 5) _ (by omega) (by omega) (LXm hX (by omega))
                                              · refine r_iconst (v := (0 : Int32)) (by decide) dL_law_647 ?_
                                                exact absurd ev c_644
                                            ·
                                              by_cases t_19 : (ro g 1002 i &&& 31) = nI 19
                                              · refine r_tsIn 649 dL_law_32 (by rw [t_19]; decide) (by rw [t_19]; decide) (by rw [t_19]; rfl) (by decide) ?_
                                                refine r_aload_n rfl dL_law_649 ?_
                                                refine r_aload_n rfl dL_law_650 ?_
                                                refine r_iload_n rfl dL_law_651 ?_
                                                refine r_iconst (v := nI 1) (by decide) dL_law_652 ?_
                                                refine r_iadd dL_law_653 ?_
                                                refine r_irn (by decide) (by decide) (nI_add i 1) (by omega) (by omega) dL_law_654 ?_
                                                refine r_cV1i (T := TX8) (N := 10) moX8_edge lkL_94 rfl rfl (Nat.le_of_ble_eq_true rfl) ⟨by decide, by decide⟩ (Nat.le_of_ble_eq_true rfl) dL_law_655 rfl (c_edge I (by omega)) (fun v59 h59 q59 => ?_)
                                                have p1 := q59
                                                have J1 := J.up (u_edge I p1)
                                                refine r_aload_n rfl dL_law_658 ?_
                                                refine r_aload_n rfl dL_law_659 ?_
                                                refine r_iload_n rfl dL_law_660 ?_
                                                refine r_iconst (v := nI 1) (by decide) dL_law_661 ?_
                                                refine r_iadd dL_law_662 ?_
                                                refine r_irn (by decide) (by decide) (nI_add i 1) (by omega) (by omega) dL_law_663 ?_
                                                refine r_cV1i (T := TX9) (N := 21) moX9_edge lkL_97 rfl rfl (Nat.le_of_ble_eq_true rfl) ⟨by decide, by decide⟩ (Nat.le_of_ble_eq_true rfl) dL_law_664 rfl (m_edge J1) (fun v60 h60 q60 => ?_)
                                                obtain ⟨ev, lx⟩ := j_edge I J1 p1 q60
                                                refine r_icmp_eq 695 dL_law_667 (by decide) (fun c_667 => ?_) (fun c_667 => ?_)
                                                · refine r_inc3 rfl (by decide) rfl dL_law_695 ?_
                                                  refine r_goto 18 dL_law_698 (by decide) ?_
                                                  rw [inc5]
                                                  first
                                                    | (have t9 := ev
                                                       exact ih (i + 5) _ (by omega) (by omega) (LXm lx (by omega)))
                                                    | exact ih (i + 5) _ (by omega) (by omega) (LXm hX (by omega))
                                                · refine r_iconst (v := (0 : Int32)) (by decide) dL_law_670 ?_
                                                  exact absurd ev c_667
                                              ·
                                                by_cases t_20 : (ro g 1002 i &&& 31) = nI 20
                                                · refine r_tsIn 672 dL_law_32 (by rw [t_20]; decide) (by rw [t_20]; decide) (by rw [t_20]; rfl) (by decide) ?_
                                                  refine r_aload_n rfl dL_law_672 ?_
                                                  refine r_aload_n rfl dL_law_673 ?_
                                                  refine r_iload_n rfl dL_law_674 ?_
                                                  refine r_iconst (v := nI 1) (by decide) dL_law_675 ?_
                                                  refine r_iadd dL_law_676 ?_
                                                  refine r_irn (by decide) (by decide) (nI_add i 1) (by omega) (by omega) dL_law_677 ?_
                                                  refine r_cV1i (T := TX8) (N := 10) moX8_told lkL_98 rfl rfl (Nat.le_of_ble_eq_true rfl) ⟨by decide, by decide⟩ (Nat.le_of_ble_eq_true rfl) dL_law_678 rfl (c_told I) (fun v61 h61 q61 => ?_)
                                                  have p1 := q61
                                                  have J1 := J.up (u_told I p1)
                                                  refine r_aload_n rfl dL_law_681 ?_
                                                  refine r_aload_n rfl dL_law_682 ?_
                                                  refine r_iload_n rfl dL_law_683 ?_
                                                  refine r_iconst (v := nI 1) (by decide) dL_law_684 ?_
                                                  refine r_iadd dL_law_685 ?_
                                                  refine r_irn (by decide) (by decide) (nI_add i 1) (by omega) (by omega) dL_law_686 ?_
                                                  refine r_cV1i (T := TX9) (N := 21) moX9_told lkL_101 rfl rfl (Nat.le_of_ble_eq_true rfl) ⟨by decide, by decide⟩ (Nat.le_of_ble_eq_true rfl) dL_law_687 rfl (m_told J1) (fun v62 h62 q62 => ?_)
                                                  obtain ⟨ev, lx⟩ := j_told I J1 p1 q62
                                                  refine r_icmp_eq 695 dL_law_690 (by decide) (fun c_690 => ?_) (fun c_690 => ?_)
                                                  · refine r_inc3 rfl (by decide) rfl dL_law_695 ?_
                                                    refine r_goto 18 dL_law_698 (by decide) ?_
                                                    rw [inc5]
                                                    first
                                                      | (have t9 := ev
                                                         exact ih (i + 5) _ (by omega) (by omega) (LXm lx (by omega)))
                                                      | exact ih (i + 5) _ (by omega) (by omega) (LXm hX (by omega))
                                                  · refine r_iconst (v := (0 : Int32)) (by decide) dL_law_693 ?_
                                                    exact absurd ev c_690
                                                · refine r_tsOut 695 dL_law_32 (by have := tsOut (x := (ro g 1002 i &&& 31)) 20 (by decide) (fun i hi => by rcases (show i = 0 ∨ i = 1 ∨ i = 2 ∨ i = 3 ∨ i = 4 ∨ i = 5 ∨ i = 6 ∨ i = 7 ∨ i = 8 ∨ i = 9 ∨ i = 10 ∨ i = 11 ∨ i = 12 ∨ i = 13 ∨ i = 14 ∨ i = 15 ∨ i = 16 ∨ i = 17 ∨ i = 18 ∨ i = 19 ∨ i = 20 by omega) with rfl | rfl | rfl | rfl | rfl | rfl | rfl | rfl | rfl | rfl | rfl | rfl | rfl | rfl | rfl | rfl | rfl | rfl | rfl | rfl | rfl <;> assumption); omega) (by decide) ?_
                                                  refine r_inc3 rfl (by decide) rfl dL_law_695 ?_
                                                  refine r_goto 18 dL_law_698 (by decide) ?_
                                                  rw [inc5]
                                                  first
                                                    | (have t9 := ev
                                                       exact ih (i + 5) _ (by omega) (by omega) (LXm lx (by omega)))
                                                    | exact ih (i + 5) _ (by omega) (by omega) (LXm hX (by omega))

