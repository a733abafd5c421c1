/-! THE LAW'S LOOP -/

set_option maxRecDepth 100000 in
set_option maxHeartbeats 4000000 in
theorem law_loop {b L w : Nat} {xs : Nat → Int32} {S : mm_S} (hL : L ≤ 3072) (hW : mm_wine S w) (hM : mm_ref S (w + 308)) : ∀ (t j : Nat) (I1 : mm_I), L < j + t → j ≤ L + 6 → ag I1 w → mm_G (lw_X9 b L xs) mL_law 600000 7302250 18 [(3, .int (nI j)), (2, .ref (w + 308)), (1, .ref w), (0, .ref b)] [] S I1 315 4587 := by
  have hwk : (S.2.1 w).1 = 7 := hW.1
  have hmk : (S.2.1 (w + 308)).1 = 8 := hM.1
  intro t
  induction t with
  | zero =>
    intro j I1 hjt hjL hag
    refine mm_iload_n dL_law_18 rfl rfl ?_
    refine mm_aload_n dL_law_19 rfl rfl ?_
    refine mm_slen dL_law_20 ?_
    refine mm_bipush 6 dL_law_21 rfl ?_
    refine mm_isub dL_law_23 ?_
    refine mm_icmp_gt 906 dL_law_24 (by decide) (fun c_24 => ?_) (fun c_24 => absurd (Int32.not_le.mp (fun q => absurd ((lw_gt hL (by omega)).mp q) (by omega))) c_24)
    refine mm_iconst 1 dL_law_906 rfl ?_
    exact mm_lret dL_law_907 (by omega) (by omega)
  | succ t ih =>
    intro j I1 hjt hjL hag
    obtain ⟨s, nx, n, hs, ty, x, hA⟩ := id hag
    obtain ⟨k, hk31, hke⟩ := lw_and31 (xs j)
    refine mm_iload_n dL_law_18 rfl rfl ?_
    refine mm_aload_n dL_law_19 rfl rfl ?_
    refine mm_slen dL_law_20 ?_
    refine mm_bipush 6 dL_law_21 rfl ?_
    refine mm_isub dL_law_23 ?_
    refine mm_icmp_gt 906 dL_law_24 (by decide) (fun c_24 => ?_) (fun c_24 => ?_)
    · skip
      refine mm_iconst 1 dL_law_906 rfl ?_
      exact mm_lret dL_law_907 (by omega) (by omega)
    · skip
      have hj6 : j + 6 ≤ L := (lw_gt hL (by omega)).mp (Int32.not_lt.mp c_24)
      refine mm_aload_n dL_law_27 rfl rfl ?_
      refine mm_iload_n dL_law_28 rfl rfl ?_
      refine mm_sld dL_law_29 (vp_in_nI (by omega) (by omega)) ?_
      refine mm_tope (y := xs j) (congrArg xs (nI_clamp (by omega))) ?_
      refine mm_bipush 31 dL_law_30 rfl ?_
      refine mm_iand dL_law_32 ?_
      refine mm_tope (y := nI k) hke ?_
      rcases k with _ | k
      · skip
        refine mm_tableIn 152 dL_law_33 (by decide) (by decide) rfl (by decide) ?_
        refine mm_aload_n dL_law_152 rfl rfl ?_
        refine mm_aload_n dL_law_153 rfl rfl ?_
        refine mm_iload_n dL_law_154 rfl rfl ?_
        refine mm_iconst 1 dL_law_155 rfl ?_
        refine mm_iadd dL_law_156 ?_
        refine mm_tope (y := nI (j + 1)) (nI_add j 1) ?_
        refine mm_sld dL_law_157 (vp_in_nI (by omega) (by omega)) ?_
        refine mm_tope (y := xs (j + 1)) (congrArg xs (nI_clamp (by omega))) ?_
        refine mm_aload_n dL_law_158 rfl rfl ?_
        refine mm_iload_n dL_law_159 rfl rfl ?_
        refine mm_iconst 2 dL_law_160 rfl ?_
        refine mm_iadd dL_law_161 ?_
        refine mm_tope (y := nI (j + 2)) (nI_add j 2) ?_
        refine mm_sld dL_law_162 (vp_in_nI (by omega) (by omega)) ?_
        refine mm_tope (y := xs (j + 2)) (congrArg xs (nI_clamp (by omega))) ?_
        refine mm_Vi (hcl := by omega) (hsl := by omega) (N := mX7_lot) (ci := 7) (as := [_, _]) dL_law_163 lk_L_13 okX7_lot (by decide) rfl (by decide) rfl (by assumption) rfl (by decide) (c_lot hW hA.2.2.1 hA.1) (fun q1 J1 h1 => ?_)
        obtain ⟨e1, e2, e3, e4⟩ := hA.j1 h1.2.1
        refine mm_aload_n dL_law_166 rfl rfl ?_
        refine mm_aload_n dL_law_167 rfl rfl ?_
        refine mm_iload_n dL_law_168 rfl rfl ?_
        refine mm_iconst 1 dL_law_169 rfl ?_
        refine mm_iadd dL_law_170 ?_
        refine mm_tope (y := nI (j + 1)) (nI_add j 1) ?_
        refine mm_sld dL_law_171 (vp_in_nI (by omega) (by omega)) ?_
        refine mm_tope (y := xs (j + 1)) (congrArg xs (nI_clamp (by omega))) ?_
        refine mm_aload_n dL_law_172 rfl rfl ?_
        refine mm_iload_n dL_law_173 rfl rfl ?_
        refine mm_iconst 2 dL_law_174 rfl ?_
        refine mm_iadd dL_law_175 ?_
        refine mm_tope (y := nI (j + 2)) (nI_add j 2) ?_
        refine mm_sld dL_law_176 (vp_in_nI (by omega) (by omega)) ?_
        refine mm_tope (y := xs (j + 2)) (congrArg xs (nI_clamp (by omega))) ?_
        refine mm_Vi (hcl := by omega) (hsl := by omega) (N := mX8_lot) (ci := 8) (as := [_, _]) dL_law_177 lk_L_17 okX8_lot (by decide) rfl (by decide) rfl (by assumption) rfl (by first | decide | (simp [Value.category])) (r_lot hM (by rw [e1]; exact hA.1) (fun _ => e2)) (fun q2 J2 h2 => ?_)
        rw [e1] at h2
        obtain ⟨hqq, hag2⟩ := ag_op hA h1 h2 (Inv.lot hA.1)
        refine mm_icmp_eq 900 dL_law_180 (by decide) (fun c_180 => ?_) (fun c_180 => absurd hqq c_180)
        refine mm_iinc 6 dL_law_900 rfl rfl (Nat.le_of_ble_eq_true rfl) ?_
        rw [show nI j + 6 = nI (j + 6) from nI_add j 6]
        refine mm_goto 18 dL_law_903 (by decide) ?_
        exact mm_G.at (ih (j + 6) J2 (by omega) (by omega) hag2) (mm_s1 rfl (mm_s1 rfl (mm_s1 rfl (mm_s1 rfl mm_s0))))
      · rcases k with _ | k
        · skip
          refine mm_tableIn 185 dL_law_33 (by decide) (by decide) rfl (by decide) ?_
          refine mm_aload_n dL_law_185 rfl rfl ?_
          refine mm_aload_n dL_law_186 rfl rfl ?_
          refine mm_iload_n dL_law_187 rfl rfl ?_
          refine mm_iconst 1 dL_law_188 rfl ?_
          refine mm_iadd dL_law_189 ?_
          refine mm_tope (y := nI (j + 1)) (nI_add j 1) ?_
          refine mm_sld dL_law_190 (vp_in_nI (by omega) (by omega)) ?_
          refine mm_tope (y := xs (j + 1)) (congrArg xs (nI_clamp (by omega))) ?_
          refine mm_aload_n dL_law_191 rfl rfl ?_
          refine mm_iload_n dL_law_192 rfl rfl ?_
          refine mm_iconst 2 dL_law_193 rfl ?_
          refine mm_iadd dL_law_194 ?_
          refine mm_tope (y := nI (j + 2)) (nI_add j 2) ?_
          refine mm_sld dL_law_195 (vp_in_nI (by omega) (by omega)) ?_
          refine mm_tope (y := xs (j + 2)) (congrArg xs (nI_clamp (by omega))) ?_
          refine mm_Vi (hcl := by omega) (hsl := by omega) (N := mX7_taste) (ci := 7) (as := [_, _]) dL_law_196 lk_L_18 okX7_taste (by decide) rfl (by decide) rfl (by assumption) rfl (by decide) (c_taste hW hA.2.2.1 hA.1) (fun q1 J1 h1 => ?_)
          obtain ⟨e1, e2, e3, e4⟩ := hA.j1 h1.2.1
          refine mm_aload_n dL_law_199 rfl rfl ?_
          refine mm_aload_n dL_law_200 rfl rfl ?_
          refine mm_iload_n dL_law_201 rfl rfl ?_
          refine mm_iconst 1 dL_law_202 rfl ?_
          refine mm_iadd dL_law_203 ?_
          refine mm_tope (y := nI (j + 1)) (nI_add j 1) ?_
          refine mm_sld dL_law_204 (vp_in_nI (by omega) (by omega)) ?_
          refine mm_tope (y := xs (j + 1)) (congrArg xs (nI_clamp (by omega))) ?_
          refine mm_aload_n dL_law_205 rfl rfl ?_
          refine mm_iload_n dL_law_206 rfl rfl ?_
          refine mm_iconst 2 dL_law_207 rfl ?_
          refine mm_iadd dL_law_208 ?_
          refine mm_tope (y := nI (j + 2)) (nI_add j 2) ?_
          refine mm_sld dL_law_209 (vp_in_nI (by omega) (by omega)) ?_
          refine mm_tope (y := xs (j + 2)) (congrArg xs (nI_clamp (by omega))) ?_
          refine mm_Vi (hcl := by omega) (hsl := by omega) (N := mX8_taste) (ci := 8) (as := [_, _]) dL_law_210 lk_L_21 okX8_taste (by decide) rfl (by decide) rfl (by assumption) rfl (by first | decide | (simp [Value.category])) (r_taste hM (by rw [e1]; exact hA.1) (fun _ => e2)) (fun q2 J2 h2 => ?_)
          rw [e1] at h2
          obtain ⟨hqq, hag2⟩ := ag_op hA h1 h2 (Inv.taste hA.1)
          refine mm_icmp_eq 900 dL_law_213 (by decide) (fun c_213 => ?_) (fun c_213 => absurd hqq c_213)
          refine mm_iinc 6 dL_law_900 rfl rfl (Nat.le_of_ble_eq_true rfl) ?_
          rw [show nI j + 6 = nI (j + 6) from nI_add j 6]
          refine mm_goto 18 dL_law_903 (by decide) ?_
          exact mm_G.at (ih (j + 6) J2 (by omega) (by omega) hag2) (mm_s1 rfl (mm_s1 rfl (mm_s1 rfl (mm_s1 rfl mm_s0))))
        · rcases k with _ | k
          · skip
            refine mm_tableIn 218 dL_law_33 (by decide) (by decide) rfl (by decide) ?_
            refine mm_aload_n dL_law_218 rfl rfl ?_
            refine mm_aload_n dL_law_219 rfl rfl ?_
            refine mm_iload_n dL_law_220 rfl rfl ?_
            refine mm_iconst 1 dL_law_221 rfl ?_
            refine mm_iadd dL_law_222 ?_
            refine mm_tope (y := nI (j + 1)) (nI_add j 1) ?_
            refine mm_sld dL_law_223 (vp_in_nI (by omega) (by omega)) ?_
            refine mm_tope (y := xs (j + 1)) (congrArg xs (nI_clamp (by omega))) ?_
            refine mm_Vi (hcl := by omega) (hsl := by omega) (N := mX7_top) (ci := 7) (as := [_]) dL_law_224 lk_L_22 okX7_top (by decide) rfl (by decide) rfl (by assumption) rfl (by decide) (c_top hW hA.2.2.1 hA.1) (fun q1 J1 h1 => ?_)
            obtain ⟨e1, e2, e3, e4⟩ := hA.j1 h1.2.1
            refine mm_aload_n dL_law_227 rfl rfl ?_
            refine mm_aload_n dL_law_228 rfl rfl ?_
            refine mm_iload_n dL_law_229 rfl rfl ?_
            refine mm_iconst 1 dL_law_230 rfl ?_
            refine mm_iadd dL_law_231 ?_
            refine mm_tope (y := nI (j + 1)) (nI_add j 1) ?_
            refine mm_sld dL_law_232 (vp_in_nI (by omega) (by omega)) ?_
            refine mm_tope (y := xs (j + 1)) (congrArg xs (nI_clamp (by omega))) ?_
            refine mm_Vi (hcl := by omega) (hsl := by omega) (N := mX8_top) (ci := 8) (as := [_]) dL_law_233 lk_L_26 okX8_top (by decide) rfl (by decide) rfl (by assumption) rfl (by first | decide | (simp [Value.category])) (r_top hM (by rw [e1]; exact hA.1) (fun _ => e2)) (fun q2 J2 h2 => ?_)
            rw [e1] at h2
            obtain ⟨hqq, hag2⟩ := ag_op hA h1 h2 (Inv.top hA.1)
            refine mm_icmp_eq 900 dL_law_236 (by decide) (fun c_236 => ?_) (fun c_236 => absurd hqq c_236)
            refine mm_iinc 6 dL_law_900 rfl rfl (Nat.le_of_ble_eq_true rfl) ?_
            rw [show nI j + 6 = nI (j + 6) from nI_add j 6]
            refine mm_goto 18 dL_law_903 (by decide) ?_
            exact mm_G.at (ih (j + 6) J2 (by omega) (by omega) hag2) (mm_s1 rfl (mm_s1 rfl (mm_s1 rfl (mm_s1 rfl mm_s0))))
          · rcases k with _ | k
            · skip
              refine mm_tableIn 241 dL_law_33 (by decide) (by decide) rfl (by decide) ?_
              refine mm_aload_n dL_law_241 rfl rfl ?_
              refine mm_aload_n dL_law_242 rfl rfl ?_
              refine mm_iload_n dL_law_243 rfl rfl ?_
              refine mm_iconst 1 dL_law_244 rfl ?_
              refine mm_iadd dL_law_245 ?_
              refine mm_tope (y := nI (j + 1)) (nI_add j 1) ?_
              refine mm_sld dL_law_246 (vp_in_nI (by omega) (by omega)) ?_
              refine mm_tope (y := xs (j + 1)) (congrArg xs (nI_clamp (by omega))) ?_
              refine mm_Vi (hcl := by omega) (hsl := by omega) (N := mX7_pass) (ci := 7) (as := [_]) dL_law_247 lk_L_27 okX7_pass (by decide) rfl (by decide) rfl (by assumption) rfl (by decide) (c_pass hW hA.2.2.1 hA.1) (fun q1 J1 h1 => ?_)
              obtain ⟨e1, e2, e3, e4⟩ := hA.j1 h1.2.1
              refine mm_aload_n dL_law_250 rfl rfl ?_
              refine mm_aload_n dL_law_251 rfl rfl ?_
              refine mm_iload_n dL_law_252 rfl rfl ?_
              refine mm_iconst 1 dL_law_253 rfl ?_
              refine mm_iadd dL_law_254 ?_
              refine mm_tope (y := nI (j + 1)) (nI_add j 1) ?_
              refine mm_sld dL_law_255 (vp_in_nI (by omega) (by omega)) ?_
              refine mm_tope (y := xs (j + 1)) (congrArg xs (nI_clamp (by omega))) ?_
              refine mm_Vi (hcl := by omega) (hsl := by omega) (N := mX8_pass) (ci := 8) (as := [_]) dL_law_256 lk_L_30 okX8_pass (by decide) rfl (by decide) rfl (by assumption) rfl (by first | decide | (simp [Value.category])) (r_pass hM (by rw [e1]; exact hA.1) (fun _ => e2)) (fun q2 J2 h2 => ?_)
              rw [e1] at h2
              obtain ⟨hqq, hag2⟩ := ag_op hA h1 h2 (Inv.passes hA.1)
              refine mm_icmp_eq 900 dL_law_259 (by decide) (fun c_259 => ?_) (fun c_259 => absurd hqq c_259)
              refine mm_iinc 6 dL_law_900 rfl rfl (Nat.le_of_ble_eq_true rfl) ?_
              rw [show nI j + 6 = nI (j + 6) from nI_add j 6]
              refine mm_goto 18 dL_law_903 (by decide) ?_
              exact mm_G.at (ih (j + 6) J2 (by omega) (by omega) hag2) (mm_s1 rfl (mm_s1 rfl (mm_s1 rfl (mm_s1 rfl mm_s0))))
            · rcases k with _ | k
              · skip
                refine mm_tableIn 264 dL_law_33 (by decide) (by decide) rfl (by decide) ?_
                refine mm_aload_n dL_law_264 rfl rfl ?_
                refine mm_aload_n dL_law_265 rfl rfl ?_
                refine mm_iload_n dL_law_266 rfl rfl ?_
                refine mm_iconst 1 dL_law_267 rfl ?_
                refine mm_iadd dL_law_268 ?_
                refine mm_tope (y := nI (j + 1)) (nI_add j 1) ?_
                refine mm_sld dL_law_269 (vp_in_nI (by omega) (by omega)) ?_
                refine mm_tope (y := xs (j + 1)) (congrArg xs (nI_clamp (by omega))) ?_
                refine mm_Vi (hcl := by omega) (hsl := by omega) (N := mX7_bottle) (ci := 7) (as := [_]) dL_law_270 lk_L_31 okX7_bottle (by decide) rfl (by decide) rfl (by assumption) rfl (by decide) (c_bottle hW hA.2.2.1 hA.1) (fun q1 J1 h1 => ?_)
                obtain ⟨e1, e2, e3, e4⟩ := hA.j1 h1.2.1
                refine mm_aload_n dL_law_273 rfl rfl ?_
                refine mm_aload_n dL_law_274 rfl rfl ?_
                refine mm_iload_n dL_law_275 rfl rfl ?_
                refine mm_iconst 1 dL_law_276 rfl ?_
                refine mm_iadd dL_law_277 ?_
                refine mm_tope (y := nI (j + 1)) (nI_add j 1) ?_
                refine mm_sld dL_law_278 (vp_in_nI (by omega) (by omega)) ?_
                refine mm_tope (y := xs (j + 1)) (congrArg xs (nI_clamp (by omega))) ?_
                refine mm_Vi (hcl := by omega) (hsl := by omega) (N := mX8_bottle) (ci := 8) (as := [_]) dL_law_279 lk_L_34 okX8_bottle (by decide) rfl (by decide) rfl (by assumption) rfl (by first | decide | (simp [Value.category])) (r_bottle hM (by rw [e1]; exact hA.1) (fun _ => e2)) (fun q2 J2 h2 => ?_)
                rw [e1] at h2
                obtain ⟨hqq, hag2⟩ := ag_op hA h1 h2 (Inv.bottle hA.1)
                refine mm_icmp_eq 900 dL_law_282 (by decide) (fun c_282 => ?_) (fun c_282 => absurd hqq c_282)
                refine mm_iinc 6 dL_law_900 rfl rfl (Nat.le_of_ble_eq_true rfl) ?_
                rw [show nI j + 6 = nI (j + 6) from nI_add j 6]
                refine mm_goto 18 dL_law_903 (by decide) ?_
                exact mm_G.at (ih (j + 6) J2 (by omega) (by omega) hag2) (mm_s1 rfl (mm_s1 rfl (mm_s1 rfl (mm_s1 rfl mm_s0))))
              · rcases k with _ | k
                · skip
                  refine mm_tableIn 287 dL_law_33 (by decide) (by decide) rfl (by decide) ?_
                  refine mm_aload_n dL_law_287 rfl rfl ?_
                  refine mm_Vi (hcl := by omega) (hsl := by omega) (N := mX7_buyer) (ci := 7) (as := []) dL_law_288 lk_L_35 okX7_buyer (by decide) rfl (by decide) rfl (by assumption) rfl (by decide) (c_buyer hW hA.2.2.1 hA.1) (fun q1 J1 h1 => ?_)
                  obtain ⟨e1, e2, e3, e4⟩ := hA.j1 h1.2.1
                  refine mm_aload_n dL_law_291 rfl rfl ?_
                  refine mm_Vi (hcl := by omega) (hsl := by omega) (N := mX8_buyer) (ci := 8) (as := []) dL_law_292 lk_L_39 okX8_buyer (by decide) rfl (by decide) rfl (by assumption) rfl (by first | decide | (simp [Value.category])) (r_buyer hM (by rw [e1]; exact hA.1) (fun _ => e2)) (fun q2 J2 h2 => ?_)
                  rw [e1] at h2
                  obtain ⟨hqq, hag2⟩ := ag_op hA h1 h2 (Inv.buyer hA.1)
                  refine mm_icmp_eq 900 dL_law_295 (by decide) (fun c_295 => ?_) (fun c_295 => absurd hqq c_295)
                  refine mm_iinc 6 dL_law_900 rfl rfl (Nat.le_of_ble_eq_true rfl) ?_
                  rw [show nI j + 6 = nI (j + 6) from nI_add j 6]
                  refine mm_goto 18 dL_law_903 (by decide) ?_
                  exact mm_G.at (ih (j + 6) J2 (by omega) (by omega) hag2) (mm_s1 rfl (mm_s1 rfl (mm_s1 rfl (mm_s1 rfl mm_s0))))
                · rcases k with _ | k
                  · skip
                    refine mm_tableIn 300 dL_law_33 (by decide) (by decide) rfl (by decide) ?_
                    refine mm_aload_n dL_law_300 rfl rfl ?_
                    refine mm_aload_n dL_law_301 rfl rfl ?_
                    refine mm_iload_n dL_law_302 rfl rfl ?_
                    refine mm_iconst 1 dL_law_303 rfl ?_
                    refine mm_iadd dL_law_304 ?_
                    refine mm_tope (y := nI (j + 1)) (nI_add j 1) ?_
                    refine mm_sld dL_law_305 (vp_in_nI (by omega) (by omega)) ?_
                    refine mm_tope (y := xs (j + 1)) (congrArg xs (nI_clamp (by omega))) ?_
                    refine mm_aload_n dL_law_306 rfl rfl ?_
                    refine mm_iload_n dL_law_307 rfl rfl ?_
                    refine mm_iconst 2 dL_law_308 rfl ?_
                    refine mm_iadd dL_law_309 ?_
                    refine mm_tope (y := nI (j + 2)) (nI_add j 2) ?_
                    refine mm_sld dL_law_310 (vp_in_nI (by omega) (by omega)) ?_
                    refine mm_tope (y := xs (j + 2)) (congrArg xs (nI_clamp (by omega))) ?_
                    refine mm_aload_n dL_law_311 rfl rfl ?_
                    refine mm_iload_n dL_law_312 rfl rfl ?_
                    refine mm_iconst 3 dL_law_313 rfl ?_
                    refine mm_iadd dL_law_314 ?_
                    refine mm_tope (y := nI (j + 3)) (nI_add j 3) ?_
                    refine mm_sld dL_law_315 (vp_in_nI (by omega) (by omega)) ?_
                    refine mm_tope (y := xs (j + 3)) (congrArg xs (nI_clamp (by omega))) ?_
                    refine mm_aload_n dL_law_316 rfl rfl ?_
                    refine mm_iload_n dL_law_317 rfl rfl ?_
                    refine mm_iconst 4 dL_law_318 rfl ?_
                    refine mm_iadd dL_law_319 ?_
                    refine mm_tope (y := nI (j + 4)) (nI_add j 4) ?_
                    refine mm_sld dL_law_320 (vp_in_nI (by omega) (by omega)) ?_
                    refine mm_tope (y := xs (j + 4)) (congrArg xs (nI_clamp (by omega))) ?_
                    refine mm_Vi (hcl := by omega) (hsl := by omega) (N := mX7_sell) (ci := 7) (as := [_, _, _, _]) dL_law_321 lk_L_40 okX7_sell (by decide) rfl (by decide) rfl (by assumption) rfl (by decide) (c_sell hW hA.2.2.1 hA.1) (fun q1 J1 h1 => ?_)
                    obtain ⟨e1, e2, e3, e4⟩ := hA.j1 h1.2.1
                    refine mm_aload_n dL_law_324 rfl rfl ?_
                    refine mm_aload_n dL_law_325 rfl rfl ?_
                    refine mm_iload_n dL_law_326 rfl rfl ?_
                    refine mm_iconst 1 dL_law_327 rfl ?_
                    refine mm_iadd dL_law_328 ?_
                    refine mm_tope (y := nI (j + 1)) (nI_add j 1) ?_
                    refine mm_sld dL_law_329 (vp_in_nI (by omega) (by omega)) ?_
                    refine mm_tope (y := xs (j + 1)) (congrArg xs (nI_clamp (by omega))) ?_
                    refine mm_aload_n dL_law_330 rfl rfl ?_
                    refine mm_iload_n dL_law_331 rfl rfl ?_
                    refine mm_iconst 2 dL_law_332 rfl ?_
                    refine mm_iadd dL_law_333 ?_
                    refine mm_tope (y := nI (j + 2)) (nI_add j 2) ?_
                    refine mm_sld dL_law_334 (vp_in_nI (by omega) (by omega)) ?_
                    refine mm_tope (y := xs (j + 2)) (congrArg xs (nI_clamp (by omega))) ?_
                    refine mm_aload_n dL_law_335 rfl rfl ?_
                    refine mm_iload_n dL_law_336 rfl rfl ?_
                    refine mm_iconst 3 dL_law_337 rfl ?_
                    refine mm_iadd dL_law_338 ?_
                    refine mm_tope (y := nI (j + 3)) (nI_add j 3) ?_
                    refine mm_sld dL_law_339 (vp_in_nI (by omega) (by omega)) ?_
                    refine mm_tope (y := xs (j + 3)) (congrArg xs (nI_clamp (by omega))) ?_
                    refine mm_aload_n dL_law_340 rfl rfl ?_
                    refine mm_iload_n dL_law_341 rfl rfl ?_
                    refine mm_iconst 4 dL_law_342 rfl ?_
                    refine mm_iadd dL_law_343 ?_
                    refine mm_tope (y := nI (j + 4)) (nI_add j 4) ?_
                    refine mm_sld dL_law_344 (vp_in_nI (by omega) (by omega)) ?_
                    refine mm_tope (y := xs (j + 4)) (congrArg xs (nI_clamp (by omega))) ?_
                    refine mm_Vi (hcl := by omega) (hsl := by omega) (N := mX8_sell) (ci := 8) (as := [_, _, _, _]) dL_law_345 lk_L_44 okX8_sell (by decide) rfl (by decide) rfl (by assumption) rfl (by first | decide | (simp [Value.category])) (r_sell hM (by rw [e1]; exact hA.1) (fun _ => e2)) (fun q2 J2 h2 => ?_)
                    rw [e1] at h2
                    obtain ⟨hqq, hag2⟩ := ag_op hA h1 h2 (Inv.sell hA.1)
                    refine mm_icmp_eq 900 dL_law_348 (by decide) (fun c_348 => ?_) (fun c_348 => absurd hqq c_348)
                    refine mm_iinc 6 dL_law_900 rfl rfl (Nat.le_of_ble_eq_true rfl) ?_
                    rw [show nI j + 6 = nI (j + 6) from nI_add j 6]
                    refine mm_goto 18 dL_law_903 (by decide) ?_
                    exact mm_G.at (ih (j + 6) J2 (by omega) (by omega) hag2) (mm_s1 rfl (mm_s1 rfl (mm_s1 rfl (mm_s1 rfl mm_s0))))
                  · rcases k with _ | k
                    · skip
                      refine mm_tableIn 353 dL_law_33 (by decide) (by decide) rfl (by decide) ?_
                      refine mm_aload_n dL_law_353 rfl rfl ?_
                      refine mm_aload_n dL_law_354 rfl rfl ?_
                      refine mm_iload_n dL_law_355 rfl rfl ?_
                      refine mm_iconst 1 dL_law_356 rfl ?_
                      refine mm_iadd dL_law_357 ?_
                      refine mm_tope (y := nI (j + 1)) (nI_add j 1) ?_
                      refine mm_sld dL_law_358 (vp_in_nI (by omega) (by omega)) ?_
                      refine mm_tope (y := xs (j + 1)) (congrArg xs (nI_clamp (by omega))) ?_
                      refine mm_aload_n dL_law_359 rfl rfl ?_
                      refine mm_iload_n dL_law_360 rfl rfl ?_
                      refine mm_iconst 2 dL_law_361 rfl ?_
                      refine mm_iadd dL_law_362 ?_
                      refine mm_tope (y := nI (j + 2)) (nI_add j 2) ?_
                      refine mm_sld dL_law_363 (vp_in_nI (by omega) (by omega)) ?_
                      refine mm_tope (y := xs (j + 2)) (congrArg xs (nI_clamp (by omega))) ?_
                      refine mm_aload_n dL_law_364 rfl rfl ?_
                      refine mm_iload_n dL_law_365 rfl rfl ?_
                      refine mm_iconst 3 dL_law_366 rfl ?_
                      refine mm_iadd dL_law_367 ?_
                      refine mm_tope (y := nI (j + 3)) (nI_add j 3) ?_
                      refine mm_sld dL_law_368 (vp_in_nI (by omega) (by omega)) ?_
                      refine mm_tope (y := xs (j + 3)) (congrArg xs (nI_clamp (by omega))) ?_
                      refine mm_aload_n dL_law_369 rfl rfl ?_
                      refine mm_iload_n dL_law_370 rfl rfl ?_
                      refine mm_iconst 4 dL_law_371 rfl ?_
                      refine mm_iadd dL_law_372 ?_
                      refine mm_tope (y := nI (j + 4)) (nI_add j 4) ?_
                      refine mm_sld dL_law_373 (vp_in_nI (by omega) (by omega)) ?_
                      refine mm_tope (y := xs (j + 4)) (congrArg xs (nI_clamp (by omega))) ?_
                      refine mm_aload_n dL_law_374 rfl rfl ?_
                      refine mm_iload_n dL_law_375 rfl rfl ?_
                      refine mm_iconst 5 dL_law_376 rfl ?_
                      refine mm_iadd dL_law_377 ?_
                      refine mm_tope (y := nI (j + 5)) (nI_add j 5) ?_
                      refine mm_sld dL_law_378 (vp_in_nI (by omega) (by omega)) ?_
                      refine mm_tope (y := xs (j + 5)) (congrArg xs (nI_clamp (by omega))) ?_
                      refine mm_Vi (hcl := by omega) (hsl := by omega) (N := mX7_trade) (ci := 7) (as := [_, _, _, _, _]) dL_law_379 lk_L_45 okX7_trade (by decide) rfl (by decide) rfl (by assumption) rfl (by decide) (c_trade hW hA.2.2.1 hA.1) (fun q1 J1 h1 => ?_)
                      obtain ⟨e1, e2, e3, e4⟩ := hA.j1 h1.2.1
                      refine mm_aload_n dL_law_382 rfl rfl ?_
                      refine mm_aload_n dL_law_383 rfl rfl ?_
                      refine mm_iload_n dL_law_384 rfl rfl ?_
                      refine mm_iconst 1 dL_law_385 rfl ?_
                      refine mm_iadd dL_law_386 ?_
                      refine mm_tope (y := nI (j + 1)) (nI_add j 1) ?_
                      refine mm_sld dL_law_387 (vp_in_nI (by omega) (by omega)) ?_
                      refine mm_tope (y := xs (j + 1)) (congrArg xs (nI_clamp (by omega))) ?_
                      refine mm_aload_n dL_law_388 rfl rfl ?_
                      refine mm_iload_n dL_law_389 rfl rfl ?_
                      refine mm_iconst 2 dL_law_390 rfl ?_
                      refine mm_iadd dL_law_391 ?_
                      refine mm_tope (y := nI (j + 2)) (nI_add j 2) ?_
                      refine mm_sld dL_law_392 (vp_in_nI (by omega) (by omega)) ?_
                      refine mm_tope (y := xs (j + 2)) (congrArg xs (nI_clamp (by omega))) ?_
                      refine mm_aload_n dL_law_393 rfl rfl ?_
                      refine mm_iload_n dL_law_394 rfl rfl ?_
                      refine mm_iconst 3 dL_law_395 rfl ?_
                      refine mm_iadd dL_law_396 ?_
                      refine mm_tope (y := nI (j + 3)) (nI_add j 3) ?_
                      refine mm_sld dL_law_397 (vp_in_nI (by omega) (by omega)) ?_
                      refine mm_tope (y := xs (j + 3)) (congrArg xs (nI_clamp (by omega))) ?_
                      refine mm_aload_n dL_law_398 rfl rfl ?_
                      refine mm_iload_n dL_law_399 rfl rfl ?_
                      refine mm_iconst 4 dL_law_400 rfl ?_
                      refine mm_iadd dL_law_401 ?_
                      refine mm_tope (y := nI (j + 4)) (nI_add j 4) ?_
                      refine mm_sld dL_law_402 (vp_in_nI (by omega) (by omega)) ?_
                      refine mm_tope (y := xs (j + 4)) (congrArg xs (nI_clamp (by omega))) ?_
                      refine mm_aload_n dL_law_403 rfl rfl ?_
                      refine mm_iload_n dL_law_404 rfl rfl ?_
                      refine mm_iconst 5 dL_law_405 rfl ?_
                      refine mm_iadd dL_law_406 ?_
                      refine mm_tope (y := nI (j + 5)) (nI_add j 5) ?_
                      refine mm_sld dL_law_407 (vp_in_nI (by omega) (by omega)) ?_
                      refine mm_tope (y := xs (j + 5)) (congrArg xs (nI_clamp (by omega))) ?_
                      refine mm_Vi (hcl := by omega) (hsl := by omega) (N := mX8_trade) (ci := 8) (as := [_, _, _, _, _]) dL_law_408 lk_L_49 okX8_trade (by decide) rfl (by decide) rfl (by assumption) rfl (by first | decide | (simp [Value.category])) (r_trade hM (by rw [e1]; exact hA.1) (fun _ => e2)) (fun q2 J2 h2 => ?_)
                      rw [e1] at h2
                      obtain ⟨hqq, hag2⟩ := ag_op hA h1 h2 (Inv.trade hA.1)
                      refine mm_icmp_eq 900 dL_law_411 (by decide) (fun c_411 => ?_) (fun c_411 => absurd hqq c_411)
                      refine mm_iinc 6 dL_law_900 rfl rfl (Nat.le_of_ble_eq_true rfl) ?_
                      rw [show nI j + 6 = nI (j + 6) from nI_add j 6]
                      refine mm_goto 18 dL_law_903 (by decide) ?_
                      exact mm_G.at (ih (j + 6) J2 (by omega) (by omega) hag2) (mm_s1 rfl (mm_s1 rfl (mm_s1 rfl (mm_s1 rfl mm_s0))))
                    · rcases k with _ | k
                      · skip
                        refine mm_tableIn 416 dL_law_33 (by decide) (by decide) rfl (by decide) ?_
                        refine mm_aload_n dL_law_416 rfl rfl ?_
                        refine mm_aload_n dL_law_417 rfl rfl ?_
                        refine mm_iload_n dL_law_418 rfl rfl ?_
                        refine mm_iconst 1 dL_law_419 rfl ?_
                        refine mm_iadd dL_law_420 ?_
                        refine mm_tope (y := nI (j + 1)) (nI_add j 1) ?_
                        refine mm_sld dL_law_421 (vp_in_nI (by omega) (by omega)) ?_
                        refine mm_tope (y := xs (j + 1)) (congrArg xs (nI_clamp (by omega))) ?_
                        refine mm_aload_n dL_law_422 rfl rfl ?_
                        refine mm_iload_n dL_law_423 rfl rfl ?_
                        refine mm_iconst 2 dL_law_424 rfl ?_
                        refine mm_iadd dL_law_425 ?_
                        refine mm_tope (y := nI (j + 2)) (nI_add j 2) ?_
                        refine mm_sld dL_law_426 (vp_in_nI (by omega) (by omega)) ?_
                        refine mm_tope (y := xs (j + 2)) (congrArg xs (nI_clamp (by omega))) ?_
                        refine mm_aload_n dL_law_427 rfl rfl ?_
                        refine mm_iload_n dL_law_428 rfl rfl ?_
                        refine mm_iconst 3 dL_law_429 rfl ?_
                        refine mm_iadd dL_law_430 ?_
                        refine mm_tope (y := nI (j + 3)) (nI_add j 3) ?_
                        refine mm_sld dL_law_431 (vp_in_nI (by omega) (by omega)) ?_
                        refine mm_tope (y := xs (j + 3)) (congrArg xs (nI_clamp (by omega))) ?_
                        refine mm_Vi (hcl := by omega) (hsl := by omega) (N := mX7_redeem) (ci := 7) (as := [_, _, _]) dL_law_432 lk_L_50 okX7_redeem (by decide) rfl (by decide) rfl (by assumption) rfl (by decide) (c_redeem hW hA.2.2.1 hA.1) (fun q1 J1 h1 => ?_)
                        obtain ⟨e1, e2, e3, e4⟩ := hA.j1 h1.2.1
                        refine mm_aload_n dL_law_435 rfl rfl ?_
                        refine mm_aload_n dL_law_436 rfl rfl ?_
                        refine mm_iload_n dL_law_437 rfl rfl ?_
                        refine mm_iconst 1 dL_law_438 rfl ?_
                        refine mm_iadd dL_law_439 ?_
                        refine mm_tope (y := nI (j + 1)) (nI_add j 1) ?_
                        refine mm_sld dL_law_440 (vp_in_nI (by omega) (by omega)) ?_
                        refine mm_tope (y := xs (j + 1)) (congrArg xs (nI_clamp (by omega))) ?_
                        refine mm_aload_n dL_law_441 rfl rfl ?_
                        refine mm_iload_n dL_law_442 rfl rfl ?_
                        refine mm_iconst 2 dL_law_443 rfl ?_
                        refine mm_iadd dL_law_444 ?_
                        refine mm_tope (y := nI (j + 2)) (nI_add j 2) ?_
                        refine mm_sld dL_law_445 (vp_in_nI (by omega) (by omega)) ?_
                        refine mm_tope (y := xs (j + 2)) (congrArg xs (nI_clamp (by omega))) ?_
                        refine mm_aload_n dL_law_446 rfl rfl ?_
                        refine mm_iload_n dL_law_447 rfl rfl ?_
                        refine mm_iconst 3 dL_law_448 rfl ?_
                        refine mm_iadd dL_law_449 ?_
                        refine mm_tope (y := nI (j + 3)) (nI_add j 3) ?_
                        refine mm_sld dL_law_450 (vp_in_nI (by omega) (by omega)) ?_
                        refine mm_tope (y := xs (j + 3)) (congrArg xs (nI_clamp (by omega))) ?_
                        refine mm_Vi (hcl := by omega) (hsl := by omega) (N := mX8_redeem) (ci := 8) (as := [_, _, _]) dL_law_451 lk_L_54 okX8_redeem (by decide) rfl (by decide) rfl (by assumption) rfl (by first | decide | (simp [Value.category])) (r_redeem hM (by rw [e1]; exact hA.1) (fun _ => e2)) (fun q2 J2 h2 => ?_)
                        rw [e1] at h2
                        obtain ⟨hqq, hag2⟩ := ag_op hA h1 h2 (Inv.redeem hA.1)
                        refine mm_icmp_eq 900 dL_law_454 (by decide) (fun c_454 => ?_) (fun c_454 => absurd hqq c_454)
                        refine mm_iinc 6 dL_law_900 rfl rfl (Nat.le_of_ble_eq_true rfl) ?_
                        rw [show nI j + 6 = nI (j + 6) from nI_add j 6]
                        refine mm_goto 18 dL_law_903 (by decide) ?_
                        exact mm_G.at (ih (j + 6) J2 (by omega) (by omega) hag2) (mm_s1 rfl (mm_s1 rfl (mm_s1 rfl (mm_s1 rfl mm_s0))))
                      · rcases k with _ | k
                        · skip
                          refine mm_tableIn 459 dL_law_33 (by decide) (by decide) rfl (by decide) ?_
                          refine mm_aload_n dL_law_459 rfl rfl ?_
                          refine mm_aload_n dL_law_460 rfl rfl ?_
                          refine mm_iload_n dL_law_461 rfl rfl ?_
                          refine mm_iconst 1 dL_law_462 rfl ?_
                          refine mm_iadd dL_law_463 ?_
                          refine mm_tope (y := nI (j + 1)) (nI_add j 1) ?_
                          refine mm_sld dL_law_464 (vp_in_nI (by omega) (by omega)) ?_
                          refine mm_tope (y := xs (j + 1)) (congrArg xs (nI_clamp (by omega))) ?_
                          refine mm_aload_n dL_law_465 rfl rfl ?_
                          refine mm_iload_n dL_law_466 rfl rfl ?_
                          refine mm_iconst 2 dL_law_467 rfl ?_
                          refine mm_iadd dL_law_468 ?_
                          refine mm_tope (y := nI (j + 2)) (nI_add j 2) ?_
                          refine mm_sld dL_law_469 (vp_in_nI (by omega) (by omega)) ?_
                          refine mm_tope (y := xs (j + 2)) (congrArg xs (nI_clamp (by omega))) ?_
                          refine mm_Vi (hcl := by omega) (hsl := by omega) (N := mX7_set) (ci := 7) (as := [_, _]) dL_law_470 lk_L_55 okX7_set (by decide) rfl (by decide) rfl (by assumption) rfl (by decide) (c_set hW hA.2.2.1 hA.1) (fun q1 J1 h1 => ?_)
                          obtain ⟨e1, e2, e3, e4⟩ := hA.j1 h1.2.1
                          refine mm_aload_n dL_law_473 rfl rfl ?_
                          refine mm_aload_n dL_law_474 rfl rfl ?_
                          refine mm_iload_n dL_law_475 rfl rfl ?_
                          refine mm_iconst 1 dL_law_476 rfl ?_
                          refine mm_iadd dL_law_477 ?_
                          refine mm_tope (y := nI (j + 1)) (nI_add j 1) ?_
                          refine mm_sld dL_law_478 (vp_in_nI (by omega) (by omega)) ?_
                          refine mm_tope (y := xs (j + 1)) (congrArg xs (nI_clamp (by omega))) ?_
                          refine mm_aload_n dL_law_479 rfl rfl ?_
                          refine mm_iload_n dL_law_480 rfl rfl ?_
                          refine mm_iconst 2 dL_law_481 rfl ?_
                          refine mm_iadd dL_law_482 ?_
                          refine mm_tope (y := nI (j + 2)) (nI_add j 2) ?_
                          refine mm_sld dL_law_483 (vp_in_nI (by omega) (by omega)) ?_
                          refine mm_tope (y := xs (j + 2)) (congrArg xs (nI_clamp (by omega))) ?_
                          refine mm_Vi (hcl := by omega) (hsl := by omega) (N := mX8_set) (ci := 8) (as := [_, _]) dL_law_484 lk_L_58 okX8_set (by decide) rfl (by decide) rfl (by assumption) rfl (by first | decide | (simp [Value.category])) (r_set hM (by rw [e1]; exact hA.1) (fun _ => e2)) (fun q2 J2 h2 => ?_)
                          rw [e1] at h2
                          obtain ⟨hqq, hag2⟩ := ag_op hA h1 h2 (Inv.set hA.1)
                          refine mm_icmp_eq 900 dL_law_487 (by decide) (fun c_487 => ?_) (fun c_487 => absurd hqq c_487)
                          refine mm_iinc 6 dL_law_900 rfl rfl (Nat.le_of_ble_eq_true rfl) ?_
                          rw [show nI j + 6 = nI (j + 6) from nI_add j 6]
                          refine mm_goto 18 dL_law_903 (by decide) ?_
                          exact mm_G.at (ih (j + 6) J2 (by omega) (by omega) hag2) (mm_s1 rfl (mm_s1 rfl (mm_s1 rfl (mm_s1 rfl mm_s0))))
                        · rcases k with _ | k
                          · skip
                            refine mm_tableIn 492 dL_law_33 (by decide) (by decide) rfl (by decide) ?_
                            refine mm_aload_n dL_law_492 rfl rfl ?_
                            refine mm_aload_n dL_law_493 rfl rfl ?_
                            refine mm_iload_n dL_law_494 rfl rfl ?_
                            refine mm_iconst 1 dL_law_495 rfl ?_
                            refine mm_iadd dL_law_496 ?_
                            refine mm_tope (y := nI (j + 1)) (nI_add j 1) ?_
                            refine mm_sld dL_law_497 (vp_in_nI (by omega) (by omega)) ?_
                            refine mm_tope (y := xs (j + 1)) (congrArg xs (nI_clamp (by omega))) ?_
                            refine mm_aload_n dL_law_498 rfl rfl ?_
                            refine mm_iload_n dL_law_499 rfl rfl ?_
                            refine mm_iconst 2 dL_law_500 rfl ?_
                            refine mm_iadd dL_law_501 ?_
                            refine mm_tope (y := nI (j + 2)) (nI_add j 2) ?_
                            refine mm_sld dL_law_502 (vp_in_nI (by omega) (by omega)) ?_
                            refine mm_tope (y := xs (j + 2)) (congrArg xs (nI_clamp (by omega))) ?_
                            refine mm_Vi (hcl := by omega) (hsl := by omega) (N := mX7_lotOf) (ci := 7) (as := [_, _]) dL_law_503 lk_L_59 okX7_lotOf (by decide) rfl (by decide) rfl (by assumption) rfl (by decide) (c_lotOf hW hA.2.2.1 hA.1) (fun q1 J1 h1 => ?_)
                            obtain ⟨e1, e2, e3, e4⟩ := hA.j1 h1.2.2
                            refine mm_aload_n dL_law_506 rfl rfl ?_
                            refine mm_aload_n dL_law_507 rfl rfl ?_
                            refine mm_iload_n dL_law_508 rfl rfl ?_
                            refine mm_iconst 1 dL_law_509 rfl ?_
                            refine mm_iadd dL_law_510 ?_
                            refine mm_tope (y := nI (j + 1)) (nI_add j 1) ?_
                            refine mm_sld dL_law_511 (vp_in_nI (by omega) (by omega)) ?_
                            refine mm_tope (y := xs (j + 1)) (congrArg xs (nI_clamp (by omega))) ?_
                            refine mm_aload_n dL_law_512 rfl rfl ?_
                            refine mm_iload_n dL_law_513 rfl rfl ?_
                            refine mm_iconst 2 dL_law_514 rfl ?_
                            refine mm_iadd dL_law_515 ?_
                            refine mm_tope (y := nI (j + 2)) (nI_add j 2) ?_
                            refine mm_sld dL_law_516 (vp_in_nI (by omega) (by omega)) ?_
                            refine mm_tope (y := xs (j + 2)) (congrArg xs (nI_clamp (by omega))) ?_
                            refine mm_Vi (hcl := by omega) (hsl := by omega) (N := mX8_lotOf) (ci := 8) (as := [_, _]) dL_law_517 lk_L_62 okX8_lotOf (by decide) rfl (by decide) rfl (by assumption) rfl (by first | decide | (simp [Value.category])) (r_lotOf hM (by rw [e1]; exact hA.1)) (fun q2 J2 h2 => ?_)
                            rw [e1] at h2
                            obtain ⟨hqq, hag2⟩ := ag_ask hA h1 h2
                            refine mm_icmp_eq 900 dL_law_520 (by decide) (fun c_520 => ?_) (fun c_520 => absurd hqq c_520)
                            refine mm_iinc 6 dL_law_900 rfl rfl (Nat.le_of_ble_eq_true rfl) ?_
                            rw [show nI j + 6 = nI (j + 6) from nI_add j 6]
                            refine mm_goto 18 dL_law_903 (by decide) ?_
                            exact mm_G.at (ih (j + 6) J2 (by omega) (by omega) hag2) (mm_s1 rfl (mm_s1 rfl (mm_s1 rfl (mm_s1 rfl mm_s0))))
                          · rcases k with _ | k
                            · skip
                              refine mm_tableIn 525 dL_law_33 (by decide) (by decide) rfl (by decide) ?_
                              refine mm_aload_n dL_law_525 rfl rfl ?_
                              refine mm_aload_n dL_law_526 rfl rfl ?_
                              refine mm_iload_n dL_law_527 rfl rfl ?_
                              refine mm_iconst 1 dL_law_528 rfl ?_
                              refine mm_iadd dL_law_529 ?_
                              refine mm_tope (y := nI (j + 1)) (nI_add j 1) ?_
                              refine mm_sld dL_law_530 (vp_in_nI (by omega) (by omega)) ?_
                              refine mm_tope (y := xs (j + 1)) (congrArg xs (nI_clamp (by omega))) ?_
                              refine mm_aload_n dL_law_531 rfl rfl ?_
                              refine mm_iload_n dL_law_532 rfl rfl ?_
                              refine mm_iconst 2 dL_law_533 rfl ?_
                              refine mm_iadd dL_law_534 ?_
                              refine mm_tope (y := nI (j + 2)) (nI_add j 2) ?_
                              refine mm_sld dL_law_535 (vp_in_nI (by omega) (by omega)) ?_
                              refine mm_tope (y := xs (j + 2)) (congrArg xs (nI_clamp (by omega))) ?_
                              refine mm_Vi (hcl := by omega) (hsl := by omega) (N := mX7_barrel) (ci := 7) (as := [_, _]) dL_law_536 lk_L_63 okX7_barrel (by decide) rfl (by decide) rfl (by assumption) rfl (by decide) (c_barrel hW hA.2.2.1 hA.1) (fun q1 J1 h1 => ?_)
                              obtain ⟨e1, e2, e3, e4⟩ := hA.j1 h1.2.2
                              refine mm_aload_n dL_law_539 rfl rfl ?_
                              refine mm_aload_n dL_law_540 rfl rfl ?_
                              refine mm_iload_n dL_law_541 rfl rfl ?_
                              refine mm_iconst 1 dL_law_542 rfl ?_
                              refine mm_iadd dL_law_543 ?_
                              refine mm_tope (y := nI (j + 1)) (nI_add j 1) ?_
                              refine mm_sld dL_law_544 (vp_in_nI (by omega) (by omega)) ?_
                              refine mm_tope (y := xs (j + 1)) (congrArg xs (nI_clamp (by omega))) ?_
                              refine mm_aload_n dL_law_545 rfl rfl ?_
                              refine mm_iload_n dL_law_546 rfl rfl ?_
                              refine mm_iconst 2 dL_law_547 rfl ?_
                              refine mm_iadd dL_law_548 ?_
                              refine mm_tope (y := nI (j + 2)) (nI_add j 2) ?_
                              refine mm_sld dL_law_549 (vp_in_nI (by omega) (by omega)) ?_
                              refine mm_tope (y := xs (j + 2)) (congrArg xs (nI_clamp (by omega))) ?_
                              refine mm_Vi (hcl := by omega) (hsl := by omega) (N := mX8_barrel) (ci := 8) (as := [_, _]) dL_law_550 lk_L_66 okX8_barrel (by decide) rfl (by decide) rfl (by assumption) rfl (by first | decide | (simp [Value.category])) (r_barrel hM (by rw [e1]; exact hA.1)) (fun q2 J2 h2 => ?_)
                              rw [e1] at h2
                              obtain ⟨hqq, hag2⟩ := ag_ask hA h1 h2
                              refine mm_icmp_eq 900 dL_law_553 (by decide) (fun c_553 => ?_) (fun c_553 => absurd hqq c_553)
                              refine mm_iinc 6 dL_law_900 rfl rfl (Nat.le_of_ble_eq_true rfl) ?_
                              rw [show nI j + 6 = nI (j + 6) from nI_add j 6]
                              refine mm_goto 18 dL_law_903 (by decide) ?_
                              exact mm_G.at (ih (j + 6) J2 (by omega) (by omega) hag2) (mm_s1 rfl (mm_s1 rfl (mm_s1 rfl (mm_s1 rfl mm_s0))))
                            · rcases k with _ | k
                              · skip
                                refine mm_tableIn 558 dL_law_33 (by decide) (by decide) rfl (by decide) ?_
                                refine mm_aload_n dL_law_558 rfl rfl ?_
                                refine mm_aload_n dL_law_559 rfl rfl ?_
                                refine mm_iload_n dL_law_560 rfl rfl ?_
                                refine mm_iconst 1 dL_law_561 rfl ?_
                                refine mm_iadd dL_law_562 ?_
                                refine mm_tope (y := nI (j + 1)) (nI_add j 1) ?_
                                refine mm_sld dL_law_563 (vp_in_nI (by omega) (by omega)) ?_
                                refine mm_tope (y := xs (j + 1)) (congrArg xs (nI_clamp (by omega))) ?_
                                refine mm_aload_n dL_law_564 rfl rfl ?_
                                refine mm_iload_n dL_law_565 rfl rfl ?_
                                refine mm_iconst 2 dL_law_566 rfl ?_
                                refine mm_iadd dL_law_567 ?_
                                refine mm_tope (y := nI (j + 2)) (nI_add j 2) ?_
                                refine mm_sld dL_law_568 (vp_in_nI (by omega) (by omega)) ?_
                                refine mm_tope (y := xs (j + 2)) (congrArg xs (nI_clamp (by omega))) ?_
                                refine mm_aload_n dL_law_569 rfl rfl ?_
                                refine mm_iload_n dL_law_570 rfl rfl ?_
                                refine mm_iconst 3 dL_law_571 rfl ?_
                                refine mm_iadd dL_law_572 ?_
                                refine mm_tope (y := nI (j + 3)) (nI_add j 3) ?_
                                refine mm_sld dL_law_573 (vp_in_nI (by omega) (by omega)) ?_
                                refine mm_tope (y := xs (j + 3)) (congrArg xs (nI_clamp (by omega))) ?_
                                refine mm_Vi (hcl := by omega) (hsl := by omega) (N := mX7_holding) (ci := 7) (as := [_, _, _]) dL_law_574 lk_L_67 okX7_holding (by decide) rfl (by decide) rfl (by assumption) rfl (by decide) (c_holding zf_flH zf_flB hW hA.2.2.1 hA.1) (fun q1 J1 h1 => ?_)
                                obtain ⟨e1, e2, e3, e4⟩ := hA.j1 h1.2.2
                                refine mm_aload_n dL_law_577 rfl rfl ?_
                                refine mm_aload_n dL_law_578 rfl rfl ?_
                                refine mm_iload_n dL_law_579 rfl rfl ?_
                                refine mm_iconst 1 dL_law_580 rfl ?_
                                refine mm_iadd dL_law_581 ?_
                                refine mm_tope (y := nI (j + 1)) (nI_add j 1) ?_
                                refine mm_sld dL_law_582 (vp_in_nI (by omega) (by omega)) ?_
                                refine mm_tope (y := xs (j + 1)) (congrArg xs (nI_clamp (by omega))) ?_
                                refine mm_aload_n dL_law_583 rfl rfl ?_
                                refine mm_iload_n dL_law_584 rfl rfl ?_
                                refine mm_iconst 2 dL_law_585 rfl ?_
                                refine mm_iadd dL_law_586 ?_
                                refine mm_tope (y := nI (j + 2)) (nI_add j 2) ?_
                                refine mm_sld dL_law_587 (vp_in_nI (by omega) (by omega)) ?_
                                refine mm_tope (y := xs (j + 2)) (congrArg xs (nI_clamp (by omega))) ?_
                                refine mm_aload_n dL_law_588 rfl rfl ?_
                                refine mm_iload_n dL_law_589 rfl rfl ?_
                                refine mm_iconst 3 dL_law_590 rfl ?_
                                refine mm_iadd dL_law_591 ?_
                                refine mm_tope (y := nI (j + 3)) (nI_add j 3) ?_
                                refine mm_sld dL_law_592 (vp_in_nI (by omega) (by omega)) ?_
                                refine mm_tope (y := xs (j + 3)) (congrArg xs (nI_clamp (by omega))) ?_
                                refine mm_Vi (hcl := by omega) (hsl := by omega) (N := mX8_holding) (ci := 8) (as := [_, _, _]) dL_law_593 lk_L_70 okX8_holding (by decide) rfl (by decide) rfl (by assumption) rfl (by first | decide | (simp [Value.category])) (r_holding zf_flH hM (by rw [e1]; exact hA.1)) (fun q2 J2 h2 => ?_)
                                rw [e1] at h2
                                obtain ⟨hqq, hag2⟩ := ag_ask hA h1 h2
                                refine mm_icmp_eq 900 dL_law_596 (by decide) (fun c_596 => ?_) (fun c_596 => absurd hqq c_596)
                                refine mm_iinc 6 dL_law_900 rfl rfl (Nat.le_of_ble_eq_true rfl) ?_
                                rw [show nI j + 6 = nI (j + 6) from nI_add j 6]
                                refine mm_goto 18 dL_law_903 (by decide) ?_
                                exact mm_G.at (ih (j + 6) J2 (by omega) (by omega) hag2) (mm_s1 rfl (mm_s1 rfl (mm_s1 rfl (mm_s1 rfl mm_s0))))
                              · rcases k with _ | k
                                · skip
                                  refine mm_tableIn 601 dL_law_33 (by decide) (by decide) rfl (by decide) ?_
                                  refine mm_aload_n dL_law_601 rfl rfl ?_
                                  refine mm_aload_n dL_law_602 rfl rfl ?_
                                  refine mm_iload_n dL_law_603 rfl rfl ?_
                                  refine mm_iconst 1 dL_law_604 rfl ?_
                                  refine mm_iadd dL_law_605 ?_
                                  refine mm_tope (y := nI (j + 1)) (nI_add j 1) ?_
                                  refine mm_sld dL_law_606 (vp_in_nI (by omega) (by omega)) ?_
                                  refine mm_tope (y := xs (j + 1)) (congrArg xs (nI_clamp (by omega))) ?_
                                  refine mm_Vi (hcl := by omega) (hsl := by omega) (N := mX7_account) (ci := 7) (as := [_]) dL_law_607 lk_L_71 okX7_account (by decide) rfl (by decide) rfl (by assumption) rfl (by decide) (c_account hW hA.2.2.1 hA.1) (fun q1 J1 h1 => ?_)
                                  obtain ⟨e1, e2, e3, e4⟩ := hA.j1 h1.2.2
                                  refine mm_aload_n dL_law_610 rfl rfl ?_
                                  refine mm_aload_n dL_law_611 rfl rfl ?_
                                  refine mm_iload_n dL_law_612 rfl rfl ?_
                                  refine mm_iconst 1 dL_law_613 rfl ?_
                                  refine mm_iadd dL_law_614 ?_
                                  refine mm_tope (y := nI (j + 1)) (nI_add j 1) ?_
                                  refine mm_sld dL_law_615 (vp_in_nI (by omega) (by omega)) ?_
                                  refine mm_tope (y := xs (j + 1)) (congrArg xs (nI_clamp (by omega))) ?_
                                  refine mm_Vi (hcl := by omega) (hsl := by omega) (N := mX8_account) (ci := 8) (as := [_]) dL_law_616 lk_L_74 okX8_account (by decide) rfl (by decide) rfl (by assumption) rfl (by first | decide | (simp [Value.category])) (r_account hM (by rw [e1]; exact hA.1)) (fun q2 J2 h2 => ?_)
                                  rw [e1] at h2
                                  obtain ⟨hqq, hag2⟩ := ag_ask hA h1 h2
                                  refine mm_icmp_eq 900 dL_law_619 (by decide) (fun c_619 => ?_) (fun c_619 => absurd hqq c_619)
                                  refine mm_iinc 6 dL_law_900 rfl rfl (Nat.le_of_ble_eq_true rfl) ?_
                                  rw [show nI j + 6 = nI (j + 6) from nI_add j 6]
                                  refine mm_goto 18 dL_law_903 (by decide) ?_
                                  exact mm_G.at (ih (j + 6) J2 (by omega) (by omega) hag2) (mm_s1 rfl (mm_s1 rfl (mm_s1 rfl (mm_s1 rfl mm_s0))))
                                · rcases k with _ | k
                                  · skip
                                    refine mm_tableIn 624 dL_law_33 (by decide) (by decide) rfl (by decide) ?_
                                    refine mm_aload_n dL_law_624 rfl rfl ?_
                                    refine mm_aload_n dL_law_625 rfl rfl ?_
                                    refine mm_iload_n dL_law_626 rfl rfl ?_
                                    refine mm_iconst 1 dL_law_627 rfl ?_
                                    refine mm_iadd dL_law_628 ?_
                                    refine mm_tope (y := nI (j + 1)) (nI_add j 1) ?_
                                    refine mm_sld dL_law_629 (vp_in_nI (by omega) (by omega)) ?_
                                    refine mm_tope (y := xs (j + 1)) (congrArg xs (nI_clamp (by omega))) ?_
                                    refine mm_aload_n dL_law_630 rfl rfl ?_
                                    refine mm_iload_n dL_law_631 rfl rfl ?_
                                    refine mm_iconst 2 dL_law_632 rfl ?_
                                    refine mm_iadd dL_law_633 ?_
                                    refine mm_tope (y := nI (j + 2)) (nI_add j 2) ?_
                                    refine mm_sld dL_law_634 (vp_in_nI (by omega) (by omega)) ?_
                                    refine mm_tope (y := xs (j + 2)) (congrArg xs (nI_clamp (by omega))) ?_
                                    refine mm_Vi (hcl := by omega) (hsl := by omega) (N := mX7_entry) (ci := 7) (as := [_, _]) dL_law_635 lk_L_75 okX7_entry (by decide) rfl (by decide) rfl (by assumption) rfl (by decide) (c_entry hW hA.2.2.1 hA.1) (fun q1 J1 h1 => ?_)
                                    obtain ⟨e1, e2, e3, e4⟩ := hA.j1 h1.2.2
                                    refine mm_aload_n dL_law_638 rfl rfl ?_
                                    refine mm_aload_n dL_law_639 rfl rfl ?_
                                    refine mm_iload_n dL_law_640 rfl rfl ?_
                                    refine mm_iconst 1 dL_law_641 rfl ?_
                                    refine mm_iadd dL_law_642 ?_
                                    refine mm_tope (y := nI (j + 1)) (nI_add j 1) ?_
                                    refine mm_sld dL_law_643 (vp_in_nI (by omega) (by omega)) ?_
                                    refine mm_tope (y := xs (j + 1)) (congrArg xs (nI_clamp (by omega))) ?_
                                    refine mm_aload_n dL_law_644 rfl rfl ?_
                                    refine mm_iload_n dL_law_645 rfl rfl ?_
                                    refine mm_iconst 2 dL_law_646 rfl ?_
                                    refine mm_iadd dL_law_647 ?_
                                    refine mm_tope (y := nI (j + 2)) (nI_add j 2) ?_
                                    refine mm_sld dL_law_648 (vp_in_nI (by omega) (by omega)) ?_
                                    refine mm_tope (y := xs (j + 2)) (congrArg xs (nI_clamp (by omega))) ?_
                                    refine mm_Vi (hcl := by omega) (hsl := by omega) (N := mX8_entry) (ci := 8) (as := [_, _]) dL_law_649 lk_L_78 okX8_entry (by decide) rfl (by decide) rfl (by assumption) rfl (by first | decide | (simp [Value.category])) (r_entry hM (by rw [e1]; exact hA.1)) (fun q2 J2 h2 => ?_)
                                    rw [e1] at h2
                                    obtain ⟨hqq, hag2⟩ := ag_ask hA h1 h2
                                    refine mm_icmp_eq 900 dL_law_652 (by decide) (fun c_652 => ?_) (fun c_652 => absurd hqq c_652)
                                    refine mm_iinc 6 dL_law_900 rfl rfl (Nat.le_of_ble_eq_true rfl) ?_
                                    rw [show nI j + 6 = nI (j + 6) from nI_add j 6]
                                    refine mm_goto 18 dL_law_903 (by decide) ?_
                                    exact mm_G.at (ih (j + 6) J2 (by omega) (by omega) hag2) (mm_s1 rfl (mm_s1 rfl (mm_s1 rfl (mm_s1 rfl mm_s0))))
                                  · rcases k with _ | k
                                    · skip
                                      refine mm_tableIn 657 dL_law_33 (by decide) (by decide) rfl (by decide) ?_
                                      refine mm_aload_n dL_law_657 rfl rfl ?_
                                      refine mm_aload_n dL_law_658 rfl rfl ?_
                                      refine mm_iload_n dL_law_659 rfl rfl ?_
                                      refine mm_iconst 1 dL_law_660 rfl ?_
                                      refine mm_iadd dL_law_661 ?_
                                      refine mm_tope (y := nI (j + 1)) (nI_add j 1) ?_
                                      refine mm_sld dL_law_662 (vp_in_nI (by omega) (by omega)) ?_
                                      refine mm_tope (y := xs (j + 1)) (congrArg xs (nI_clamp (by omega))) ?_
                                      refine mm_aload_n dL_law_663 rfl rfl ?_
                                      refine mm_iload_n dL_law_664 rfl rfl ?_
                                      refine mm_iconst 2 dL_law_665 rfl ?_
                                      refine mm_iadd dL_law_666 ?_
                                      refine mm_tope (y := nI (j + 2)) (nI_add j 2) ?_
                                      refine mm_sld dL_law_667 (vp_in_nI (by omega) (by omega)) ?_
                                      refine mm_tope (y := xs (j + 2)) (congrArg xs (nI_clamp (by omega))) ?_
                                      refine mm_Vi (hcl := by omega) (hsl := by omega) (N := mX7_cases) (ci := 7) (as := [_, _]) dL_law_668 lk_L_79 okX7_cases (by decide) rfl (by decide) rfl (by assumption) rfl (by decide) (c_cases hW hA.2.2.1 hA.1) (fun q1 J1 h1 => ?_)
                                      obtain ⟨e1, e2, e3, e4⟩ := hA.j1 h1.2.2
                                      refine mm_aload_n dL_law_671 rfl rfl ?_
                                      refine mm_aload_n dL_law_672 rfl rfl ?_
                                      refine mm_iload_n dL_law_673 rfl rfl ?_
                                      refine mm_iconst 1 dL_law_674 rfl ?_
                                      refine mm_iadd dL_law_675 ?_
                                      refine mm_tope (y := nI (j + 1)) (nI_add j 1) ?_
                                      refine mm_sld dL_law_676 (vp_in_nI (by omega) (by omega)) ?_
                                      refine mm_tope (y := xs (j + 1)) (congrArg xs (nI_clamp (by omega))) ?_
                                      refine mm_aload_n dL_law_677 rfl rfl ?_
                                      refine mm_iload_n dL_law_678 rfl rfl ?_
                                      refine mm_iconst 2 dL_law_679 rfl ?_
                                      refine mm_iadd dL_law_680 ?_
                                      refine mm_tope (y := nI (j + 2)) (nI_add j 2) ?_
                                      refine mm_sld dL_law_681 (vp_in_nI (by omega) (by omega)) ?_
                                      refine mm_tope (y := xs (j + 2)) (congrArg xs (nI_clamp (by omega))) ?_
                                      refine mm_Vi (hcl := by omega) (hsl := by omega) (N := mX8_cases) (ci := 8) (as := [_, _]) dL_law_682 lk_L_82 okX8_cases (by decide) rfl (by decide) rfl (by assumption) rfl (by first | decide | (simp [Value.category])) (r_cases hM (by rw [e1]; exact hA.1)) (fun q2 J2 h2 => ?_)
                                      rw [e1] at h2
                                      obtain ⟨hqq, hag2⟩ := ag_ask hA h1 h2
                                      refine mm_icmp_eq 900 dL_law_685 (by decide) (fun c_685 => ?_) (fun c_685 => absurd hqq c_685)
                                      refine mm_iinc 6 dL_law_900 rfl rfl (Nat.le_of_ble_eq_true rfl) ?_
                                      rw [show nI j + 6 = nI (j + 6) from nI_add j 6]
                                      refine mm_goto 18 dL_law_903 (by decide) ?_
                                      exact mm_G.at (ih (j + 6) J2 (by omega) (by omega) hag2) (mm_s1 rfl (mm_s1 rfl (mm_s1 rfl (mm_s1 rfl mm_s0))))
                                    · rcases k with _ | k
                                      · skip
                                        refine mm_tableIn 690 dL_law_33 (by decide) (by decide) rfl (by decide) ?_
                                        refine mm_aload_n dL_law_690 rfl rfl ?_
                                        refine mm_aload_n dL_law_691 rfl rfl ?_
                                        refine mm_iload_n dL_law_692 rfl rfl ?_
                                        refine mm_iconst 1 dL_law_693 rfl ?_
                                        refine mm_iadd dL_law_694 ?_
                                        refine mm_tope (y := nI (j + 1)) (nI_add j 1) ?_
                                        refine mm_sld dL_law_695 (vp_in_nI (by omega) (by omega)) ?_
                                        refine mm_tope (y := xs (j + 1)) (congrArg xs (nI_clamp (by omega))) ?_
                                        refine mm_Vi (hcl := by omega) (hsl := by omega) (N := mX7_sellable) (ci := 7) (as := [_]) dL_law_696 lk_L_83 okX7_sellable (by decide) rfl (by decide) rfl (by assumption) rfl (by decide) (c_sellable hW hA.2.2.1 hA.1) (fun q1 J1 h1 => ?_)
                                        obtain ⟨e1, e2, e3, e4⟩ := hA.j1 h1.2.2
                                        refine mm_aload_n dL_law_699 rfl rfl ?_
                                        refine mm_aload_n dL_law_700 rfl rfl ?_
                                        refine mm_iload_n dL_law_701 rfl rfl ?_
                                        refine mm_iconst 1 dL_law_702 rfl ?_
                                        refine mm_iadd dL_law_703 ?_
                                        refine mm_tope (y := nI (j + 1)) (nI_add j 1) ?_
                                        refine mm_sld dL_law_704 (vp_in_nI (by omega) (by omega)) ?_
                                        refine mm_tope (y := xs (j + 1)) (congrArg xs (nI_clamp (by omega))) ?_
                                        refine mm_Vi (hcl := by omega) (hsl := by omega) (N := mX8_sellable) (ci := 8) (as := [_]) dL_law_705 lk_L_86 okX8_sellable (by decide) rfl (by decide) rfl (by assumption) rfl (by first | decide | (simp [Value.category])) (r_sellable hM (by rw [e1]; exact hA.1)) (fun q2 J2 h2 => ?_)
                                        rw [e1] at h2
                                        obtain ⟨hqq, hag2⟩ := ag_ask hA h1 h2
                                        refine mm_icmp_eq 900 dL_law_708 (by decide) (fun c_708 => ?_) (fun c_708 => absurd hqq c_708)
                                        refine mm_iinc 6 dL_law_900 rfl rfl (Nat.le_of_ble_eq_true rfl) ?_
                                        rw [show nI j + 6 = nI (j + 6) from nI_add j 6]
                                        refine mm_goto 18 dL_law_903 (by decide) ?_
                                        exact mm_G.at (ih (j + 6) J2 (by omega) (by omega) hag2) (mm_s1 rfl (mm_s1 rfl (mm_s1 rfl (mm_s1 rfl mm_s0))))
                                      · rcases k with _ | k
                                        · skip
                                          refine mm_tableIn 713 dL_law_33 (by decide) (by decide) rfl (by decide) ?_
                                          refine mm_aload_n dL_law_713 rfl rfl ?_
                                          refine mm_aload_n dL_law_714 rfl rfl ?_
                                          refine mm_iload_n dL_law_715 rfl rfl ?_
                                          refine mm_iconst 1 dL_law_716 rfl ?_
                                          refine mm_iadd dL_law_717 ?_
                                          refine mm_tope (y := nI (j + 1)) (nI_add j 1) ?_
                                          refine mm_sld dL_law_718 (vp_in_nI (by omega) (by omega)) ?_
                                          refine mm_tope (y := xs (j + 1)) (congrArg xs (nI_clamp (by omega))) ?_
                                          refine mm_Vi (hcl := by omega) (hsl := by omega) (N := mX7_deadline) (ci := 7) (as := [_]) dL_law_719 lk_L_87 okX7_deadline (by decide) rfl (by decide) rfl (by assumption) rfl (by decide) (c_deadline hW hA.2.2.1 hA.1) (fun q1 J1 h1 => ?_)
                                          obtain ⟨e1, e2, e3, e4⟩ := hA.j1 h1.2.2
                                          refine mm_aload_n dL_law_722 rfl rfl ?_
                                          refine mm_aload_n dL_law_723 rfl rfl ?_
                                          refine mm_iload_n dL_law_724 rfl rfl ?_
                                          refine mm_iconst 1 dL_law_725 rfl ?_
                                          refine mm_iadd dL_law_726 ?_
                                          refine mm_tope (y := nI (j + 1)) (nI_add j 1) ?_
                                          refine mm_sld dL_law_727 (vp_in_nI (by omega) (by omega)) ?_
                                          refine mm_tope (y := xs (j + 1)) (congrArg xs (nI_clamp (by omega))) ?_
                                          refine mm_Vi (hcl := by omega) (hsl := by omega) (N := mX8_deadline) (ci := 8) (as := [_]) dL_law_728 lk_L_90 okX8_deadline (by decide) rfl (by decide) rfl (by assumption) rfl (by first | decide | (simp [Value.category])) (r_deadline hM (by rw [e1]; exact hA.1)) (fun q2 J2 h2 => ?_)
                                          rw [e1] at h2
                                          obtain ⟨hqq, hag2⟩ := ag_ask hA h1 h2
                                          refine mm_icmp_eq 900 dL_law_731 (by decide) (fun c_731 => ?_) (fun c_731 => absurd hqq c_731)
                                          refine mm_iinc 6 dL_law_900 rfl rfl (Nat.le_of_ble_eq_true rfl) ?_
                                          rw [show nI j + 6 = nI (j + 6) from nI_add j 6]
                                          refine mm_goto 18 dL_law_903 (by decide) ?_
                                          exact mm_G.at (ih (j + 6) J2 (by omega) (by omega) hag2) (mm_s1 rfl (mm_s1 rfl (mm_s1 rfl (mm_s1 rfl mm_s0))))
                                        · rcases k with _ | k
                                          · skip
                                            refine mm_tableIn 736 dL_law_33 (by decide) (by decide) rfl (by decide) ?_
                                            refine mm_aload_n dL_law_736 rfl rfl ?_
                                            refine mm_aload_n dL_law_737 rfl rfl ?_
                                            refine mm_iload_n dL_law_738 rfl rfl ?_
                                            refine mm_iconst 1 dL_law_739 rfl ?_
                                            refine mm_iadd dL_law_740 ?_
                                            refine mm_tope (y := nI (j + 1)) (nI_add j 1) ?_
                                            refine mm_sld dL_law_741 (vp_in_nI (by omega) (by omega)) ?_
                                            refine mm_tope (y := xs (j + 1)) (congrArg xs (nI_clamp (by omega))) ?_
                                            refine mm_Vi (hcl := by omega) (hsl := by omega) (N := mX7_topping) (ci := 7) (as := [_]) dL_law_742 lk_L_91 okX7_topping (by decide) rfl (by decide) rfl (by assumption) rfl (by decide) (c_topping hW hA.2.2.1 hA.1) (fun q1 J1 h1 => ?_)
                                            obtain ⟨e1, e2, e3, e4⟩ := hA.j1 h1.2.2
                                            refine mm_aload_n dL_law_745 rfl rfl ?_
                                            refine mm_aload_n dL_law_746 rfl rfl ?_
                                            refine mm_iload_n dL_law_747 rfl rfl ?_
                                            refine mm_iconst 1 dL_law_748 rfl ?_
                                            refine mm_iadd dL_law_749 ?_
                                            refine mm_tope (y := nI (j + 1)) (nI_add j 1) ?_
                                            refine mm_sld dL_law_750 (vp_in_nI (by omega) (by omega)) ?_
                                            refine mm_tope (y := xs (j + 1)) (congrArg xs (nI_clamp (by omega))) ?_
                                            refine mm_Vi (hcl := by omega) (hsl := by omega) (N := mX8_topping) (ci := 8) (as := [_]) dL_law_751 lk_L_94 okX8_topping (by decide) rfl (by decide) rfl (by assumption) rfl (by first | decide | (simp [Value.category])) (r_topping hM (by rw [e1]; exact hA.1)) (fun q2 J2 h2 => ?_)
                                            rw [e1] at h2
                                            obtain ⟨hqq, hag2⟩ := ag_ask hA h1 h2
                                            refine mm_icmp_eq 900 dL_law_754 (by decide) (fun c_754 => ?_) (fun c_754 => absurd hqq c_754)
                                            refine mm_iinc 6 dL_law_900 rfl rfl (Nat.le_of_ble_eq_true rfl) ?_
                                            rw [show nI j + 6 = nI (j + 6) from nI_add j 6]
                                            refine mm_goto 18 dL_law_903 (by decide) ?_
                                            exact mm_G.at (ih (j + 6) J2 (by omega) (by omega) hag2) (mm_s1 rfl (mm_s1 rfl (mm_s1 rfl (mm_s1 rfl mm_s0))))
                                          · rcases k with _ | k
                                            · skip
                                              refine mm_tableIn 759 dL_law_33 (by decide) (by decide) rfl (by decide) ?_
                                              refine mm_aload_n dL_law_759 rfl rfl ?_
                                              refine mm_aload_n dL_law_760 rfl rfl ?_
                                              refine mm_iload_n dL_law_761 rfl rfl ?_
                                              refine mm_iconst 1 dL_law_762 rfl ?_
                                              refine mm_iadd dL_law_763 ?_
                                              refine mm_tope (y := nI (j + 1)) (nI_add j 1) ?_
                                              refine mm_sld dL_law_764 (vp_in_nI (by omega) (by omega)) ?_
                                              refine mm_tope (y := xs (j + 1)) (congrArg xs (nI_clamp (by omega))) ?_
                                              refine mm_aload_n dL_law_765 rfl rfl ?_
                                              refine mm_iload_n dL_law_766 rfl rfl ?_
                                              refine mm_iconst 2 dL_law_767 rfl ?_
                                              refine mm_iadd dL_law_768 ?_
                                              refine mm_tope (y := nI (j + 2)) (nI_add j 2) ?_
                                              refine mm_sld dL_law_769 (vp_in_nI (by omega) (by omega)) ?_
                                              refine mm_tope (y := xs (j + 2)) (congrArg xs (nI_clamp (by omega))) ?_
                                              refine mm_Vi (hcl := by omega) (hsl := by omega) (N := mX7_loser) (ci := 7) (as := [_, _]) dL_law_770 lk_L_95 okX7_loser (by decide) rfl (by decide) rfl (by assumption) rfl (by decide) (c_loser hW hA.2.2.1 hA.1) (fun q1 J1 h1 => ?_)
                                              obtain ⟨e1, e2, e3, e4⟩ := hA.j1 h1.2.2
                                              refine mm_aload_n dL_law_773 rfl rfl ?_
                                              refine mm_aload_n dL_law_774 rfl rfl ?_
                                              refine mm_iload_n dL_law_775 rfl rfl ?_
                                              refine mm_iconst 1 dL_law_776 rfl ?_
                                              refine mm_iadd dL_law_777 ?_
                                              refine mm_tope (y := nI (j + 1)) (nI_add j 1) ?_
                                              refine mm_sld dL_law_778 (vp_in_nI (by omega) (by omega)) ?_
                                              refine mm_tope (y := xs (j + 1)) (congrArg xs (nI_clamp (by omega))) ?_
                                              refine mm_aload_n dL_law_779 rfl rfl ?_
                                              refine mm_iload_n dL_law_780 rfl rfl ?_
                                              refine mm_iconst 2 dL_law_781 rfl ?_
                                              refine mm_iadd dL_law_782 ?_
                                              refine mm_tope (y := nI (j + 2)) (nI_add j 2) ?_
                                              refine mm_sld dL_law_783 (vp_in_nI (by omega) (by omega)) ?_
                                              refine mm_tope (y := xs (j + 2)) (congrArg xs (nI_clamp (by omega))) ?_
                                              refine mm_Vi (hcl := by omega) (hsl := by omega) (N := mX8_loser) (ci := 8) (as := [_, _]) dL_law_784 lk_L_98 okX8_loser (by decide) rfl (by decide) rfl (by assumption) rfl (by first | decide | (simp [Value.category])) (r_loser hM (by rw [e1]; exact hA.1)) (fun q2 J2 h2 => ?_)
                                              rw [e1] at h2
                                              obtain ⟨hqq, hag2⟩ := ag_ask hA h1 h2
                                              refine mm_icmp_eq 900 dL_law_787 (by decide) (fun c_787 => ?_) (fun c_787 => absurd hqq c_787)
                                              refine mm_iinc 6 dL_law_900 rfl rfl (Nat.le_of_ble_eq_true rfl) ?_
                                              rw [show nI j + 6 = nI (j + 6) from nI_add j 6]
                                              refine mm_goto 18 dL_law_903 (by decide) ?_
                                              exact mm_G.at (ih (j + 6) J2 (by omega) (by omega) hag2) (mm_s1 rfl (mm_s1 rfl (mm_s1 rfl (mm_s1 rfl mm_s0))))
                                            · rcases k with _ | k
                                              · skip
                                                refine mm_tableIn 792 dL_law_33 (by decide) (by decide) rfl (by decide) ?_
                                                refine mm_aload_n dL_law_792 rfl rfl ?_
                                                refine mm_aload_n dL_law_793 rfl rfl ?_
                                                refine mm_iload_n dL_law_794 rfl rfl ?_
                                                refine mm_iconst 1 dL_law_795 rfl ?_
                                                refine mm_iadd dL_law_796 ?_
                                                refine mm_tope (y := nI (j + 1)) (nI_add j 1) ?_
                                                refine mm_sld dL_law_797 (vp_in_nI (by omega) (by omega)) ?_
                                                refine mm_tope (y := xs (j + 1)) (congrArg xs (nI_clamp (by omega))) ?_
                                                refine mm_Vi (hcl := by omega) (hsl := by omega) (N := mX7_count) (ci := 7) (as := [_]) dL_law_798 lk_L_99 okX7_count (by decide) rfl (by decide) rfl (by assumption) rfl (by decide) (c_count hW hA.2.2.1 hA.1) (fun q1 J1 h1 => ?_)
                                                obtain ⟨e1, e2, e3, e4⟩ := hA.j1 h1.2.2
                                                refine mm_aload_n dL_law_801 rfl rfl ?_
                                                refine mm_aload_n dL_law_802 rfl rfl ?_
                                                refine mm_iload_n dL_law_803 rfl rfl ?_
                                                refine mm_iconst 1 dL_law_804 rfl ?_
                                                refine mm_iadd dL_law_805 ?_
                                                refine mm_tope (y := nI (j + 1)) (nI_add j 1) ?_
                                                refine mm_sld dL_law_806 (vp_in_nI (by omega) (by omega)) ?_
                                                refine mm_tope (y := xs (j + 1)) (congrArg xs (nI_clamp (by omega))) ?_
                                                refine mm_Vi (hcl := by omega) (hsl := by omega) (N := mX8_count) (ci := 8) (as := [_]) dL_law_807 lk_L_102 okX8_count (by decide) rfl (by decide) rfl (by assumption) rfl (by first | decide | (simp [Value.category])) (r_count hM (by rw [e1]; exact hA.1)) (fun q2 J2 h2 => ?_)
                                                rw [e1, e2.1, e3.1] at h2
                                                obtain ⟨hqq, hag2⟩ := ag_ask hA h1 h2
                                                refine mm_icmp_eq 900 dL_law_810 (by decide) (fun c_810 => ?_) (fun c_810 => absurd hqq c_810)
                                                refine mm_iinc 6 dL_law_900 rfl rfl (Nat.le_of_ble_eq_true rfl) ?_
                                                rw [show nI j + 6 = nI (j + 6) from nI_add j 6]
                                                refine mm_goto 18 dL_law_903 (by decide) ?_
                                                exact mm_G.at (ih (j + 6) J2 (by omega) (by omega) hag2) (mm_s1 rfl (mm_s1 rfl (mm_s1 rfl (mm_s1 rfl mm_s0))))
                                              · rcases k with _ | k
                                                · skip
                                                  refine mm_tableIn 815 dL_law_33 (by decide) (by decide) rfl (by decide) ?_
                                                  refine mm_aload_n dL_law_815 rfl rfl ?_
                                                  refine mm_Vi (hcl := by omega) (hsl := by omega) (N := mX7_undo) (ci := 7) (as := []) dL_law_816 lk_L_103 okX7_undo (by decide) rfl (by decide) rfl (by assumption) rfl (by decide) (c_undo hW hA.2.2.1 hA.2.1) (fun q1 J1 h1 => ?_)
                                                  obtain ⟨e1, e2, e3, e4⟩ := hA.j1 (show wf_fr w I1 J1 by by_cases z : n = 0; (have h1 := Eq.mp (if_pos z) h1; rw [h1.2]; exact wf_fr.rf); (have h1 := Eq.mp (if_neg z) h1; exact h1.2.2))
                                                  refine mm_aload_n dL_law_819 rfl rfl ?_
                                                  refine mm_Vi (hcl := by omega) (hsl := by omega) (N := mX8_undo) (ci := 8) (as := []) dL_law_820 lk_L_106 okX8_undo (by decide) rfl (by decide) rfl (by assumption) rfl (by first | decide | (simp [Value.category])) (r_undo hM e2) (fun q2 J2 h2 => ?_)
                                                  obtain ⟨hqq, hag2⟩ := ag_undo hA h1 h2
                                                  refine mm_icmp_eq 900 dL_law_823 (by decide) (fun c_823 => ?_) (fun c_823 => absurd hqq c_823)
                                                  refine mm_iinc 6 dL_law_900 rfl rfl (Nat.le_of_ble_eq_true rfl) ?_
                                                  rw [show nI j + 6 = nI (j + 6) from nI_add j 6]
                                                  refine mm_goto 18 dL_law_903 (by decide) ?_
                                                  exact mm_G.at (ih (j + 6) J2 (by omega) (by omega) hag2) (mm_s1 rfl (mm_s1 rfl (mm_s1 rfl (mm_s1 rfl mm_s0))))
                                                · rcases k with _ | k
                                                  · skip
                                                    refine mm_tableIn 828 dL_law_33 (by decide) (by decide) rfl (by decide) ?_
                                                    refine mm_aload_n dL_law_828 rfl rfl ?_
                                                    refine mm_aload_n dL_law_829 rfl rfl ?_
                                                    refine mm_iload_n dL_law_830 rfl rfl ?_
                                                    refine mm_iconst 1 dL_law_831 rfl ?_
                                                    refine mm_iadd dL_law_832 ?_
                                                    refine mm_tope (y := nI (j + 1)) (nI_add j 1) ?_
                                                    refine mm_sld dL_law_833 (vp_in_nI (by omega) (by omega)) ?_
                                                    refine mm_tope (y := xs (j + 1)) (congrArg xs (nI_clamp (by omega))) ?_
                                                    refine mm_Vi (hcl := by omega) (hsl := by omega) (N := mX7_type) (ci := 7) (as := [_]) dL_law_834 lk_L_107 okX7_type (by decide) rfl (by decide) rfl (by assumption) rfl (by decide) (c_type hW hA.2.2.1) (fun q1 J1 h1 => ?_)
                                                    obtain ⟨e1, e2, e3, e4⟩ := hA.j1 h1.1
                                                    refine mm_aload_n dL_law_837 rfl rfl ?_
                                                    refine mm_aload_n dL_law_838 rfl rfl ?_
                                                    refine mm_iload_n dL_law_839 rfl rfl ?_
                                                    refine mm_iconst 1 dL_law_840 rfl ?_
                                                    refine mm_iadd dL_law_841 ?_
                                                    refine mm_tope (y := nI (j + 1)) (nI_add j 1) ?_
                                                    refine mm_sld dL_law_842 (vp_in_nI (by omega) (by omega)) ?_
                                                    refine mm_tope (y := xs (j + 1)) (congrArg xs (nI_clamp (by omega))) ?_
                                                    refine mm_Vi (hcl := by omega) (hsl := by omega) (N := mX8_type) (ci := 8) (as := [_]) dL_law_843 lk_L_110 okX8_type (by decide) rfl (by decide) rfl (by assumption) rfl (by first | decide | (simp [Value.category])) (r_type hM e3.1 e3.2.1) (fun q2 J2 h2 => ?_)
                                                    obtain ⟨hqq, hag2⟩ := ag_type hA h1 h2
                                                    refine mm_icmp_eq 900 dL_law_846 (by decide) (fun c_846 => ?_) (fun c_846 => absurd hqq c_846)
                                                    refine mm_iinc 6 dL_law_900 rfl rfl (Nat.le_of_ble_eq_true rfl) ?_
                                                    rw [show nI j + 6 = nI (j + 6) from nI_add j 6]
                                                    refine mm_goto 18 dL_law_903 (by decide) ?_
                                                    exact mm_G.at (ih (j + 6) J2 (by omega) (by omega) hag2) (mm_s1 rfl (mm_s1 rfl (mm_s1 rfl (mm_s1 rfl mm_s0))))
                                                  · rcases k with _ | k
                                                    · skip
                                                      refine mm_tableIn 851 dL_law_33 (by decide) (by decide) rfl (by decide) ?_
                                                      refine mm_aload_n dL_law_851 rfl rfl ?_
                                                      refine mm_Vi (hcl := by omega) (hsl := by omega) (N := mX7_clearText) (ci := 7) (as := []) dL_law_852 lk_L_111 okX7_clearText (by decide) rfl (by decide) rfl (by assumption) rfl (by decide) (c_clearText hW hA.2.2.1) (fun q1 J1 h1 => ?_)
                                                      obtain ⟨e1, e2, e3, e4⟩ := hA.j1 h1.2.2
                                                      refine mm_aload_n dL_law_855 rfl rfl ?_
                                                      refine mm_Vi (hcl := by omega) (hsl := by omega) (N := mX8_clearText) (ci := 8) (as := []) dL_law_856 lk_L_114 okX8_clearText (by decide) rfl (by decide) rfl (by assumption) rfl (by first | decide | (simp [Value.category])) (r_clearText hM) (fun q2 J2 h2 => ?_)
                                                      obtain ⟨hqq, hag2⟩ := ag_clear hA h1 h2
                                                      refine mm_icmp_eq 900 dL_law_859 (by decide) (fun c_859 => ?_) (fun c_859 => absurd hqq c_859)
                                                      refine mm_iinc 6 dL_law_900 rfl rfl (Nat.le_of_ble_eq_true rfl) ?_
                                                      rw [show nI j + 6 = nI (j + 6) from nI_add j 6]
                                                      refine mm_goto 18 dL_law_903 (by decide) ?_
                                                      exact mm_G.at (ih (j + 6) J2 (by omega) (by omega) hag2) (mm_s1 rfl (mm_s1 rfl (mm_s1 rfl (mm_s1 rfl mm_s0))))
                                                    · rcases k with _ | k
                                                      · skip
                                                        refine mm_tableIn 864 dL_law_33 (by decide) (by decide) rfl (by decide) ?_
                                                        refine mm_aload_n dL_law_864 rfl rfl ?_
                                                        refine mm_aload_n dL_law_865 rfl rfl ?_
                                                        refine mm_iload_n dL_law_866 rfl rfl ?_
                                                        refine mm_iconst 1 dL_law_867 rfl ?_
                                                        refine mm_iadd dL_law_868 ?_
                                                        refine mm_tope (y := nI (j + 1)) (nI_add j 1) ?_
                                                        refine mm_sld dL_law_869 (vp_in_nI (by omega) (by omega)) ?_
                                                        refine mm_tope (y := xs (j + 1)) (congrArg xs (nI_clamp (by omega))) ?_
                                                        refine mm_Vi (hcl := by omega) (hsl := by omega) (N := mX7_fault) (ci := 7) (as := [_]) dL_law_870 lk_L_115 okX7_fault (by decide) rfl (by decide) rfl (by assumption) rfl (by decide) (c_fault hW hA.2.2.1 hA.1) (fun q1 J1 h1 => ?_)
                                                        obtain ⟨e1, e2, e3, e4⟩ := hA.j1 h1.2.2
                                                        refine mm_aload_n dL_law_873 rfl rfl ?_
                                                        refine mm_aload_n dL_law_874 rfl rfl ?_
                                                        refine mm_iload_n dL_law_875 rfl rfl ?_
                                                        refine mm_iconst 1 dL_law_876 rfl ?_
                                                        refine mm_iadd dL_law_877 ?_
                                                        refine mm_tope (y := nI (j + 1)) (nI_add j 1) ?_
                                                        refine mm_sld dL_law_878 (vp_in_nI (by omega) (by omega)) ?_
                                                        refine mm_tope (y := xs (j + 1)) (congrArg xs (nI_clamp (by omega))) ?_
                                                        refine mm_Vi (hcl := by omega) (hsl := by omega) (N := mX8_fault) (ci := 8) (as := [_]) dL_law_879 lk_L_118 okX8_fault (by decide) rfl (by decide) rfl (by assumption) rfl (by first | decide | (simp [Value.category])) (r_fault hM e3 (by rw [e1]; exact hA.1) e4) (fun q2 J2 h2 => ?_)
                                                        rw [e1] at h2
                                                        obtain ⟨hqq, hag2⟩ := ag_fault hA h1 h2
                                                        refine mm_icmp_eq 900 dL_law_882 (by decide) (fun c_882 => ?_) (fun c_882 => absurd hqq c_882)
                                                        refine mm_iinc 6 dL_law_900 rfl rfl (Nat.le_of_ble_eq_true rfl) ?_
                                                        rw [show nI j + 6 = nI (j + 6) from nI_add j 6]
                                                        refine mm_goto 18 dL_law_903 (by decide) ?_
                                                        exact mm_G.at (ih (j + 6) J2 (by omega) (by omega) hag2) (mm_s1 rfl (mm_s1 rfl (mm_s1 rfl (mm_s1 rfl mm_s0))))
                                                      · rcases k with _ | k
                                                        · skip
                                                          refine mm_tableIn 887 dL_law_33 (by decide) (by decide) rfl (by decide) ?_
                                                          refine mm_aload_n dL_law_887 rfl rfl ?_
                                                          refine mm_Vi (hcl := by omega) (hsl := by omega) (N := mX7_play) (ci := 7) (as := []) dL_law_888 lk_L_119 okX7_play (by decide) rfl (by decide) rfl (by assumption) rfl (by decide) (c_play hW hA.2.2.1 hA.1) (fun q1 J1 h1 => ?_)
                                                          obtain ⟨e1, e2, e3, e4⟩ := hA.j1 h1.1
                                                          refine mm_aload_n dL_law_891 rfl rfl ?_
                                                          refine mm_Vi (hcl := by omega) (hsl := by omega) (N := mX8_play) (ci := 8) (as := []) dL_law_892 lk_L_122 okX8_play (by decide) rfl (by decide) rfl (by assumption) rfl (by first | decide | (simp [Value.category])) (r_play hM e3 (by rw [e1]; exact hA.1) e4 e2) (fun q2 J2 h2 => ?_)
                                                          rw [e1] at h2
                                                          obtain ⟨hqq, hag2⟩ := ag_play hA h1 h2
                                                          refine mm_icmp_eq 900 dL_law_895 (by decide) (fun c_895 => ?_) (fun c_895 => absurd hqq c_895)
                                                          refine mm_iinc 6 dL_law_900 rfl rfl (Nat.le_of_ble_eq_true rfl) ?_
                                                          rw [show nI j + 6 = nI (j + 6) from nI_add j 6]
                                                          refine mm_goto 18 dL_law_903 (by decide) ?_
                                                          exact mm_G.at (ih (j + 6) J2 (by omega) (by omega) hag2) (mm_s1 rfl (mm_s1 rfl (mm_s1 rfl (mm_s1 rfl mm_s0))))
                                                        · skip
                                                          have hout : (nI (k + 26)).toInt < 0 ∨ 25 < (nI (k + 26)).toInt := by rw [nI_toInt (by omega)]; omega
                                                          refine mm_tableOut 900 dL_law_33 hout (by decide) ?_
                                                          refine mm_iinc 6 dL_law_900 rfl rfl (Nat.le_of_ble_eq_true rfl) ?_
                                                          rw [show nI j + 6 = nI (j + 6) from nI_add j 6]
                                                          refine mm_goto 18 dL_law_903 (by decide) ?_
                                                          exact mm_G.at (ih (j + 6) I1 (by omega) (by omega) hag) (mm_s1 rfl (mm_s1 rfl (mm_s1 rfl (mm_s1 rfl mm_s0))))
