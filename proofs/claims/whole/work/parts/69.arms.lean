/-! ===== the law's arms ===== -/
section Arms
variable {G : GG} {Z : ZZ} {S : PS} {A : AS} {t md out b L i k n : Nat} {xs : Nat → Int32} {o5 o6 : Option Value}
set_option maxRecDepth 100000 in
set_option maxHeartbeats 1000000 in
theorem a_addBook (hC : CX G Z RL cL_law 7 (some .boolean) rmL) (hzs : (zl Z).stackTraces = false) (hX : SC G Z b L xs) (hL3 : L ≤ 3072) (hi : i + 6 ≤ L) (hk : k + 440 ≤ 601024) (hn : n + 3600 ≤ 7293033) (hI : LI G S t md out A)
    (nxt : ∀ S' A' (o5 o6 : Option Value), LI G S' t md out A' → J G Z S' (k + 440) (n + 3600) 1642 [some (va_rf (some b)), some (va_rf (some t)), some (va_rf (some md)), some (va_rf (some out)), some (.int (nI i)), o5, o6] []) :
    J G Z S k n 156 [some (va_rf (some b)), some (va_rf (some t)), some (va_rf (some md)), some (va_rf (some out)), some (.int (nI i)), o5, o6] [] := by
  obtain ⟨tg, W, V, N, R, hCL, hMM, hMC, hO⟩ := hI
  refine r_aload_n hC dL_law_156 rfl rfl ?_
  refine r_aload_n hC dL_law_157 rfl rfl ?_
  refine r_cSW (ar := 2) (as := [va_rf (some t), va_rf (some out)]) hC (w_addBook hzs hCL hO) q_235 q_72 ⟨by decide, by decide⟩ (by decide +kernel) q_233 q_234 dL_law_158 rfl rfl ⟨Nat.le_of_ble_eq_true rfl, Nat.le_of_ble_eq_true rfl⟩ (Nat.le_of_ble_eq_true rfl) ⟨by dsimp only [rmW, rmA, rmT, rmL]; omega, by dsimp only [rmW, rmA, rmT, rmL]; omega⟩ (fun v158 S158 p158 => ?_)
  obtain ⟨e0, hlt, tg1, W1, hCL1, hMM1, hO1, hout⟩ := EW.use p158 hMM hO
  subst e0
  refine r_istore hC dL_law_161 (by decide) ?_
  refine r_aload_n hC dL_law_163 rfl rfl ?_
  refine r_cV (as := []) hC (m_addBook hzs hMM1 hCL.1.1 hMC) cs_X8_addBook q_1006 q_1007 q_1008 (hMM1.kd) (by decide) rfl dL_law_164 rfl rfl ⟨Nat.le_of_ble_eq_true rfl, Nat.le_of_ble_eq_true rfl⟩ (Nat.le_of_ble_eq_true rfl) ⟨by dsimp only [rmW, rmA, rmT, rmL]; omega, by dsimp only [rmW, rmA, rmT, rmL]; omega⟩ (fun v164 S164 p164 => ?_) (fun _ x => x.elim)
  refine r_hge hC (fun hg => ?_)
  obtain ⟨x, N2, R2, e1, hx, hMM2, h23, hI2, hj, hO2⟩ := EM.use p164 hCL1 hO1 hg
  subst e1
  refine r_istore hC dL_law_167 (by decide) ?_
  refine r_aload_n hC dL_law_169 rfl rfl ?_
  refine r_cV (as := []) hC (m_thrown hzs hMM2) cs_X8_thrown q_1002 q_1003 q_1004 (hMM2.kd) (by decide) rfl dL_law_170 rfl rfl ⟨Nat.le_of_ble_eq_true rfl, Nat.le_of_ble_eq_true rfl⟩ (Nat.le_of_ble_eq_true rfl) ⟨by dsimp only [rmW, rmA, rmT, rmL]; omega, by dsimp only [rmW, rmA, rmT, rmL]; omega⟩ (fun v170 S170 p170 => ?_) (fun _ x => x.elim)
  obtain ⟨rfl, eT⟩ := p170
  rw [eT, h23]
  refine r_iload hC dL_law_173 rfl ?_
  refine r_iceq (tgt := 180) hC dL_law_175 (by decide) (fun h175 => ?_) (fun h175 => ?_)
  · refine r_iload hC dL_law_180 rfl ?_
    refine r_ifne (tgt := 197) hC dL_law_182 (by decide) (fun h182 => ?_) (fun h182 => ?_)
    · refine r_goto (tgt := 1642) hC dL_law_197 (by decide) ?_
      exact J.wide (by dsimp only [rmW, rmA, rmT]; omega) (by dsimp only [rmW, rmA, rmT]; omega) (nxt _ _ _ _ hI2)
    · have hz : (oAddBook A).1 = 0 := nz_of hlt h182
      have hv := (congrFun hj 0).trans (hout hz)
      rw [hx hz]
      refine r_aload_n hC dL_law_185 rfl rfl ?_
      refine r_iconst (v := nI 0) hC dL_law_186 (by decide) ?_
      refine r_lald hC dL_law_187 (hO2.1) (rfl) (by rw [hO2.2]; decide) (by rw [hO2.2]; decide) (hv) ?_
      refine r_iload hC dL_law_188 rfl ?_
      refine r_i2l hC dL_law_190 ?_
      refine r_lcmp hC dL_law_191 ?_
      rw [lcmp_0]
      refine r_ifeq (tgt := 197) hC dL_law_192 (by decide) (fun h192 => ?_) (fun h192 => ?_)
      · refine r_goto (tgt := 1642) hC dL_law_197 (by decide) ?_
        exact J.wide (by dsimp only [rmW, rmA, rmT]; omega) (by dsimp only [rmW, rmA, rmT]; omega) (nxt _ _ _ _ hI2)
      · exact absurd rfl h192
  · exact absurd rfl h175
set_option maxRecDepth 100000 in
set_option maxHeartbeats 1000000 in
theorem a_draw (hC : CX G Z RL cL_law 7 (some .boolean) rmL) (hzs : (zl Z).stackTraces = false) (hX : SC G Z b L xs) (hL3 : L ≤ 3072) (hi : i + 6 ≤ L) (hk : k + 440 ≤ 601024) (hn : n + 3600 ≤ 7293033) (hI : LI G S t md out A)
    (nxt : ∀ S' A' (o5 o6 : Option Value), LI G S' t md out A' → J G Z S' (k + 440) (n + 3600) 1642 [some (va_rf (some b)), some (va_rf (some t)), some (va_rf (some md)), some (va_rf (some out)), some (.int (nI i)), o5, o6] []) :
    J G Z S k n 200 [some (va_rf (some b)), some (va_rf (some t)), some (va_rf (some md)), some (va_rf (some out)), some (.int (nI i)), o5, o6] [] := by
  obtain ⟨tg, W, V, N, R, hCL, hMM, hMC, hO⟩ := hI
  refine r_aload_n hC dL_law_200 rfl rfl ?_
  refine r_aload_n hC dL_law_201 rfl rfl ?_
  refine r_iload hC dL_law_202 rfl ?_
  refine r_iconst (v := nI 1) hC dL_law_204 (by decide) ?_
  refine r_iadd hC dL_law_205 ?_
  refine r_scr (j := i + 1) hC hX hL3 dL_law_206 (by first | rfl | rw [nI_add]) (by omega) ?_
  refine r_aload_n hC dL_law_207 rfl rfl ?_
  refine r_iload hC dL_law_208 rfl ?_
  refine r_iconst (v := nI 2) hC dL_law_210 (by decide) ?_
  refine r_iadd hC dL_law_211 ?_
  refine r_scr (j := i + 2) hC hX hL3 dL_law_212 (by first | rfl | rw [nI_add]) (by omega) ?_
  refine r_aload_n hC dL_law_213 rfl rfl ?_
  refine r_iload hC dL_law_214 rfl ?_
  refine r_iconst (v := nI 3) hC dL_law_216 (by decide) ?_
  refine r_iadd hC dL_law_217 ?_
  refine r_scr (j := i + 3) hC hX hL3 dL_law_218 (by first | rfl | rw [nI_add]) (by omega) ?_
  refine r_aload_n hC dL_law_219 rfl rfl ?_
  refine r_iload hC dL_law_220 rfl ?_
  refine r_iconst (v := nI 4) hC dL_law_222 (by decide) ?_
  refine r_iadd hC dL_law_223 ?_
  refine r_scr (j := i + 4) hC hX hL3 dL_law_224 (by first | rfl | rw [nI_add]) (by omega) ?_
  refine r_aload_n hC dL_law_225 rfl rfl ?_
  refine r_iload hC dL_law_226 rfl ?_
  refine r_iconst (v := nI 5) hC dL_law_228 (by decide) ?_
  refine r_iadd hC dL_law_229 ?_
  refine r_scr (j := i + 5) hC hX hL3 dL_law_230 (by first | rfl | rw [nI_add]) (by omega) ?_
  refine r_aload_n hC dL_law_231 rfl rfl ?_
  refine r_cSW (ar := 7) (as := [va_rf (some t), .int (xs (i + 1)), .int (xs (i + 2)), .int (xs (i + 3)), .int (xs (i + 4)), .int (xs (i + 5)), va_rf (some out)]) hC (w_draw hzs hCL hO (xs (i + 1)) (xs (i + 2)) (xs (i + 3)) (xs (i + 4)) (xs (i + 5))) q_401 q_72 ⟨by decide, by decide⟩ (by decide +kernel) q_399 q_400 dL_law_232 rfl rfl ⟨Nat.le_of_ble_eq_true rfl, Nat.le_of_ble_eq_true rfl⟩ (Nat.le_of_ble_eq_true rfl) ⟨by dsimp only [rmW, rmA, rmT, rmL]; omega, by dsimp only [rmW, rmA, rmT, rmL]; omega⟩ (fun v232 S232 p232 => ?_)
  obtain ⟨e0, hlt, tg1, W1, hCL1, hMM1, hO1, hout⟩ := EW.use p232 hMM hO
  subst e0
  refine r_istore hC dL_law_235 (by decide) ?_
  refine r_aload_n hC dL_law_237 rfl rfl ?_
  refine r_aload_n hC dL_law_238 rfl rfl ?_
  refine r_iload hC dL_law_239 rfl ?_
  refine r_iconst (v := nI 1) hC dL_law_241 (by decide) ?_
  refine r_iadd hC dL_law_242 ?_
  refine r_scr (j := i + 1) hC hX hL3 dL_law_243 (by first | rfl | rw [nI_add]) (by omega) ?_
  refine r_aload_n hC dL_law_244 rfl rfl ?_
  refine r_iload hC dL_law_245 rfl ?_
  refine r_iconst (v := nI 2) hC dL_law_247 (by decide) ?_
  refine r_iadd hC dL_law_248 ?_
  refine r_scr (j := i + 2) hC hX hL3 dL_law_249 (by first | rfl | rw [nI_add]) (by omega) ?_
  refine r_aload_n hC dL_law_250 rfl rfl ?_
  refine r_iload hC dL_law_251 rfl ?_
  refine r_iconst (v := nI 3) hC dL_law_253 (by decide) ?_
  refine r_iadd hC dL_law_254 ?_
  refine r_scr (j := i + 3) hC hX hL3 dL_law_255 (by first | rfl | rw [nI_add]) (by omega) ?_
  refine r_aload_n hC dL_law_256 rfl rfl ?_
  refine r_iload hC dL_law_257 rfl ?_
  refine r_iconst (v := nI 4) hC dL_law_259 (by decide) ?_
  refine r_iadd hC dL_law_260 ?_
  refine r_scr (j := i + 4) hC hX hL3 dL_law_261 (by first | rfl | rw [nI_add]) (by omega) ?_
  refine r_aload_n hC dL_law_262 rfl rfl ?_
  refine r_iload hC dL_law_263 rfl ?_
  refine r_iconst (v := nI 5) hC dL_law_265 (by decide) ?_
  refine r_iadd hC dL_law_266 ?_
  refine r_scr (j := i + 5) hC hX hL3 dL_law_267 (by first | rfl | rw [nI_add]) (by omega) ?_
  refine r_cV (as := [.int (xs (i + 1)), .int (xs (i + 2)), .int (xs (i + 3)), .int (xs (i + 4)), .int (xs (i + 5))]) hC (m_draw hzs hMM1 hCL.1.1 hMC (xs (i + 1)) (xs (i + 2)) (xs (i + 3)) (xs (i + 4)) (xs (i + 5))) cs_X8_draw q_1014 q_1015 q_1016 (hMM1.kd) (by decide) rfl dL_law_268 rfl rfl ⟨Nat.le_of_ble_eq_true rfl, Nat.le_of_ble_eq_true rfl⟩ (Nat.le_of_ble_eq_true rfl) ⟨by dsimp only [rmW, rmA, rmT, rmL]; omega, by dsimp only [rmW, rmA, rmT, rmL]; omega⟩ (fun v268 S268 p268 => ?_) (fun _ x => x.elim)
  refine r_hge hC (fun hg => ?_)
  obtain ⟨x, N2, R2, e1, hx, hMM2, h23, hI2, hj, hO2⟩ := EM.use p268 hCL1 hO1 hg
  subst e1
  refine r_istore hC dL_law_271 (by decide) ?_
  refine r_aload_n hC dL_law_273 rfl rfl ?_
  refine r_cV (as := []) hC (m_thrown hzs hMM2) cs_X8_thrown q_1002 q_1003 q_1004 (hMM2.kd) (by decide) rfl dL_law_274 rfl rfl ⟨Nat.le_of_ble_eq_true rfl, Nat.le_of_ble_eq_true rfl⟩ (Nat.le_of_ble_eq_true rfl) ⟨by dsimp only [rmW, rmA, rmT, rmL]; omega, by dsimp only [rmW, rmA, rmT, rmL]; omega⟩ (fun v274 S274 p274 => ?_) (fun _ x => x.elim)
  obtain ⟨rfl, eT⟩ := p274
  rw [eT, h23]
  refine r_iload hC dL_law_277 rfl ?_
  refine r_iceq (tgt := 284) hC dL_law_279 (by decide) (fun h279 => ?_) (fun h279 => ?_)
  · refine r_iload hC dL_law_284 rfl ?_
    refine r_ifne (tgt := 301) hC dL_law_286 (by decide) (fun h286 => ?_) (fun h286 => ?_)
    · refine r_goto (tgt := 1642) hC dL_law_301 (by decide) ?_
      exact J.wide (by dsimp only [rmW, rmA, rmT]; omega) (by dsimp only [rmW, rmA, rmT]; omega) (nxt _ _ _ _ hI2)
    · have hz : (oDraw A (xs (i + 1)) (xs (i + 2)) (xs (i + 3)) (xs (i + 4)) (xs (i + 5))).1 = 0 := nz_of hlt h286
      have hv := (congrFun hj 0).trans (hout hz)
      rw [hx hz]
      refine r_aload_n hC dL_law_289 rfl rfl ?_
      refine r_iconst (v := nI 0) hC dL_law_290 (by decide) ?_
      refine r_lald hC dL_law_291 (hO2.1) (rfl) (by rw [hO2.2]; decide) (by rw [hO2.2]; decide) (hv) ?_
      refine r_iload hC dL_law_292 rfl ?_
      refine r_i2l hC dL_law_294 ?_
      refine r_lcmp hC dL_law_295 ?_
      rw [lcmp_0]
      refine r_ifeq (tgt := 301) hC dL_law_296 (by decide) (fun h296 => ?_) (fun h296 => ?_)
      · refine r_goto (tgt := 1642) hC dL_law_301 (by decide) ?_
        exact J.wide (by dsimp only [rmW, rmA, rmT]; omega) (by dsimp only [rmW, rmA, rmT]; omega) (nxt _ _ _ _ hI2)
      · exact absurd rfl h296
  · exact absurd rfl h279
set_option maxRecDepth 100000 in
set_option maxHeartbeats 1000000 in
theorem a_erase (hC : CX G Z RL cL_law 7 (some .boolean) rmL) (hzs : (zl Z).stackTraces = false) (hX : SC G Z b L xs) (hL3 : L ≤ 3072) (hi : i + 6 ≤ L) (hk : k + 440 ≤ 601024) (hn : n + 3600 ≤ 7293033) (hI : LI G S t md out A)
    (nxt : ∀ S' A' (o5 o6 : Option Value), LI G S' t md out A' → J G Z S' (k + 440) (n + 3600) 1642 [some (va_rf (some b)), some (va_rf (some t)), some (va_rf (some md)), some (va_rf (some out)), some (.int (nI i)), o5, o6] []) :
    J G Z S k n 304 [some (va_rf (some b)), some (va_rf (some t)), some (va_rf (some md)), some (va_rf (some out)), some (.int (nI i)), o5, o6] [] := by
  obtain ⟨tg, W, V, N, R, hCL, hMM, hMC, hO⟩ := hI
  refine r_aload_n hC dL_law_304 rfl rfl ?_
  refine r_aload_n hC dL_law_305 rfl rfl ?_
  refine r_iload hC dL_law_306 rfl ?_
  refine r_iconst (v := nI 1) hC dL_law_308 (by decide) ?_
  refine r_iadd hC dL_law_309 ?_
  refine r_scr (j := i + 1) hC hX hL3 dL_law_310 (by first | rfl | rw [nI_add]) (by omega) ?_
  refine r_aload_n hC dL_law_311 rfl rfl ?_
  refine r_iload hC dL_law_312 rfl ?_
  refine r_iconst (v := nI 2) hC dL_law_314 (by decide) ?_
  refine r_iadd hC dL_law_315 ?_
  refine r_scr (j := i + 2) hC hX hL3 dL_law_316 (by first | rfl | rw [nI_add]) (by omega) ?_
  refine r_aload_n hC dL_law_317 rfl rfl ?_
  refine r_cSW (ar := 4) (as := [va_rf (some t), .int (xs (i + 1)), .int (xs (i + 2)), va_rf (some out)]) hC (w_erase hzs hCL hO (xs (i + 1)) (xs (i + 2))) q_503 q_72 ⟨by decide, by decide⟩ (by decide +kernel) q_501 q_502 dL_law_318 rfl rfl ⟨Nat.le_of_ble_eq_true rfl, Nat.le_of_ble_eq_true rfl⟩ (Nat.le_of_ble_eq_true rfl) ⟨by dsimp only [rmW, rmA, rmT, rmL]; omega, by dsimp only [rmW, rmA, rmT, rmL]; omega⟩ (fun v318 S318 p318 => ?_)
  obtain ⟨e0, hlt, tg1, W1, hCL1, hMM1, hO1, hout⟩ := EW.use p318 hMM hO
  subst e0
  refine r_istore hC dL_law_321 (by decide) ?_
  refine r_aload_n hC dL_law_323 rfl rfl ?_
  refine r_aload_n hC dL_law_324 rfl rfl ?_
  refine r_iload hC dL_law_325 rfl ?_
  refine r_iconst (v := nI 1) hC dL_law_327 (by decide) ?_
  refine r_iadd hC dL_law_328 ?_
  refine r_scr (j := i + 1) hC hX hL3 dL_law_329 (by first | rfl | rw [nI_add]) (by omega) ?_
  refine r_aload_n hC dL_law_330 rfl rfl ?_
  refine r_iload hC dL_law_331 rfl ?_
  refine r_iconst (v := nI 2) hC dL_law_333 (by decide) ?_
  refine r_iadd hC dL_law_334 ?_
  refine r_scr (j := i + 2) hC hX hL3 dL_law_335 (by first | rfl | rw [nI_add]) (by omega) ?_
  refine r_cV (as := [.int (xs (i + 1)), .int (xs (i + 2))]) hC (m_erase hzs hMM1 hCL.1.1 hMC (xs (i + 1)) (xs (i + 2))) cs_X8_erase q_1048 q_1049 q_1050 (hMM1.kd) (by decide) rfl dL_law_336 rfl rfl ⟨Nat.le_of_ble_eq_true rfl, Nat.le_of_ble_eq_true rfl⟩ (Nat.le_of_ble_eq_true rfl) ⟨by dsimp only [rmW, rmA, rmT, rmL]; omega, by dsimp only [rmW, rmA, rmT, rmL]; omega⟩ (fun v336 S336 p336 => ?_) (fun _ x => x.elim)
  refine r_hge hC (fun hg => ?_)
  obtain ⟨x, N2, R2, e1, hx, hMM2, h23, hI2, hj, hO2⟩ := EM.use p336 hCL1 hO1 hg
  subst e1
  refine r_istore hC dL_law_339 (by decide) ?_
  refine r_aload_n hC dL_law_341 rfl rfl ?_
  refine r_cV (as := []) hC (m_thrown hzs hMM2) cs_X8_thrown q_1002 q_1003 q_1004 (hMM2.kd) (by decide) rfl dL_law_342 rfl rfl ⟨Nat.le_of_ble_eq_true rfl, Nat.le_of_ble_eq_true rfl⟩ (Nat.le_of_ble_eq_true rfl) ⟨by dsimp only [rmW, rmA, rmT, rmL]; omega, by dsimp only [rmW, rmA, rmT, rmL]; omega⟩ (fun v342 S342 p342 => ?_) (fun _ x => x.elim)
  obtain ⟨rfl, eT⟩ := p342
  rw [eT, h23]
  refine r_iload hC dL_law_345 rfl ?_
  refine r_iceq (tgt := 352) hC dL_law_347 (by decide) (fun h347 => ?_) (fun h347 => ?_)
  · refine r_iload hC dL_law_352 rfl ?_
    refine r_ifne (tgt := 369) hC dL_law_354 (by decide) (fun h354 => ?_) (fun h354 => ?_)
    · refine r_goto (tgt := 1642) hC dL_law_369 (by decide) ?_
      exact J.wide (by dsimp only [rmW, rmA, rmT]; omega) (by dsimp only [rmW, rmA, rmT]; omega) (nxt _ _ _ _ hI2)
    · have hz : (oErase A (xs (i + 1)) (xs (i + 2))).1 = 0 := nz_of hlt h354
      have hv := (congrFun hj 0).trans (hout hz)
      rw [hx hz]
      refine r_aload_n hC dL_law_357 rfl rfl ?_
      refine r_iconst (v := nI 0) hC dL_law_358 (by decide) ?_
      refine r_lald hC dL_law_359 (hO2.1) (rfl) (by rw [hO2.2]; decide) (by rw [hO2.2]; decide) (hv) ?_
      refine r_iload hC dL_law_360 rfl ?_
      refine r_i2l hC dL_law_362 ?_
      refine r_lcmp hC dL_law_363 ?_
      rw [lcmp_0]
      refine r_ifeq (tgt := 369) hC dL_law_364 (by decide) (fun h364 => ?_) (fun h364 => ?_)
      · refine r_goto (tgt := 1642) hC dL_law_369 (by decide) ?_
        exact J.wide (by dsimp only [rmW, rmA, rmT]; omega) (by dsimp only [rmW, rmA, rmT]; omega) (nxt _ _ _ _ hI2)
      · exact absurd rfl h364
  · exact absurd rfl h347
set_option maxRecDepth 100000 in
set_option maxHeartbeats 1000000 in
theorem a_move (hC : CX G Z RL cL_law 7 (some .boolean) rmL) (hzs : (zl Z).stackTraces = false) (hX : SC G Z b L xs) (hL3 : L ≤ 3072) (hi : i + 6 ≤ L) (hk : k + 440 ≤ 601024) (hn : n + 3600 ≤ 7293033) (hI : LI G S t md out A)
    (nxt : ∀ S' A' (o5 o6 : Option Value), LI G S' t md out A' → J G Z S' (k + 440) (n + 3600) 1642 [some (va_rf (some b)), some (va_rf (some t)), some (va_rf (some md)), some (va_rf (some out)), some (.int (nI i)), o5, o6] []) :
    J G Z S k n 372 [some (va_rf (some b)), some (va_rf (some t)), some (va_rf (some md)), some (va_rf (some out)), some (.int (nI i)), o5, o6] [] := by
  obtain ⟨tg, W, V, N, R, hCL, hMM, hMC, hO⟩ := hI
  refine r_aload_n hC dL_law_372 rfl rfl ?_
  refine r_aload_n hC dL_law_373 rfl rfl ?_
  refine r_iload hC dL_law_374 rfl ?_
  refine r_iconst (v := nI 1) hC dL_law_376 (by decide) ?_
  refine r_iadd hC dL_law_377 ?_
  refine r_scr (j := i + 1) hC hX hL3 dL_law_378 (by first | rfl | rw [nI_add]) (by omega) ?_
  refine r_aload_n hC dL_law_379 rfl rfl ?_
  refine r_iload hC dL_law_380 rfl ?_
  refine r_iconst (v := nI 2) hC dL_law_382 (by decide) ?_
  refine r_iadd hC dL_law_383 ?_
  refine r_scr (j := i + 2) hC hX hL3 dL_law_384 (by first | rfl | rw [nI_add]) (by omega) ?_
  refine r_aload_n hC dL_law_385 rfl rfl ?_
  refine r_iload hC dL_law_386 rfl ?_
  refine r_iconst (v := nI 3) hC dL_law_388 (by decide) ?_
  refine r_iadd hC dL_law_389 ?_
  refine r_scr (j := i + 3) hC hX hL3 dL_law_390 (by first | rfl | rw [nI_add]) (by omega) ?_
  refine r_aload_n hC dL_law_391 rfl rfl ?_
  refine r_cSW (ar := 5) (as := [va_rf (some t), .int (xs (i + 1)), .int (xs (i + 2)), .int (xs (i + 3)), va_rf (some out)]) hC (w_move hzs hCL hO (xs (i + 1)) (xs (i + 2)) (xs (i + 3))) q_514 q_72 ⟨by decide, by decide⟩ (by decide +kernel) q_512 q_513 dL_law_392 rfl rfl ⟨Nat.le_of_ble_eq_true rfl, Nat.le_of_ble_eq_true rfl⟩ (Nat.le_of_ble_eq_true rfl) ⟨by dsimp only [rmW, rmA, rmT, rmL]; omega, by dsimp only [rmW, rmA, rmT, rmL]; omega⟩ (fun v392 S392 p392 => ?_)
  obtain ⟨e0, hlt, tg1, W1, hCL1, hMM1, hO1, hout⟩ := EW.use p392 hMM hO
  subst e0
  refine r_istore hC dL_law_395 (by decide) ?_
  refine r_aload_n hC dL_law_397 rfl rfl ?_
  refine r_aload_n hC dL_law_398 rfl rfl ?_
  refine r_iload hC dL_law_399 rfl ?_
  refine r_iconst (v := nI 1) hC dL_law_401 (by decide) ?_
  refine r_iadd hC dL_law_402 ?_
  refine r_scr (j := i + 1) hC hX hL3 dL_law_403 (by first | rfl | rw [nI_add]) (by omega) ?_
  refine r_aload_n hC dL_law_404 rfl rfl ?_
  refine r_iload hC dL_law_405 rfl ?_
  refine r_iconst (v := nI 2) hC dL_law_407 (by decide) ?_
  refine r_iadd hC dL_law_408 ?_
  refine r_scr (j := i + 2) hC hX hL3 dL_law_409 (by first | rfl | rw [nI_add]) (by omega) ?_
  refine r_aload_n hC dL_law_410 rfl rfl ?_
  refine r_iload hC dL_law_411 rfl ?_
  refine r_iconst (v := nI 3) hC dL_law_413 (by decide) ?_
  refine r_iadd hC dL_law_414 ?_
  refine r_scr (j := i + 3) hC hX hL3 dL_law_415 (by first | rfl | rw [nI_add]) (by omega) ?_
  refine r_cV (as := [.int (xs (i + 1)), .int (xs (i + 2)), .int (xs (i + 3))]) hC (m_move hzs hMM1 hCL.1.1 hMC (xs (i + 1)) (xs (i + 2)) (xs (i + 3))) cs_X8_move q_1056 q_1057 q_1058 (hMM1.kd) (by decide) rfl dL_law_416 rfl rfl ⟨Nat.le_of_ble_eq_true rfl, Nat.le_of_ble_eq_true rfl⟩ (Nat.le_of_ble_eq_true rfl) ⟨by dsimp only [rmW, rmA, rmT, rmL]; omega, by dsimp only [rmW, rmA, rmT, rmL]; omega⟩ (fun v416 S416 p416 => ?_) (fun _ x => x.elim)
  refine r_hge hC (fun hg => ?_)
  obtain ⟨x, N2, R2, e1, hx, hMM2, h23, hI2, hj, hO2⟩ := EM.use p416 hCL1 hO1 hg
  subst e1
  refine r_istore hC dL_law_419 (by decide) ?_
  refine r_aload_n hC dL_law_421 rfl rfl ?_
  refine r_cV (as := []) hC (m_thrown hzs hMM2) cs_X8_thrown q_1002 q_1003 q_1004 (hMM2.kd) (by decide) rfl dL_law_422 rfl rfl ⟨Nat.le_of_ble_eq_true rfl, Nat.le_of_ble_eq_true rfl⟩ (Nat.le_of_ble_eq_true rfl) ⟨by dsimp only [rmW, rmA, rmT, rmL]; omega, by dsimp only [rmW, rmA, rmT, rmL]; omega⟩ (fun v422 S422 p422 => ?_) (fun _ x => x.elim)
  obtain ⟨rfl, eT⟩ := p422
  rw [eT, h23]
  refine r_iload hC dL_law_425 rfl ?_
  refine r_iceq (tgt := 432) hC dL_law_427 (by decide) (fun h427 => ?_) (fun h427 => ?_)
  · refine r_iload hC dL_law_432 rfl ?_
    refine r_ifne (tgt := 449) hC dL_law_434 (by decide) (fun h434 => ?_) (fun h434 => ?_)
    · refine r_goto (tgt := 1642) hC dL_law_449 (by decide) ?_
      exact J.wide (by dsimp only [rmW, rmA, rmT]; omega) (by dsimp only [rmW, rmA, rmT]; omega) (nxt _ _ _ _ hI2)
    · have hz : (oMove A (xs (i + 1)) (xs (i + 2)) (xs (i + 3))).1 = 0 := nz_of hlt h434
      have hv := (congrFun hj 0).trans (hout hz)
      rw [hx hz]
      refine r_aload_n hC dL_law_437 rfl rfl ?_
      refine r_iconst (v := nI 0) hC dL_law_438 (by decide) ?_
      refine r_lald hC dL_law_439 (hO2.1) (rfl) (by rw [hO2.2]; decide) (by rw [hO2.2]; decide) (hv) ?_
      refine r_iload hC dL_law_440 rfl ?_
      refine r_i2l hC dL_law_442 ?_
      refine r_lcmp hC dL_law_443 ?_
      rw [lcmp_0]
      refine r_ifeq (tgt := 449) hC dL_law_444 (by decide) (fun h444 => ?_) (fun h444 => ?_)
      · refine r_goto (tgt := 1642) hC dL_law_449 (by decide) ?_
        exact J.wide (by dsimp only [rmW, rmA, rmT]; omega) (by dsimp only [rmW, rmA, rmT]; omega) (nxt _ _ _ _ hI2)
      · exact absurd rfl h444
  · exact absurd rfl h427
set_option maxRecDepth 100000 in
set_option maxHeartbeats 1000000 in
theorem a_frames (hC : CX G Z RL cL_law 7 (some .boolean) rmL) (hzs : (zl Z).stackTraces = false) (hX : SC G Z b L xs) (hL3 : L ≤ 3072) (hi : i + 6 ≤ L) (hk : k + 440 ≤ 601024) (hn : n + 3600 ≤ 7293033) (hI : LI G S t md out A)
    (nxt : ∀ S' A' (o5 o6 : Option Value), LI G S' t md out A' → J G Z S' (k + 440) (n + 3600) 1642 [some (va_rf (some b)), some (va_rf (some t)), some (va_rf (some md)), some (va_rf (some out)), some (.int (nI i)), o5, o6] []) :
    J G Z S k n 452 [some (va_rf (some b)), some (va_rf (some t)), some (va_rf (some md)), some (va_rf (some out)), some (.int (nI i)), o5, o6] [] := by
  obtain ⟨tg, W, V, N, R, hCL, hMM, hMC, hO⟩ := hI
  refine r_aload_n hC dL_law_452 rfl rfl ?_
  refine r_aload_n hC dL_law_453 rfl rfl ?_
  refine r_iload hC dL_law_454 rfl ?_
  refine r_iconst (v := nI 1) hC dL_law_456 (by decide) ?_
  refine r_iadd hC dL_law_457 ?_
  refine r_scr (j := i + 1) hC hX hL3 dL_law_458 (by first | rfl | rw [nI_add]) (by omega) ?_
  refine r_aload_n hC dL_law_459 rfl rfl ?_
  refine r_cSW (ar := 3) (as := [va_rf (some t), .int (xs (i + 1)), va_rf (some out)]) hC (w_frames hzs hCL hO (xs (i + 1))) q_525 q_72 ⟨by decide, by decide⟩ (by decide +kernel) q_523 q_524 dL_law_460 rfl rfl ⟨Nat.le_of_ble_eq_true rfl, Nat.le_of_ble_eq_true rfl⟩ (Nat.le_of_ble_eq_true rfl) ⟨by dsimp only [rmW, rmA, rmT, rmL]; omega, by dsimp only [rmW, rmA, rmT, rmL]; omega⟩ (fun v460 S460 p460 => ?_)
  obtain ⟨e0, hlt, tg1, W1, hCL1, hMM1, hO1, hout⟩ := EW.use p460 hMM hO
  subst e0
  refine r_istore hC dL_law_463 (by decide) ?_
  refine r_aload_n hC dL_law_465 rfl rfl ?_
  refine r_aload_n hC dL_law_466 rfl rfl ?_
  refine r_iload hC dL_law_467 rfl ?_
  refine r_iconst (v := nI 1) hC dL_law_469 (by decide) ?_
  refine r_iadd hC dL_law_470 ?_
  refine r_scr (j := i + 1) hC hX hL3 dL_law_471 (by first | rfl | rw [nI_add]) (by omega) ?_
  refine r_cV (as := [.int (xs (i + 1))]) hC (m_frames hzs hMM1 hCL.1.1 hMC (xs (i + 1))) cs_X8_frames q_1060 q_1061 q_1062 (hMM1.kd) (by decide) rfl dL_law_472 rfl rfl ⟨Nat.le_of_ble_eq_true rfl, Nat.le_of_ble_eq_true rfl⟩ (Nat.le_of_ble_eq_true rfl) ⟨by dsimp only [rmW, rmA, rmT, rmL]; omega, by dsimp only [rmW, rmA, rmT, rmL]; omega⟩ (fun v472 S472 p472 => ?_) (fun _ x => x.elim)
  refine r_hge hC (fun hg => ?_)
  obtain ⟨x, N2, R2, e1, hx, hMM2, h23, hI2, hj, hO2⟩ := EM.use p472 hCL1 hO1 hg
  subst e1
  refine r_istore hC dL_law_475 (by decide) ?_
  refine r_aload_n hC dL_law_477 rfl rfl ?_
  refine r_cV (as := []) hC (m_thrown hzs hMM2) cs_X8_thrown q_1002 q_1003 q_1004 (hMM2.kd) (by decide) rfl dL_law_478 rfl rfl ⟨Nat.le_of_ble_eq_true rfl, Nat.le_of_ble_eq_true rfl⟩ (Nat.le_of_ble_eq_true rfl) ⟨by dsimp only [rmW, rmA, rmT, rmL]; omega, by dsimp only [rmW, rmA, rmT, rmL]; omega⟩ (fun v478 S478 p478 => ?_) (fun _ x => x.elim)
  obtain ⟨rfl, eT⟩ := p478
  rw [eT, h23]
  refine r_iload hC dL_law_481 rfl ?_
  refine r_iceq (tgt := 488) hC dL_law_483 (by decide) (fun h483 => ?_) (fun h483 => ?_)
  · refine r_iload hC dL_law_488 rfl ?_
    refine r_ifne (tgt := 505) hC dL_law_490 (by decide) (fun h490 => ?_) (fun h490 => ?_)
    · refine r_goto (tgt := 1642) hC dL_law_505 (by decide) ?_
      exact J.wide (by dsimp only [rmW, rmA, rmT]; omega) (by dsimp only [rmW, rmA, rmT]; omega) (nxt _ _ _ _ hI2)
    · have hz : (oFrames A (xs (i + 1))).1 = 0 := nz_of hlt h490
      have hv := (congrFun hj 0).trans (hout hz)
      rw [hx hz]
      refine r_aload_n hC dL_law_493 rfl rfl ?_
      refine r_iconst (v := nI 0) hC dL_law_494 (by decide) ?_
      refine r_lald hC dL_law_495 (hO2.1) (rfl) (by rw [hO2.2]; decide) (by rw [hO2.2]; decide) (hv) ?_
      refine r_iload hC dL_law_496 rfl ?_
      refine r_i2l hC dL_law_498 ?_
      refine r_lcmp hC dL_law_499 ?_
      rw [lcmp_0]
      refine r_ifeq (tgt := 505) hC dL_law_500 (by decide) (fun h500 => ?_) (fun h500 => ?_)
      · refine r_goto (tgt := 1642) hC dL_law_505 (by decide) ?_
        exact J.wide (by dsimp only [rmW, rmA, rmT]; omega) (by dsimp only [rmW, rmA, rmT]; omega) (nxt _ _ _ _ hI2)
      · exact absurd rfl h500
  · exact absurd rfl h483
set_option maxRecDepth 100000 in
set_option maxHeartbeats 1000000 in
theorem a_frameAt (hC : CX G Z RL cL_law 7 (some .boolean) rmL) (hzs : (zl Z).stackTraces = false) (hX : SC G Z b L xs) (hL3 : L ≤ 3072) (hi : i + 6 ≤ L) (hk : k + 440 ≤ 601024) (hn : n + 3600 ≤ 7293033) (hI : LI G S t md out A)
    (nxt : ∀ S' A' (o5 o6 : Option Value), LI G S' t md out A' → J G Z S' (k + 440) (n + 3600) 1642 [some (va_rf (some b)), some (va_rf (some t)), some (va_rf (some md)), some (va_rf (some out)), some (.int (nI i)), o5, o6] []) :
    J G Z S k n 508 [some (va_rf (some b)), some (va_rf (some t)), some (va_rf (some md)), some (va_rf (some out)), some (.int (nI i)), o5, o6] [] := by
  obtain ⟨tg, W, V, N, R, hCL, hMM, hMC, hO⟩ := hI
  refine r_aload_n hC dL_law_508 rfl rfl ?_
  refine r_aload_n hC dL_law_509 rfl rfl ?_
  refine r_iload hC dL_law_510 rfl ?_
  refine r_iconst (v := nI 1) hC dL_law_512 (by decide) ?_
  refine r_iadd hC dL_law_513 ?_
  refine r_scr (j := i + 1) hC hX hL3 dL_law_514 (by first | rfl | rw [nI_add]) (by omega) ?_
  refine r_aload_n hC dL_law_515 rfl rfl ?_
  refine r_iload hC dL_law_516 rfl ?_
  refine r_iconst (v := nI 2) hC dL_law_518 (by decide) ?_
  refine r_iadd hC dL_law_519 ?_
  refine r_scr (j := i + 2) hC hX hL3 dL_law_520 (by first | rfl | rw [nI_add]) (by omega) ?_
  refine r_aload_n hC dL_law_521 rfl rfl ?_
  refine r_cSW (ar := 4) (as := [va_rf (some t), .int (xs (i + 1)), .int (xs (i + 2)), va_rf (some out)]) hC (w_frameAt hzs hCL hO (xs (i + 1)) (xs (i + 2))) q_532 q_72 ⟨by decide, by decide⟩ (by decide +kernel) q_530 q_531 dL_law_522 rfl rfl ⟨Nat.le_of_ble_eq_true rfl, Nat.le_of_ble_eq_true rfl⟩ (Nat.le_of_ble_eq_true rfl) ⟨by dsimp only [rmW, rmA, rmT, rmL]; omega, by dsimp only [rmW, rmA, rmT, rmL]; omega⟩ (fun v522 S522 p522 => ?_)
  obtain ⟨e0, hlt, tg1, W1, hCL1, hMM1, hO1, hout⟩ := EW.use p522 hMM hO
  subst e0
  refine r_istore hC dL_law_525 (by decide) ?_
  refine r_aload_n hC dL_law_527 rfl rfl ?_
  refine r_aload_n hC dL_law_528 rfl rfl ?_
  refine r_iload hC dL_law_529 rfl ?_
  refine r_iconst (v := nI 1) hC dL_law_531 (by decide) ?_
  refine r_iadd hC dL_law_532 ?_
  refine r_scr (j := i + 1) hC hX hL3 dL_law_533 (by first | rfl | rw [nI_add]) (by omega) ?_
  refine r_aload_n hC dL_law_534 rfl rfl ?_
  refine r_iload hC dL_law_535 rfl ?_
  refine r_iconst (v := nI 2) hC dL_law_537 (by decide) ?_
  refine r_iadd hC dL_law_538 ?_
  refine r_scr (j := i + 2) hC hX hL3 dL_law_539 (by first | rfl | rw [nI_add]) (by omega) ?_
  refine r_cV (as := [.int (xs (i + 1)), .int (xs (i + 2))]) hC (m_frameAt hzs hMM1 hCL.1.1 hMC (xs (i + 1)) (xs (i + 2))) cs_X8_frameAt q_1064 q_1065 q_1066 (hMM1.kd) (by decide) rfl dL_law_540 rfl rfl ⟨Nat.le_of_ble_eq_true rfl, Nat.le_of_ble_eq_true rfl⟩ (Nat.le_of_ble_eq_true rfl) ⟨by dsimp only [rmW, rmA, rmT, rmL]; omega, by dsimp only [rmW, rmA, rmT, rmL]; omega⟩ (fun v540 S540 p540 => ?_) (fun _ x => x.elim)
  refine r_hge hC (fun hg => ?_)
  obtain ⟨x, N2, R2, e1, hx, hMM2, h23, hI2, hj, hO2⟩ := EM.use p540 hCL1 hO1 hg
  subst e1
  refine r_istore hC dL_law_543 (by decide) ?_
  refine r_aload_n hC dL_law_545 rfl rfl ?_
  refine r_cV (as := []) hC (m_thrown hzs hMM2) cs_X8_thrown q_1002 q_1003 q_1004 (hMM2.kd) (by decide) rfl dL_law_546 rfl rfl ⟨Nat.le_of_ble_eq_true rfl, Nat.le_of_ble_eq_true rfl⟩ (Nat.le_of_ble_eq_true rfl) ⟨by dsimp only [rmW, rmA, rmT, rmL]; omega, by dsimp only [rmW, rmA, rmT, rmL]; omega⟩ (fun v546 S546 p546 => ?_) (fun _ x => x.elim)
  obtain ⟨rfl, eT⟩ := p546
  rw [eT, h23]
  refine r_iload hC dL_law_549 rfl ?_
  refine r_iceq (tgt := 556) hC dL_law_551 (by decide) (fun h551 => ?_) (fun h551 => ?_)
  · refine r_iload hC dL_law_556 rfl ?_
    refine r_ifne (tgt := 573) hC dL_law_558 (by decide) (fun h558 => ?_) (fun h558 => ?_)
    · refine r_goto (tgt := 1642) hC dL_law_573 (by decide) ?_
      exact J.wide (by dsimp only [rmW, rmA, rmT]; omega) (by dsimp only [rmW, rmA, rmT]; omega) (nxt _ _ _ _ hI2)
    · have hz : (oFrameAt A (xs (i + 1)) (xs (i + 2))).1 = 0 := nz_of hlt h558
      have hv := (congrFun hj 0).trans (hout hz)
      rw [hx hz]
      refine r_aload_n hC dL_law_561 rfl rfl ?_
      refine r_iconst (v := nI 0) hC dL_law_562 (by decide) ?_
      refine r_lald hC dL_law_563 (hO2.1) (rfl) (by rw [hO2.2]; decide) (by rw [hO2.2]; decide) (hv) ?_
      refine r_iload hC dL_law_564 rfl ?_
      refine r_i2l hC dL_law_566 ?_
      refine r_lcmp hC dL_law_567 ?_
      rw [lcmp_0]
      refine r_ifeq (tgt := 573) hC dL_law_568 (by decide) (fun h568 => ?_) (fun h568 => ?_)
      · refine r_goto (tgt := 1642) hC dL_law_573 (by decide) ?_
        exact J.wide (by dsimp only [rmW, rmA, rmT]; omega) (by dsimp only [rmW, rmA, rmT]; omega) (nxt _ _ _ _ hI2)
      · exact absurd rfl h568
  · exact absurd rfl h551
set_option maxRecDepth 100000 in
set_option maxHeartbeats 1000000 in
theorem a_order (hC : CX G Z RL cL_law 7 (some .boolean) rmL) (hzs : (zl Z).stackTraces = false) (hX : SC G Z b L xs) (hL3 : L ≤ 3072) (hi : i + 6 ≤ L) (hk : k + 440 ≤ 601024) (hn : n + 3600 ≤ 7293033) (hI : LI G S t md out A)
    (nxt : ∀ S' A' (o5 o6 : Option Value), LI G S' t md out A' → J G Z S' (k + 440) (n + 3600) 1642 [some (va_rf (some b)), some (va_rf (some t)), some (va_rf (some md)), some (va_rf (some out)), some (.int (nI i)), o5, o6] []) :
    J G Z S k n 576 [some (va_rf (some b)), some (va_rf (some t)), some (va_rf (some md)), some (va_rf (some out)), some (.int (nI i)), o5, o6] [] := by
  obtain ⟨tg, W, V, N, R, hCL, hMM, hMC, hO⟩ := hI
  refine r_aload_n hC dL_law_576 rfl rfl ?_
  refine r_aload_n hC dL_law_577 rfl rfl ?_
  refine r_iload hC dL_law_578 rfl ?_
  refine r_iconst (v := nI 1) hC dL_law_580 (by decide) ?_
  refine r_iadd hC dL_law_581 ?_
  refine r_scr (j := i + 1) hC hX hL3 dL_law_582 (by first | rfl | rw [nI_add]) (by omega) ?_
  refine r_aload_n hC dL_law_583 rfl rfl ?_
  refine r_iload hC dL_law_584 rfl ?_
  refine r_iconst (v := nI 2) hC dL_law_586 (by decide) ?_
  refine r_iadd hC dL_law_587 ?_
  refine r_scr (j := i + 2) hC hX hL3 dL_law_588 (by first | rfl | rw [nI_add]) (by omega) ?_
  refine r_aload_n hC dL_law_589 rfl rfl ?_
  refine r_cSW (ar := 4) (as := [va_rf (some t), .int (xs (i + 1)), .int (xs (i + 2)), va_rf (some out)]) hC (w_order hzs hCL hO (xs (i + 1)) (xs (i + 2))) q_540 q_72 ⟨by decide, by decide⟩ (by decide +kernel) q_538 q_539 dL_law_590 rfl rfl ⟨Nat.le_of_ble_eq_true rfl, Nat.le_of_ble_eq_true rfl⟩ (Nat.le_of_ble_eq_true rfl) ⟨by dsimp only [rmW, rmA, rmT, rmL]; omega, by dsimp only [rmW, rmA, rmT, rmL]; omega⟩ (fun v590 S590 p590 => ?_)
  obtain ⟨e0, hlt, tg1, W1, hCL1, hMM1, hO1, hout⟩ := EW.use p590 hMM hO
  subst e0
  refine r_istore hC dL_law_593 (by decide) ?_
  refine r_aload_n hC dL_law_595 rfl rfl ?_
  refine r_aload_n hC dL_law_596 rfl rfl ?_
  refine r_iload hC dL_law_597 rfl ?_
  refine r_iconst (v := nI 1) hC dL_law_599 (by decide) ?_
  refine r_iadd hC dL_law_600 ?_
  refine r_scr (j := i + 1) hC hX hL3 dL_law_601 (by first | rfl | rw [nI_add]) (by omega) ?_
  refine r_aload_n hC dL_law_602 rfl rfl ?_
  refine r_iload hC dL_law_603 rfl ?_
  refine r_iconst (v := nI 2) hC dL_law_605 (by decide) ?_
  refine r_iadd hC dL_law_606 ?_
  refine r_scr (j := i + 2) hC hX hL3 dL_law_607 (by first | rfl | rw [nI_add]) (by omega) ?_
  refine r_cV (as := [.int (xs (i + 1)), .int (xs (i + 2))]) hC (m_order hzs hMM1 hCL.1.1 hMC (xs (i + 1)) (xs (i + 2))) cs_X8_order q_1068 q_1069 q_1070 (hMM1.kd) (by decide) rfl dL_law_608 rfl rfl ⟨Nat.le_of_ble_eq_true rfl, Nat.le_of_ble_eq_true rfl⟩ (Nat.le_of_ble_eq_true rfl) ⟨by dsimp only [rmW, rmA, rmT, rmL]; omega, by dsimp only [rmW, rmA, rmT, rmL]; omega⟩ (fun v608 S608 p608 => ?_) (fun _ x => x.elim)
  refine r_hge hC (fun hg => ?_)
  obtain ⟨x, N2, R2, e1, hx, hMM2, h23, hI2, hj, hO2⟩ := EM.use p608 hCL1 hO1 hg
  subst e1
  refine r_istore hC dL_law_611 (by decide) ?_
  refine r_aload_n hC dL_law_613 rfl rfl ?_
  refine r_cV (as := []) hC (m_thrown hzs hMM2) cs_X8_thrown q_1002 q_1003 q_1004 (hMM2.kd) (by decide) rfl dL_law_614 rfl rfl ⟨Nat.le_of_ble_eq_true rfl, Nat.le_of_ble_eq_true rfl⟩ (Nat.le_of_ble_eq_true rfl) ⟨by dsimp only [rmW, rmA, rmT, rmL]; omega, by dsimp only [rmW, rmA, rmT, rmL]; omega⟩ (fun v614 S614 p614 => ?_) (fun _ x => x.elim)
  obtain ⟨rfl, eT⟩ := p614
  rw [eT, h23]
  refine r_iload hC dL_law_617 rfl ?_
  refine r_iceq (tgt := 624) hC dL_law_619 (by decide) (fun h619 => ?_) (fun h619 => ?_)
  · refine r_iload hC dL_law_624 rfl ?_
    refine r_ifne (tgt := 641) hC dL_law_626 (by decide) (fun h626 => ?_) (fun h626 => ?_)
    · refine r_goto (tgt := 1642) hC dL_law_641 (by decide) ?_
      exact J.wide (by dsimp only [rmW, rmA, rmT]; omega) (by dsimp only [rmW, rmA, rmT]; omega) (nxt _ _ _ _ hI2)
    · have hz : (oOrder A (xs (i + 1)) (xs (i + 2))).1 = 0 := nz_of hlt h626
      have hv := (congrFun hj 0).trans (hout hz)
      rw [hx hz]
      refine r_aload_n hC dL_law_629 rfl rfl ?_
      refine r_iconst (v := nI 0) hC dL_law_630 (by decide) ?_
      refine r_lald hC dL_law_631 (hO2.1) (rfl) (by rw [hO2.2]; decide) (by rw [hO2.2]; decide) (hv) ?_
      refine r_iload hC dL_law_632 rfl ?_
      refine r_i2l hC dL_law_634 ?_
      refine r_lcmp hC dL_law_635 ?_
      rw [lcmp_0]
      refine r_ifeq (tgt := 641) hC dL_law_636 (by decide) (fun h636 => ?_) (fun h636 => ?_)
      · refine r_goto (tgt := 1642) hC dL_law_641 (by decide) ?_
        exact J.wide (by dsimp only [rmW, rmA, rmT]; omega) (by dsimp only [rmW, rmA, rmT]; omega) (nxt _ _ _ _ hI2)
      · exact absurd rfl h636
  · exact absurd rfl h619
set_option maxRecDepth 100000 in
set_option maxHeartbeats 1000000 in
theorem a_lacking (hC : CX G Z RL cL_law 7 (some .boolean) rmL) (hzs : (zl Z).stackTraces = false) (hX : SC G Z b L xs) (hL3 : L ≤ 3072) (hi : i + 6 ≤ L) (hk : k + 440 ≤ 601024) (hn : n + 3600 ≤ 7293033) (hI : LI G S t md out A)
    (nxt : ∀ S' A' (o5 o6 : Option Value), LI G S' t md out A' → J G Z S' (k + 440) (n + 3600) 1642 [some (va_rf (some b)), some (va_rf (some t)), some (va_rf (some md)), some (va_rf (some out)), some (.int (nI i)), o5, o6] []) :
    J G Z S k n 644 [some (va_rf (some b)), some (va_rf (some t)), some (va_rf (some md)), some (va_rf (some out)), some (.int (nI i)), o5, o6] [] := by
  obtain ⟨tg, W, V, N, R, hCL, hMM, hMC, hO⟩ := hI
  refine r_aload_n hC dL_law_644 rfl rfl ?_
  refine r_aload_n hC dL_law_645 rfl rfl ?_
  refine r_iload hC dL_law_646 rfl ?_
  refine r_iconst (v := nI 1) hC dL_law_648 (by decide) ?_
  refine r_iadd hC dL_law_649 ?_
  refine r_scr (j := i + 1) hC hX hL3 dL_law_650 (by first | rfl | rw [nI_add]) (by omega) ?_
  refine r_aload_n hC dL_law_651 rfl rfl ?_
  refine r_cSW (ar := 3) (as := [va_rf (some t), .int (xs (i + 1)), va_rf (some out)]) hC (w_lacking hzs hCL hO (xs (i + 1))) q_587 q_72 ⟨by decide, by decide⟩ (by decide +kernel) q_585 q_586 dL_law_652 rfl rfl ⟨Nat.le_of_ble_eq_true rfl, Nat.le_of_ble_eq_true rfl⟩ (Nat.le_of_ble_eq_true rfl) ⟨by dsimp only [rmW, rmA, rmT, rmL]; omega, by dsimp only [rmW, rmA, rmT, rmL]; omega⟩ (fun v652 S652 p652 => ?_)
  obtain ⟨e0, hlt, tg1, W1, hCL1, hMM1, hO1, hout⟩ := EW.use p652 hMM hO
  subst e0
  refine r_istore hC dL_law_655 (by decide) ?_
  refine r_aload_n hC dL_law_657 rfl rfl ?_
  refine r_aload_n hC dL_law_658 rfl rfl ?_
  refine r_iload hC dL_law_659 rfl ?_
  refine r_iconst (v := nI 1) hC dL_law_661 (by decide) ?_
  refine r_iadd hC dL_law_662 ?_
  refine r_scr (j := i + 1) hC hX hL3 dL_law_663 (by first | rfl | rw [nI_add]) (by omega) ?_
  refine r_cV (as := [.int (xs (i + 1))]) hC (m_lacking hzs hMM1 hCL.1.1 hMC (xs (i + 1))) cs_X8_lacking q_1075 q_1076 q_1077 (hMM1.kd) (by decide) rfl dL_law_664 rfl rfl ⟨Nat.le_of_ble_eq_true rfl, Nat.le_of_ble_eq_true rfl⟩ (Nat.le_of_ble_eq_true rfl) ⟨by dsimp only [rmW, rmA, rmT, rmL]; omega, by dsimp only [rmW, rmA, rmT, rmL]; omega⟩ (fun v664 S664 p664 => ?_) (fun _ x => x.elim)
  refine r_hge hC (fun hg => ?_)
  obtain ⟨x, N2, R2, e1, hx, hMM2, h23, hI2, hj, hO2⟩ := EM.use p664 hCL1 hO1 hg
  subst e1
  refine r_istore hC dL_law_667 (by decide) ?_
  refine r_aload_n hC dL_law_669 rfl rfl ?_
  refine r_cV (as := []) hC (m_thrown hzs hMM2) cs_X8_thrown q_1002 q_1003 q_1004 (hMM2.kd) (by decide) rfl dL_law_670 rfl rfl ⟨Nat.le_of_ble_eq_true rfl, Nat.le_of_ble_eq_true rfl⟩ (Nat.le_of_ble_eq_true rfl) ⟨by dsimp only [rmW, rmA, rmT, rmL]; omega, by dsimp only [rmW, rmA, rmT, rmL]; omega⟩ (fun v670 S670 p670 => ?_) (fun _ x => x.elim)
  obtain ⟨rfl, eT⟩ := p670
  rw [eT, h23]
  refine r_iload hC dL_law_673 rfl ?_
  refine r_iceq (tgt := 680) hC dL_law_675 (by decide) (fun h675 => ?_) (fun h675 => ?_)
  · refine r_iload hC dL_law_680 rfl ?_
    refine r_ifne (tgt := 697) hC dL_law_682 (by decide) (fun h682 => ?_) (fun h682 => ?_)
    · refine r_goto (tgt := 1642) hC dL_law_697 (by decide) ?_
      exact J.wide (by dsimp only [rmW, rmA, rmT]; omega) (by dsimp only [rmW, rmA, rmT]; omega) (nxt _ _ _ _ hI2)
    · have hz : (oLacking A (xs (i + 1))).1 = 0 := nz_of hlt h682
      have hv := (congrFun hj 0).trans (hout hz)
      rw [hx hz]
      refine r_aload_n hC dL_law_685 rfl rfl ?_
      refine r_iconst (v := nI 0) hC dL_law_686 (by decide) ?_
      refine r_lald hC dL_law_687 (hO2.1) (rfl) (by rw [hO2.2]; decide) (by rw [hO2.2]; decide) (hv) ?_
      refine r_iload hC dL_law_688 rfl ?_
      refine r_i2l hC dL_law_690 ?_
      refine r_lcmp hC dL_law_691 ?_
      rw [lcmp_0]
      refine r_ifeq (tgt := 697) hC dL_law_692 (by decide) (fun h692 => ?_) (fun h692 => ?_)
      · refine r_goto (tgt := 1642) hC dL_law_697 (by decide) ?_
        exact J.wide (by dsimp only [rmW, rmA, rmT]; omega) (by dsimp only [rmW, rmA, rmT]; omega) (nxt _ _ _ _ hI2)
      · exact absurd rfl h692
  · exact absurd rfl h675
set_option maxRecDepth 100000 in
set_option maxHeartbeats 1000000 in
theorem a_waits (hC : CX G Z RL cL_law 7 (some .boolean) rmL) (hzs : (zl Z).stackTraces = false) (hX : SC G Z b L xs) (hL3 : L ≤ 3072) (hi : i + 6 ≤ L) (hk : k + 440 ≤ 601024) (hn : n + 3600 ≤ 7293033) (hI : LI G S t md out A)
    (nxt : ∀ S' A' (o5 o6 : Option Value), LI G S' t md out A' → J G Z S' (k + 440) (n + 3600) 1642 [some (va_rf (some b)), some (va_rf (some t)), some (va_rf (some md)), some (va_rf (some out)), some (.int (nI i)), o5, o6] []) :
    J G Z S k n 700 [some (va_rf (some b)), some (va_rf (some t)), some (va_rf (some md)), some (va_rf (some out)), some (.int (nI i)), o5, o6] [] := by
  obtain ⟨tg, W, V, N, R, hCL, hMM, hMC, hO⟩ := hI
  refine r_aload_n hC dL_law_700 rfl rfl ?_
  refine r_aload_n hC dL_law_701 rfl rfl ?_
  refine r_iload hC dL_law_702 rfl ?_
  refine r_iconst (v := nI 1) hC dL_law_704 (by decide) ?_
  refine r_iadd hC dL_law_705 ?_
  refine r_scr (j := i + 1) hC hX hL3 dL_law_706 (by first | rfl | rw [nI_add]) (by omega) ?_
  refine r_aload_n hC dL_law_707 rfl rfl ?_
  refine r_cSW (ar := 3) (as := [va_rf (some t), .int (xs (i + 1)), va_rf (some out)]) hC (w_waits hzs hCL hO (xs (i + 1))) q_614 q_72 ⟨by decide, by decide⟩ (by decide +kernel) q_612 q_613 dL_law_708 rfl rfl ⟨Nat.le_of_ble_eq_true rfl, Nat.le_of_ble_eq_true rfl⟩ (Nat.le_of_ble_eq_true rfl) ⟨by dsimp only [rmW, rmA, rmT, rmL]; omega, by dsimp only [rmW, rmA, rmT, rmL]; omega⟩ (fun v708 S708 p708 => ?_)
  obtain ⟨e0, hlt, tg1, W1, hCL1, hMM1, hO1, hout⟩ := EW.use p708 hMM hO
  subst e0
  refine r_istore hC dL_law_711 (by decide) ?_
  refine r_aload_n hC dL_law_713 rfl rfl ?_
  refine r_aload_n hC dL_law_714 rfl rfl ?_
  refine r_iload hC dL_law_715 rfl ?_
  refine r_iconst (v := nI 1) hC dL_law_717 (by decide) ?_
  refine r_iadd hC dL_law_718 ?_
  refine r_scr (j := i + 1) hC hX hL3 dL_law_719 (by first | rfl | rw [nI_add]) (by omega) ?_
  refine r_cV (as := [.int (xs (i + 1))]) hC (m_waits hzs hMM1 hCL.1.1 hMC (xs (i + 1))) cs_X8_waits q_1099 q_1100 q_1101 (hMM1.kd) (by decide) rfl dL_law_720 rfl rfl ⟨Nat.le_of_ble_eq_true rfl, Nat.le_of_ble_eq_true rfl⟩ (Nat.le_of_ble_eq_true rfl) ⟨by dsimp only [rmW, rmA, rmT, rmL]; omega, by dsimp only [rmW, rmA, rmT, rmL]; omega⟩ (fun v720 S720 p720 => ?_) (fun _ x => x.elim)
  refine r_hge hC (fun hg => ?_)
  obtain ⟨x, N2, R2, e1, hx, hMM2, h23, hI2, hj, hO2⟩ := EM.use p720 hCL1 hO1 hg
  subst e1
  refine r_istore hC dL_law_723 (by decide) ?_
  refine r_aload_n hC dL_law_725 rfl rfl ?_
  refine r_cV (as := []) hC (m_thrown hzs hMM2) cs_X8_thrown q_1002 q_1003 q_1004 (hMM2.kd) (by decide) rfl dL_law_726 rfl rfl ⟨Nat.le_of_ble_eq_true rfl, Nat.le_of_ble_eq_true rfl⟩ (Nat.le_of_ble_eq_true rfl) ⟨by dsimp only [rmW, rmA, rmT, rmL]; omega, by dsimp only [rmW, rmA, rmT, rmL]; omega⟩ (fun v726 S726 p726 => ?_) (fun _ x => x.elim)
  obtain ⟨rfl, eT⟩ := p726
  rw [eT, h23]
  refine r_iload hC dL_law_729 rfl ?_
  refine r_iceq (tgt := 736) hC dL_law_731 (by decide) (fun h731 => ?_) (fun h731 => ?_)
  · refine r_iload hC dL_law_736 rfl ?_
    refine r_ifne (tgt := 753) hC dL_law_738 (by decide) (fun h738 => ?_) (fun h738 => ?_)
    · refine r_goto (tgt := 1642) hC dL_law_753 (by decide) ?_
      exact J.wide (by dsimp only [rmW, rmA, rmT]; omega) (by dsimp only [rmW, rmA, rmT]; omega) (nxt _ _ _ _ hI2)
    · have hz : (oWaits A (xs (i + 1))).1 = 0 := nz_of hlt h738
      have hv := (congrFun hj 0).trans (hout hz)
      rw [hx hz]
      refine r_aload_n hC dL_law_741 rfl rfl ?_
      refine r_iconst (v := nI 0) hC dL_law_742 (by decide) ?_
      refine r_lald hC dL_law_743 (hO2.1) (rfl) (by rw [hO2.2]; decide) (by rw [hO2.2]; decide) (hv) ?_
      refine r_iload hC dL_law_744 rfl ?_
      refine r_i2l hC dL_law_746 ?_
      refine r_lcmp hC dL_law_747 ?_
      rw [lcmp_0]
      refine r_ifeq (tgt := 753) hC dL_law_748 (by decide) (fun h748 => ?_) (fun h748 => ?_)
      · refine r_goto (tgt := 1642) hC dL_law_753 (by decide) ?_
        exact J.wide (by dsimp only [rmW, rmA, rmT]; omega) (by dsimp only [rmW, rmA, rmT]; omega) (nxt _ _ _ _ hI2)
      · exact absurd rfl h748
  · exact absurd rfl h731
set_option maxRecDepth 100000 in
set_option maxHeartbeats 1000000 in
theorem a_setFolds (hC : CX G Z RL cL_law 7 (some .boolean) rmL) (hzs : (zl Z).stackTraces = false) (hX : SC G Z b L xs) (hL3 : L ≤ 3072) (hi : i + 6 ≤ L) (hk : k + 440 ≤ 601024) (hn : n + 3600 ≤ 7293033) (hI : LI G S t md out A)
    (nxt : ∀ S' A' (o5 o6 : Option Value), LI G S' t md out A' → J G Z S' (k + 440) (n + 3600) 1642 [some (va_rf (some b)), some (va_rf (some t)), some (va_rf (some md)), some (va_rf (some out)), some (.int (nI i)), o5, o6] []) :
    J G Z S k n 756 [some (va_rf (some b)), some (va_rf (some t)), some (va_rf (some md)), some (va_rf (some out)), some (.int (nI i)), o5, o6] [] := by
  obtain ⟨tg, W, V, N, R, hCL, hMM, hMC, hO⟩ := hI
  refine r_aload_n hC dL_law_756 rfl rfl ?_
  refine r_aload_n hC dL_law_757 rfl rfl ?_
  refine r_iload hC dL_law_758 rfl ?_
  refine r_iconst (v := nI 1) hC dL_law_760 (by decide) ?_
  refine r_iadd hC dL_law_761 ?_
  refine r_scr (j := i + 1) hC hX hL3 dL_law_762 (by first | rfl | rw [nI_add]) (by omega) ?_
  refine r_aload_n hC dL_law_763 rfl rfl ?_
  refine r_iload hC dL_law_764 rfl ?_
  refine r_iconst (v := nI 2) hC dL_law_766 (by decide) ?_
  refine r_iadd hC dL_law_767 ?_
  refine r_scr (j := i + 2) hC hX hL3 dL_law_768 (by first | rfl | rw [nI_add]) (by omega) ?_
  refine r_aload_n hC dL_law_769 rfl rfl ?_
  refine r_iload hC dL_law_770 rfl ?_
  refine r_iconst (v := nI 3) hC dL_law_772 (by decide) ?_
  refine r_iadd hC dL_law_773 ?_
  refine r_scr (j := i + 3) hC hX hL3 dL_law_774 (by first | rfl | rw [nI_add]) (by omega) ?_
  refine r_cSW (ar := 4) (as := [va_rf (some t), .int (xs (i + 1)), .int (xs (i + 2)), .int (xs (i + 3))]) hC (w_setFolds hzs hCL (xs (i + 1)) (xs (i + 2)) (xs (i + 3))) q_628 q_72 ⟨by decide, by decide⟩ (by decide +kernel) q_626 q_627 dL_law_775 rfl rfl ⟨Nat.le_of_ble_eq_true rfl, Nat.le_of_ble_eq_true rfl⟩ (Nat.le_of_ble_eq_true rfl) ⟨by dsimp only [rmW, rmA, rmT, rmL]; omega, by dsimp only [rmW, rmA, rmT, rmL]; omega⟩ (fun v775 S775 p775 => ?_)
  obtain ⟨e0, hlt, tg1, W1, hCL1, hMM1, hO1⟩ := EWv.use p775 hMM hO
  subst e0
  refine r_istore hC dL_law_778 (by decide) ?_
  refine r_aload_n hC dL_law_780 rfl rfl ?_
  refine r_aload_n hC dL_law_781 rfl rfl ?_
  refine r_iload hC dL_law_782 rfl ?_
  refine r_iconst (v := nI 1) hC dL_law_784 (by decide) ?_
  refine r_iadd hC dL_law_785 ?_
  refine r_scr (j := i + 1) hC hX hL3 dL_law_786 (by first | rfl | rw [nI_add]) (by omega) ?_
  refine r_aload_n hC dL_law_787 rfl rfl ?_
  refine r_iload hC dL_law_788 rfl ?_
  refine r_iconst (v := nI 2) hC dL_law_790 (by decide) ?_
  refine r_iadd hC dL_law_791 ?_
  refine r_scr (j := i + 2) hC hX hL3 dL_law_792 (by first | rfl | rw [nI_add]) (by omega) ?_
  refine r_aload_n hC dL_law_793 rfl rfl ?_
  refine r_iload hC dL_law_794 rfl ?_
  refine r_iconst (v := nI 3) hC dL_law_796 (by decide) ?_
  refine r_iadd hC dL_law_797 ?_
  refine r_scr (j := i + 3) hC hX hL3 dL_law_798 (by first | rfl | rw [nI_add]) (by omega) ?_
  refine r_cV (as := [.int (xs (i + 1)), .int (xs (i + 2)), .int (xs (i + 3))]) hC (m_setFolds hzs hMM1 hMC (xs (i + 1)) (xs (i + 2)) (xs (i + 3))) cs_X8_setFolds q_1103 q_1104 q_1105 (hMM1.kd) (by decide) rfl dL_law_799 rfl rfl ⟨Nat.le_of_ble_eq_true rfl, Nat.le_of_ble_eq_true rfl⟩ (Nat.le_of_ble_eq_true rfl) ⟨by dsimp only [rmW, rmA, rmT, rmL]; omega, by dsimp only [rmW, rmA, rmT, rmL]; omega⟩ (fun v799 S799 p799 => ?_) (fun _ x => x.elim)
  refine r_hge hC (fun hg => ?_)
  obtain ⟨e1, N2, R2, hMM2, h23, hI2⟩ := EMv.use p799 hCL1 hO1 hg
  subst e1
  refine r_aload_n hC dL_law_802 rfl rfl ?_
  refine r_cV (as := []) hC (m_thrown hzs hMM2) cs_X8_thrown q_1002 q_1003 q_1004 (hMM2.kd) (by decide) rfl dL_law_803 rfl rfl ⟨Nat.le_of_ble_eq_true rfl, Nat.le_of_ble_eq_true rfl⟩ (Nat.le_of_ble_eq_true rfl) ⟨by dsimp only [rmW, rmA, rmT, rmL]; omega, by dsimp only [rmW, rmA, rmT, rmL]; omega⟩ (fun v803 S803 p803 => ?_) (fun _ x => x.elim)
  obtain ⟨rfl, eT⟩ := p803
  rw [eT, h23]
  refine r_iload hC dL_law_806 rfl ?_
  refine r_iceq (tgt := 813) hC dL_law_808 (by decide) (fun h808 => ?_) (fun h808 => ?_)
  · refine r_goto (tgt := 1642) hC dL_law_813 (by decide) ?_
    exact J.wide (by dsimp only [rmW, rmA, rmT]; omega) (by dsimp only [rmW, rmA, rmT]; omega) (nxt _ _ _ _ hI2)
  · exact absurd rfl h808
set_option maxRecDepth 100000 in
set_option maxHeartbeats 1000000 in
theorem a_cellOf (hC : CX G Z RL cL_law 7 (some .boolean) rmL) (hzs : (zl Z).stackTraces = false) (hX : SC G Z b L xs) (hL3 : L ≤ 3072) (hi : i + 6 ≤ L) (hk : k + 440 ≤ 601024) (hn : n + 3600 ≤ 7293033) (hI : LI G S t md out A)
    (nxt : ∀ S' A' (o5 o6 : Option Value), LI G S' t md out A' → J G Z S' (k + 440) (n + 3600) 1642 [some (va_rf (some b)), some (va_rf (some t)), some (va_rf (some md)), some (va_rf (some out)), some (.int (nI i)), o5, o6] []) :
    J G Z S k n 816 [some (va_rf (some b)), some (va_rf (some t)), some (va_rf (some md)), some (va_rf (some out)), some (.int (nI i)), o5, o6] [] := by
  obtain ⟨tg, W, V, N, R, hCL, hMM, hMC, hO⟩ := hI
  refine r_aload_n hC dL_law_816 rfl rfl ?_
  refine r_aload_n hC dL_law_817 rfl rfl ?_
  refine r_iload hC dL_law_818 rfl ?_
  refine r_iconst (v := nI 1) hC dL_law_820 (by decide) ?_
  refine r_iadd hC dL_law_821 ?_
  refine r_scr (j := i + 1) hC hX hL3 dL_law_822 (by first | rfl | rw [nI_add]) (by omega) ?_
  refine r_aload_n hC dL_law_823 rfl rfl ?_
  refine r_cSW (ar := 3) (as := [va_rf (some t), .int (xs (i + 1)), va_rf (some out)]) hC (w_cellOf hzs hCL hO (xs (i + 1))) q_639 q_72 ⟨by decide, by decide⟩ (by decide +kernel) q_637 q_638 dL_law_824 rfl rfl ⟨Nat.le_of_ble_eq_true rfl, Nat.le_of_ble_eq_true rfl⟩ (Nat.le_of_ble_eq_true rfl) ⟨by dsimp only [rmW, rmA, rmT, rmL]; omega, by dsimp only [rmW, rmA, rmT, rmL]; omega⟩ (fun v824 S824 p824 => ?_)
  obtain ⟨e0, hlt, tg1, W1, hCL1, hMM1, hO1, hout⟩ := EW.use p824 hMM hO
  subst e0
  refine r_istore hC dL_law_827 (by decide) ?_
  refine r_aload_n hC dL_law_829 rfl rfl ?_
  refine r_aload_n hC dL_law_830 rfl rfl ?_
  refine r_iload hC dL_law_831 rfl ?_
  refine r_iconst (v := nI 1) hC dL_law_833 (by decide) ?_
  refine r_iadd hC dL_law_834 ?_
  refine r_scr (j := i + 1) hC hX hL3 dL_law_835 (by first | rfl | rw [nI_add]) (by omega) ?_
  refine r_cV (as := [.int (xs (i + 1))]) hC (m_cellOf hzs hMM1 hMC (xs (i + 1))) cs_X8_cellOf q_1107 q_1108 q_1109 (hMM1.kd) (by decide) rfl dL_law_836 rfl rfl ⟨Nat.le_of_ble_eq_true rfl, Nat.le_of_ble_eq_true rfl⟩ (Nat.le_of_ble_eq_true rfl) ⟨by dsimp only [rmW, rmA, rmT, rmL]; omega, by dsimp only [rmW, rmA, rmT, rmL]; omega⟩ (fun v836 S836 p836 => ?_) (fun _ x => x.elim)
  refine r_hge hC (fun hg => ?_)
  obtain ⟨x, N2, R2, e1, hx, hMM2, h23, hI2, hj, hO2⟩ := EM.use p836 hCL1 hO1 hg
  subst e1
  refine r_istore hC dL_law_839 (by decide) ?_
  refine r_aload_n hC dL_law_841 rfl rfl ?_
  refine r_cV (as := []) hC (m_thrown hzs hMM2) cs_X8_thrown q_1002 q_1003 q_1004 (hMM2.kd) (by decide) rfl dL_law_842 rfl rfl ⟨Nat.le_of_ble_eq_true rfl, Nat.le_of_ble_eq_true rfl⟩ (Nat.le_of_ble_eq_true rfl) ⟨by dsimp only [rmW, rmA, rmT, rmL]; omega, by dsimp only [rmW, rmA, rmT, rmL]; omega⟩ (fun v842 S842 p842 => ?_) (fun _ x => x.elim)
  obtain ⟨rfl, eT⟩ := p842
  rw [eT, h23]
  refine r_iload hC dL_law_845 rfl ?_
  refine r_iceq (tgt := 852) hC dL_law_847 (by decide) (fun h847 => ?_) (fun h847 => ?_)
  · refine r_iload hC dL_law_852 rfl ?_
    refine r_ifne (tgt := 869) hC dL_law_854 (by decide) (fun h854 => ?_) (fun h854 => ?_)
    · refine r_goto (tgt := 1642) hC dL_law_869 (by decide) ?_
      exact J.wide (by dsimp only [rmW, rmA, rmT]; omega) (by dsimp only [rmW, rmA, rmT]; omega) (nxt _ _ _ _ hI2)
    · have hz : (oCellOf A (xs (i + 1))).1 = 0 := nz_of hlt h854
      have hv := (congrFun hj 0).trans (hout hz)
      rw [hx hz]
      refine r_aload_n hC dL_law_857 rfl rfl ?_
      refine r_iconst (v := nI 0) hC dL_law_858 (by decide) ?_
      refine r_lald hC dL_law_859 (hO2.1) (rfl) (by rw [hO2.2]; decide) (by rw [hO2.2]; decide) (hv) ?_
      refine r_iload hC dL_law_860 rfl ?_
      refine r_i2l hC dL_law_862 ?_
      refine r_lcmp hC dL_law_863 ?_
      rw [lcmp_0]
      refine r_ifeq (tgt := 869) hC dL_law_864 (by decide) (fun h864 => ?_) (fun h864 => ?_)
      · refine r_goto (tgt := 1642) hC dL_law_869 (by decide) ?_
        exact J.wide (by dsimp only [rmW, rmA, rmT]; omega) (by dsimp only [rmW, rmA, rmT]; omega) (nxt _ _ _ _ hI2)
      · exact absurd rfl h864
  · exact absurd rfl h847
set_option maxRecDepth 100000 in
set_option maxHeartbeats 1000000 in
theorem a_placeOf (hC : CX G Z RL cL_law 7 (some .boolean) rmL) (hzs : (zl Z).stackTraces = false) (hX : SC G Z b L xs) (hL3 : L ≤ 3072) (hi : i + 6 ≤ L) (hk : k + 440 ≤ 601024) (hn : n + 3600 ≤ 7293033) (hI : LI G S t md out A)
    (nxt : ∀ S' A' (o5 o6 : Option Value), LI G S' t md out A' → J G Z S' (k + 440) (n + 3600) 1642 [some (va_rf (some b)), some (va_rf (some t)), some (va_rf (some md)), some (va_rf (some out)), some (.int (nI i)), o5, o6] []) :
    J G Z S k n 872 [some (va_rf (some b)), some (va_rf (some t)), some (va_rf (some md)), some (va_rf (some out)), some (.int (nI i)), o5, o6] [] := by
  obtain ⟨tg, W, V, N, R, hCL, hMM, hMC, hO⟩ := hI
  refine r_aload_n hC dL_law_872 rfl rfl ?_
  refine r_aload_n hC dL_law_873 rfl rfl ?_
  refine r_iload hC dL_law_874 rfl ?_
  refine r_iconst (v := nI 1) hC dL_law_876 (by decide) ?_
  refine r_iadd hC dL_law_877 ?_
  refine r_scr (j := i + 1) hC hX hL3 dL_law_878 (by first | rfl | rw [nI_add]) (by omega) ?_
  refine r_aload_n hC dL_law_879 rfl rfl ?_
  refine r_cSW (ar := 3) (as := [va_rf (some t), .int (xs (i + 1)), va_rf (some out)]) hC (w_placeOf hzs hCL hO (xs (i + 1))) q_653 q_72 ⟨by decide, by decide⟩ (by decide +kernel) q_651 q_652 dL_law_880 rfl rfl ⟨Nat.le_of_ble_eq_true rfl, Nat.le_of_ble_eq_true rfl⟩ (Nat.le_of_ble_eq_true rfl) ⟨by dsimp only [rmW, rmA, rmT, rmL]; omega, by dsimp only [rmW, rmA, rmT, rmL]; omega⟩ (fun v880 S880 p880 => ?_)
  obtain ⟨e0, hlt, tg1, W1, hCL1, hMM1, hO1, hout⟩ := EW.use p880 hMM hO
  subst e0
  refine r_istore hC dL_law_883 (by decide) ?_
  refine r_aload_n hC dL_law_885 rfl rfl ?_
  refine r_aload_n hC dL_law_886 rfl rfl ?_
  refine r_iload hC dL_law_887 rfl ?_
  refine r_iconst (v := nI 1) hC dL_law_889 (by decide) ?_
  refine r_iadd hC dL_law_890 ?_
  refine r_scr (j := i + 1) hC hX hL3 dL_law_891 (by first | rfl | rw [nI_add]) (by omega) ?_
  refine r_cV (as := [.int (xs (i + 1))]) hC (m_placeOf hzs hMM1 hCL.1.1 hMC (xs (i + 1))) cs_X8_placeOf q_1111 q_1112 q_1113 (hMM1.kd) (by decide) rfl dL_law_892 rfl rfl ⟨Nat.le_of_ble_eq_true rfl, Nat.le_of_ble_eq_true rfl⟩ (Nat.le_of_ble_eq_true rfl) ⟨by dsimp only [rmW, rmA, rmT, rmL]; omega, by dsimp only [rmW, rmA, rmT, rmL]; omega⟩ (fun v892 S892 p892 => ?_) (fun _ x => x.elim)
  refine r_hge hC (fun hg => ?_)
  obtain ⟨x, N2, R2, e1, hx, hMM2, h23, hI2, hj, hO2⟩ := EM.use p892 hCL1 hO1 hg
  subst e1
  refine r_istore hC dL_law_895 (by decide) ?_
  refine r_aload_n hC dL_law_897 rfl rfl ?_
  refine r_cV (as := []) hC (m_thrown hzs hMM2) cs_X8_thrown q_1002 q_1003 q_1004 (hMM2.kd) (by decide) rfl dL_law_898 rfl rfl ⟨Nat.le_of_ble_eq_true rfl, Nat.le_of_ble_eq_true rfl⟩ (Nat.le_of_ble_eq_true rfl) ⟨by dsimp only [rmW, rmA, rmT, rmL]; omega, by dsimp only [rmW, rmA, rmT, rmL]; omega⟩ (fun v898 S898 p898 => ?_) (fun _ x => x.elim)
  obtain ⟨rfl, eT⟩ := p898
  rw [eT, h23]
  refine r_iload hC dL_law_901 rfl ?_
  refine r_iceq (tgt := 908) hC dL_law_903 (by decide) (fun h903 => ?_) (fun h903 => ?_)
  · refine r_iload hC dL_law_908 rfl ?_
    refine r_ifne (tgt := 925) hC dL_law_910 (by decide) (fun h910 => ?_) (fun h910 => ?_)
    · refine r_goto (tgt := 1642) hC dL_law_925 (by decide) ?_
      exact J.wide (by dsimp only [rmW, rmA, rmT]; omega) (by dsimp only [rmW, rmA, rmT]; omega) (nxt _ _ _ _ hI2)
    · have hz : (oPlaceOf A (xs (i + 1))).1 = 0 := nz_of hlt h910
      have hv := (congrFun hj 0).trans (hout hz)
      rw [hx hz]
      refine r_aload_n hC dL_law_913 rfl rfl ?_
      refine r_iconst (v := nI 0) hC dL_law_914 (by decide) ?_
      refine r_lald hC dL_law_915 (hO2.1) (rfl) (by rw [hO2.2]; decide) (by rw [hO2.2]; decide) (hv) ?_
      refine r_iload hC dL_law_916 rfl ?_
      refine r_i2l hC dL_law_918 ?_
      refine r_lcmp hC dL_law_919 ?_
      rw [lcmp_0]
      refine r_ifeq (tgt := 925) hC dL_law_920 (by decide) (fun h920 => ?_) (fun h920 => ?_)
      · refine r_goto (tgt := 1642) hC dL_law_925 (by decide) ?_
        exact J.wide (by dsimp only [rmW, rmA, rmT]; omega) (by dsimp only [rmW, rmA, rmT]; omega) (nxt _ _ _ _ hI2)
      · exact absurd rfl h920
  · exact absurd rfl h903
set_option maxRecDepth 100000 in
set_option maxHeartbeats 1000000 in
theorem a_print (hC : CX G Z RL cL_law 7 (some .boolean) rmL) (hzs : (zl Z).stackTraces = false) (hX : SC G Z b L xs) (hL3 : L ≤ 3072) (hi : i + 6 ≤ L) (hk : k + 440 ≤ 601024) (hn : n + 3600 ≤ 7293033) (hI : LI G S t md out A)
    (nxt : ∀ S' A' (o5 o6 : Option Value), LI G S' t md out A' → J G Z S' (k + 440) (n + 3600) 1642 [some (va_rf (some b)), some (va_rf (some t)), some (va_rf (some md)), some (va_rf (some out)), some (.int (nI i)), o5, o6] []) :
    J G Z S k n 928 [some (va_rf (some b)), some (va_rf (some t)), some (va_rf (some md)), some (va_rf (some out)), some (.int (nI i)), o5, o6] [] := by
  obtain ⟨tg, W, V, N, R, hCL, hMM, hMC, hO⟩ := hI
  refine r_aload_n hC dL_law_928 rfl rfl ?_
  refine r_aload_n hC dL_law_929 rfl rfl ?_
  refine r_iload hC dL_law_930 rfl ?_
  refine r_iconst (v := nI 1) hC dL_law_932 (by decide) ?_
  refine r_iadd hC dL_law_933 ?_
  refine r_scr (j := i + 1) hC hX hL3 dL_law_934 (by first | rfl | rw [nI_add]) (by omega) ?_
  refine r_aload_n hC dL_law_935 rfl rfl ?_
  refine r_cSW (ar := 3) (as := [va_rf (some t), .int (xs (i + 1)), va_rf (some out)]) hC (w_print hzs hCL hO (xs (i + 1))) q_688 q_72 ⟨by decide, by decide⟩ (by decide +kernel) q_686 q_687 dL_law_936 rfl rfl ⟨Nat.le_of_ble_eq_true rfl, Nat.le_of_ble_eq_true rfl⟩ (Nat.le_of_ble_eq_true rfl) ⟨by dsimp only [rmW, rmA, rmT, rmL]; omega, by dsimp only [rmW, rmA, rmT, rmL]; omega⟩ (fun v936 S936 p936 => ?_)
  obtain ⟨e0, hlt, tg1, W1, hCL1, hMM1, hO1, hout⟩ := EW.use p936 hMM hO
  subst e0
  refine r_istore hC dL_law_939 (by decide) ?_
  refine r_aload_n hC dL_law_941 rfl rfl ?_
  refine r_aload_n hC dL_law_942 rfl rfl ?_
  refine r_iload hC dL_law_943 rfl ?_
  refine r_iconst (v := nI 1) hC dL_law_945 (by decide) ?_
  refine r_iadd hC dL_law_946 ?_
  refine r_scr (j := i + 1) hC hX hL3 dL_law_947 (by first | rfl | rw [nI_add]) (by omega) ?_
  refine r_cV (as := [.int (xs (i + 1))]) hC (m_print hzs hMM1 hCL.1.1 hMC (xs (i + 1))) cs_X8_print q_1115 q_1116 q_1117 (hMM1.kd) (by decide) rfl dL_law_948 rfl rfl ⟨Nat.le_of_ble_eq_true rfl, Nat.le_of_ble_eq_true rfl⟩ (Nat.le_of_ble_eq_true rfl) ⟨by dsimp only [rmW, rmA, rmT, rmL]; omega, by dsimp only [rmW, rmA, rmT, rmL]; omega⟩ (fun v948 S948 p948 => ?_) (fun _ x => x.elim)
  refine r_hge hC (fun hg => ?_)
  obtain ⟨x, N2, R2, e1, hx, hMM2, h23, hI2, hj, hO2⟩ := EM.use p948 hCL1 hO1 hg
  subst e1
  refine r_istore hC dL_law_951 (by decide) ?_
  refine r_aload_n hC dL_law_953 rfl rfl ?_
  refine r_cV (as := []) hC (m_thrown hzs hMM2) cs_X8_thrown q_1002 q_1003 q_1004 (hMM2.kd) (by decide) rfl dL_law_954 rfl rfl ⟨Nat.le_of_ble_eq_true rfl, Nat.le_of_ble_eq_true rfl⟩ (Nat.le_of_ble_eq_true rfl) ⟨by dsimp only [rmW, rmA, rmT, rmL]; omega, by dsimp only [rmW, rmA, rmT, rmL]; omega⟩ (fun v954 S954 p954 => ?_) (fun _ x => x.elim)
  obtain ⟨rfl, eT⟩ := p954
  rw [eT, h23]
  refine r_iload hC dL_law_957 rfl ?_
  refine r_iceq (tgt := 964) hC dL_law_959 (by decide) (fun h959 => ?_) (fun h959 => ?_)
  · refine r_iload hC dL_law_964 rfl ?_
    refine r_ifne (tgt := 981) hC dL_law_966 (by decide) (fun h966 => ?_) (fun h966 => ?_)
    · refine r_goto (tgt := 1642) hC dL_law_981 (by decide) ?_
      exact J.wide (by dsimp only [rmW, rmA, rmT]; omega) (by dsimp only [rmW, rmA, rmT]; omega) (nxt _ _ _ _ hI2)
    · have hz : (oPrint A (xs (i + 1))).1 = 0 := nz_of hlt h966
      have hv := (congrFun hj 0).trans (hout hz)
      rw [hx hz]
      refine r_aload_n hC dL_law_969 rfl rfl ?_
      refine r_iconst (v := nI 0) hC dL_law_970 (by decide) ?_
      refine r_lald hC dL_law_971 (hO2.1) (rfl) (by rw [hO2.2]; decide) (by rw [hO2.2]; decide) (hv) ?_
      refine r_iload hC dL_law_972 rfl ?_
      refine r_i2l hC dL_law_974 ?_
      refine r_lcmp hC dL_law_975 ?_
      rw [lcmp_0]
      refine r_ifeq (tgt := 981) hC dL_law_976 (by decide) (fun h976 => ?_) (fun h976 => ?_)
      · refine r_goto (tgt := 1642) hC dL_law_981 (by decide) ?_
        exact J.wide (by dsimp only [rmW, rmA, rmT]; omega) (by dsimp only [rmW, rmA, rmT]; omega) (nxt _ _ _ _ hI2)
      · exact absurd rfl h976
  · exact absurd rfl h959
set_option maxRecDepth 100000 in
set_option maxHeartbeats 1000000 in
theorem a_waiting (hC : CX G Z RL cL_law 7 (some .boolean) rmL) (hzs : (zl Z).stackTraces = false) (hX : SC G Z b L xs) (hL3 : L ≤ 3072) (hi : i + 6 ≤ L) (hk : k + 440 ≤ 601024) (hn : n + 3600 ≤ 7293033) (hI : LI G S t md out A)
    (nxt : ∀ S' A' (o5 o6 : Option Value), LI G S' t md out A' → J G Z S' (k + 440) (n + 3600) 1642 [some (va_rf (some b)), some (va_rf (some t)), some (va_rf (some md)), some (va_rf (some out)), some (.int (nI i)), o5, o6] []) :
    J G Z S k n 984 [some (va_rf (some b)), some (va_rf (some t)), some (va_rf (some md)), some (va_rf (some out)), some (.int (nI i)), o5, o6] [] := by
  obtain ⟨tg, W, V, N, R, hCL, hMM, hMC, hO⟩ := hI
  refine r_aload_n hC dL_law_984 rfl rfl ?_
  refine r_cV (as := []) hC (c_waiting hzs hCL) cs_X7_waiting q_197 q_198 q_199 (hCL.kt) (by decide) rfl dL_law_985 rfl rfl ⟨Nat.le_of_ble_eq_true rfl, Nat.le_of_ble_eq_true rfl⟩ (Nat.le_of_ble_eq_true rfl) ⟨by dsimp only [rmW, rmA, rmT, rmL]; omega, by dsimp only [rmW, rmA, rmT, rmL]; omega⟩ (fun v985 S985 p985 => ?_) (fun E985 x985 => ?_)
  · obtain ⟨e0, ez, tg1, W1, hCL1, hMM1, hO1⟩ := EN.use p985 hMM hO
    subst e0
    refine r_aload_n hC dL_law_988 rfl rfl ?_
    refine r_cV (as := []) hC (m_waiting hzs hMM1 hCL.1.1 hMC) cs_X8_waiting q_1123 q_1124 q_1125 (hMM1.kd) (by decide) rfl dL_law_989 rfl rfl ⟨Nat.le_of_ble_eq_true rfl, Nat.le_of_ble_eq_true rfl⟩ (Nat.le_of_ble_eq_true rfl) ⟨by dsimp only [rmW, rmA, rmT, rmL]; omega, by dsimp only [rmW, rmA, rmT, rmL]; omega⟩ (fun v989 S989 p989 => ?_) (fun _ x => x.elim)
    refine r_hge hC (fun hg => ?_)
    obtain ⟨x, N2, R2, e1, hx, hMM2, h23, hI2, hj, hO2⟩ := EM.use p989 hCL1 hO1 hg
    subst e1
    rw [hx ez]
    refine r_iceq (tgt := 1642) hC dL_law_992 (by decide) (fun h992 => ?_) (fun h992 => ?_)
    · exact J.wide (by dsimp only [rmW, rmA, rmT]; omega) (by dsimp only [rmW, rmA, rmT]; omega) (nxt _ _ _ _ hI2)
    · exact absurd rfl h992
  · obtain ⟨k, ek, hk⟩ := x985
    exact absurd hk (by simp)
set_option maxRecDepth 100000 in
set_option maxHeartbeats 1000000 in
theorem a_onSheet (hC : CX G Z RL cL_law 7 (some .boolean) rmL) (hzs : (zl Z).stackTraces = false) (hX : SC G Z b L xs) (hL3 : L ≤ 3072) (hi : i + 6 ≤ L) (hk : k + 440 ≤ 601024) (hn : n + 3600 ≤ 7293033) (hI : LI G S t md out A)
    (nxt : ∀ S' A' (o5 o6 : Option Value), LI G S' t md out A' → J G Z S' (k + 440) (n + 3600) 1642 [some (va_rf (some b)), some (va_rf (some t)), some (va_rf (some md)), some (va_rf (some out)), some (.int (nI i)), o5, o6] []) :
    J G Z S k n 997 [some (va_rf (some b)), some (va_rf (some t)), some (va_rf (some md)), some (va_rf (some out)), some (.int (nI i)), o5, o6] [] := by
  obtain ⟨tg, W, V, N, R, hCL, hMM, hMC, hO⟩ := hI
  refine r_aload_n hC dL_law_997 rfl rfl ?_
  refine r_aload_n hC dL_law_998 rfl rfl ?_
  refine r_iload hC dL_law_999 rfl ?_
  refine r_iconst (v := nI 1) hC dL_law_1001 (by decide) ?_
  refine r_iadd hC dL_law_1002 ?_
  refine r_scr (j := i + 1) hC hX hL3 dL_law_1003 (by first | rfl | rw [nI_add]) (by omega) ?_
  refine r_aload_n hC dL_law_1004 rfl rfl ?_
  refine r_iload hC dL_law_1005 rfl ?_
  refine r_iconst (v := nI 2) hC dL_law_1007 (by decide) ?_
  refine r_iadd hC dL_law_1008 ?_
  refine r_scr (j := i + 2) hC hX hL3 dL_law_1009 (by first | rfl | rw [nI_add]) (by omega) ?_
  refine r_aload_n hC dL_law_1010 rfl rfl ?_
  refine r_cSW (ar := 4) (as := [va_rf (some t), .int (xs (i + 1)), .int (xs (i + 2)), va_rf (some out)]) hC (w_onSheet hzs hCL hO (xs (i + 1)) (xs (i + 2))) q_779 q_72 ⟨by decide, by decide⟩ (by decide +kernel) q_777 q_778 dL_law_1011 rfl rfl ⟨Nat.le_of_ble_eq_true rfl, Nat.le_of_ble_eq_true rfl⟩ (Nat.le_of_ble_eq_true rfl) ⟨by dsimp only [rmW, rmA, rmT, rmL]; omega, by dsimp only [rmW, rmA, rmT, rmL]; omega⟩ (fun v1011 S1011 p1011 => ?_)
  obtain ⟨e0, hlt, tg1, W1, hCL1, hMM1, hO1, hout⟩ := EW.use p1011 hMM hO
  subst e0
  refine r_istore hC dL_law_1014 (by decide) ?_
  refine r_aload_n hC dL_law_1016 rfl rfl ?_
  refine r_aload_n hC dL_law_1017 rfl rfl ?_
  refine r_iload hC dL_law_1018 rfl ?_
  refine r_iconst (v := nI 1) hC dL_law_1020 (by decide) ?_
  refine r_iadd hC dL_law_1021 ?_
  refine r_scr (j := i + 1) hC hX hL3 dL_law_1022 (by first | rfl | rw [nI_add]) (by omega) ?_
  refine r_aload_n hC dL_law_1023 rfl rfl ?_
  refine r_iload hC dL_law_1024 rfl ?_
  refine r_iconst (v := nI 2) hC dL_law_1026 (by decide) ?_
  refine r_iadd hC dL_law_1027 ?_
  refine r_scr (j := i + 2) hC hX hL3 dL_law_1028 (by first | rfl | rw [nI_add]) (by omega) ?_
  refine r_cV (as := [.int (xs (i + 1)), .int (xs (i + 2))]) hC (m_onSheet hzs hMM1 hCL.1.1 hMC (xs (i + 1)) (xs (i + 2))) cs_X8_onSheet q_1127 q_1128 q_1129 (hMM1.kd) (by decide) rfl dL_law_1029 rfl rfl ⟨Nat.le_of_ble_eq_true rfl, Nat.le_of_ble_eq_true rfl⟩ (Nat.le_of_ble_eq_true rfl) ⟨by dsimp only [rmW, rmA, rmT, rmL]; omega, by dsimp only [rmW, rmA, rmT, rmL]; omega⟩ (fun v1029 S1029 p1029 => ?_) (fun _ x => x.elim)
  refine r_hge hC (fun hg => ?_)
  obtain ⟨x, N2, R2, e1, hx, hMM2, h23, hI2, hj, hO2⟩ := EM.use p1029 hCL1 hO1 hg
  subst e1
  refine r_istore hC dL_law_1032 (by decide) ?_
  refine r_aload_n hC dL_law_1034 rfl rfl ?_
  refine r_cV (as := []) hC (m_thrown hzs hMM2) cs_X8_thrown q_1002 q_1003 q_1004 (hMM2.kd) (by decide) rfl dL_law_1035 rfl rfl ⟨Nat.le_of_ble_eq_true rfl, Nat.le_of_ble_eq_true rfl⟩ (Nat.le_of_ble_eq_true rfl) ⟨by dsimp only [rmW, rmA, rmT, rmL]; omega, by dsimp only [rmW, rmA, rmT, rmL]; omega⟩ (fun v1035 S1035 p1035 => ?_) (fun _ x => x.elim)
  obtain ⟨rfl, eT⟩ := p1035
  rw [eT, h23]
  refine r_iload hC dL_law_1038 rfl ?_
  refine r_iceq (tgt := 1045) hC dL_law_1040 (by decide) (fun h1040 => ?_) (fun h1040 => ?_)
  · refine r_iload hC dL_law_1045 rfl ?_
    refine r_ifne (tgt := 1062) hC dL_law_1047 (by decide) (fun h1047 => ?_) (fun h1047 => ?_)
    · refine r_goto (tgt := 1642) hC dL_law_1062 (by decide) ?_
      exact J.wide (by dsimp only [rmW, rmA, rmT]; omega) (by dsimp only [rmW, rmA, rmT]; omega) (nxt _ _ _ _ hI2)
    · have hz : (oOnSheet A (xs (i + 1)) (xs (i + 2))).1 = 0 := nz_of hlt h1047
      have hv := (congrFun hj 0).trans (hout hz)
      rw [hx hz]
      refine r_aload_n hC dL_law_1050 rfl rfl ?_
      refine r_iconst (v := nI 0) hC dL_law_1051 (by decide) ?_
      refine r_lald hC dL_law_1052 (hO2.1) (rfl) (by rw [hO2.2]; decide) (by rw [hO2.2]; decide) (hv) ?_
      refine r_iload hC dL_law_1053 rfl ?_
      refine r_i2l hC dL_law_1055 ?_
      refine r_lcmp hC dL_law_1056 ?_
      rw [lcmp_0]
      refine r_ifeq (tgt := 1062) hC dL_law_1057 (by decide) (fun h1057 => ?_) (fun h1057 => ?_)
      · refine r_goto (tgt := 1642) hC dL_law_1062 (by decide) ?_
        exact J.wide (by dsimp only [rmW, rmA, rmT]; omega) (by dsimp only [rmW, rmA, rmT]; omega) (nxt _ _ _ _ hI2)
      · exact absurd rfl h1057
  · exact absurd rfl h1040
set_option maxRecDepth 100000 in
set_option maxHeartbeats 1000000 in
theorem a_cut (hC : CX G Z RL cL_law 7 (some .boolean) rmL) (hzs : (zl Z).stackTraces = false) (hX : SC G Z b L xs) (hL3 : L ≤ 3072) (hi : i + 6 ≤ L) (hk : k + 440 ≤ 601024) (hn : n + 3600 ≤ 7293033) (hI : LI G S t md out A)
    (nxt : ∀ S' A' (o5 o6 : Option Value), LI G S' t md out A' → J G Z S' (k + 440) (n + 3600) 1642 [some (va_rf (some b)), some (va_rf (some t)), some (va_rf (some md)), some (va_rf (some out)), some (.int (nI i)), o5, o6] []) :
    J G Z S k n 1065 [some (va_rf (some b)), some (va_rf (some t)), some (va_rf (some md)), some (va_rf (some out)), some (.int (nI i)), o5, o6] [] := by
  obtain ⟨tg, W, V, N, R, hCL, hMM, hMC, hO⟩ := hI
  refine r_aload_n hC dL_law_1065 rfl rfl ?_
  refine r_aload_n hC dL_law_1066 rfl rfl ?_
  refine r_iload hC dL_law_1067 rfl ?_
  refine r_iconst (v := nI 1) hC dL_law_1069 (by decide) ?_
  refine r_iadd hC dL_law_1070 ?_
  refine r_scr (j := i + 1) hC hX hL3 dL_law_1071 (by first | rfl | rw [nI_add]) (by omega) ?_
  refine r_aload_n hC dL_law_1072 rfl rfl ?_
  refine r_cSW (ar := 3) (as := [va_rf (some t), .int (xs (i + 1)), va_rf (some out)]) hC (w_cut hzs hCL hO (xs (i + 1))) q_811 q_72 ⟨by decide, by decide⟩ (by decide +kernel) q_809 q_810 dL_law_1073 rfl rfl ⟨Nat.le_of_ble_eq_true rfl, Nat.le_of_ble_eq_true rfl⟩ (Nat.le_of_ble_eq_true rfl) ⟨by dsimp only [rmW, rmA, rmT, rmL]; omega, by dsimp only [rmW, rmA, rmT, rmL]; omega⟩ (fun v1073 S1073 p1073 => ?_)
  obtain ⟨e0, hlt, tg1, W1, hCL1, hMM1, hO1, hout⟩ := EW.use p1073 hMM hO
  subst e0
  refine r_istore hC dL_law_1076 (by decide) ?_
  refine r_aload_n hC dL_law_1078 rfl rfl ?_
  refine r_aload_n hC dL_law_1079 rfl rfl ?_
  refine r_iload hC dL_law_1080 rfl ?_
  refine r_iconst (v := nI 1) hC dL_law_1082 (by decide) ?_
  refine r_iadd hC dL_law_1083 ?_
  refine r_scr (j := i + 1) hC hX hL3 dL_law_1084 (by first | rfl | rw [nI_add]) (by omega) ?_
  refine r_cV (as := [.int (xs (i + 1))]) hC (m_cut hzs hMM1 hCL.1.1 hMC (xs (i + 1))) cs_X8_cut q_1131 q_1132 q_1133 (hMM1.kd) (by decide) rfl dL_law_1085 rfl rfl ⟨Nat.le_of_ble_eq_true rfl, Nat.le_of_ble_eq_true rfl⟩ (Nat.le_of_ble_eq_true rfl) ⟨by dsimp only [rmW, rmA, rmT, rmL]; omega, by dsimp only [rmW, rmA, rmT, rmL]; omega⟩ (fun v1085 S1085 p1085 => ?_) (fun _ x => x.elim)
  refine r_hge hC (fun hg => ?_)
  obtain ⟨x, N2, R2, e1, hx, hMM2, h23, hI2, hj, hO2⟩ := EM.use p1085 hCL1 hO1 hg
  subst e1
  refine r_istore hC dL_law_1088 (by decide) ?_
  refine r_aload_n hC dL_law_1090 rfl rfl ?_
  refine r_cV (as := []) hC (m_thrown hzs hMM2) cs_X8_thrown q_1002 q_1003 q_1004 (hMM2.kd) (by decide) rfl dL_law_1091 rfl rfl ⟨Nat.le_of_ble_eq_true rfl, Nat.le_of_ble_eq_true rfl⟩ (Nat.le_of_ble_eq_true rfl) ⟨by dsimp only [rmW, rmA, rmT, rmL]; omega, by dsimp only [rmW, rmA, rmT, rmL]; omega⟩ (fun v1091 S1091 p1091 => ?_) (fun _ x => x.elim)
  obtain ⟨rfl, eT⟩ := p1091
  rw [eT, h23]
  refine r_iload hC dL_law_1094 rfl ?_
  refine r_iceq (tgt := 1101) hC dL_law_1096 (by decide) (fun h1096 => ?_) (fun h1096 => ?_)
  · refine r_iload hC dL_law_1101 rfl ?_
    refine r_ifne (tgt := 1118) hC dL_law_1103 (by decide) (fun h1103 => ?_) (fun h1103 => ?_)
    · refine r_goto (tgt := 1642) hC dL_law_1118 (by decide) ?_
      exact J.wide (by dsimp only [rmW, rmA, rmT]; omega) (by dsimp only [rmW, rmA, rmT]; omega) (nxt _ _ _ _ hI2)
    · have hz : (oCut A (xs (i + 1))).1 = 0 := nz_of hlt h1103
      have hv := (congrFun hj 0).trans (hout hz)
      rw [hx hz]
      refine r_aload_n hC dL_law_1106 rfl rfl ?_
      refine r_iconst (v := nI 0) hC dL_law_1107 (by decide) ?_
      refine r_lald hC dL_law_1108 (hO2.1) (rfl) (by rw [hO2.2]; decide) (by rw [hO2.2]; decide) (hv) ?_
      refine r_iload hC dL_law_1109 rfl ?_
      refine r_i2l hC dL_law_1111 ?_
      refine r_lcmp hC dL_law_1112 ?_
      rw [lcmp_0]
      refine r_ifeq (tgt := 1118) hC dL_law_1113 (by decide) (fun h1113 => ?_) (fun h1113 => ?_)
      · refine r_goto (tgt := 1642) hC dL_law_1118 (by decide) ?_
        exact J.wide (by dsimp only [rmW, rmA, rmT]; omega) (by dsimp only [rmW, rmA, rmT]; omega) (nxt _ _ _ _ hI2)
      · exact absurd rfl h1113
  · exact absurd rfl h1096
set_option maxRecDepth 100000 in
set_option maxHeartbeats 1000000 in
theorem a_discard (hC : CX G Z RL cL_law 7 (some .boolean) rmL) (hzs : (zl Z).stackTraces = false) (hX : SC G Z b L xs) (hL3 : L ≤ 3072) (hi : i + 6 ≤ L) (hk : k + 440 ≤ 601024) (hn : n + 3600 ≤ 7293033) (hI : LI G S t md out A)
    (nxt : ∀ S' A' (o5 o6 : Option Value), LI G S' t md out A' → J G Z S' (k + 440) (n + 3600) 1642 [some (va_rf (some b)), some (va_rf (some t)), some (va_rf (some md)), some (va_rf (some out)), some (.int (nI i)), o5, o6] []) :
    J G Z S k n 1121 [some (va_rf (some b)), some (va_rf (some t)), some (va_rf (some md)), some (va_rf (some out)), some (.int (nI i)), o5, o6] [] := by
  obtain ⟨tg, W, V, N, R, hCL, hMM, hMC, hO⟩ := hI
  refine r_aload_n hC dL_law_1121 rfl rfl ?_
  refine r_cV (as := []) hC (c_discard hzs hCL) cs_X7_discard q_220 q_221 q_222 (hCL.kt) (by decide) rfl dL_law_1122 rfl rfl ⟨Nat.le_of_ble_eq_true rfl, Nat.le_of_ble_eq_true rfl⟩ (Nat.le_of_ble_eq_true rfl) ⟨by dsimp only [rmW, rmA, rmT, rmL]; omega, by dsimp only [rmW, rmA, rmT, rmL]; omega⟩ (fun v1122 S1122 p1122 => ?_) (fun E1122 x1122 => ?_)
  · obtain ⟨e0, ez, tg1, W1, hCL1, hMM1, hO1⟩ := EN.use p1122 hMM hO
    subst e0
    refine r_aload_n hC dL_law_1125 rfl rfl ?_
    refine r_cV (as := []) hC (m_discard hzs hMM1 hCL.1.1 hMC) cs_X8_discard q_1143 q_1144 q_1145 (hMM1.kd) (by decide) rfl dL_law_1126 rfl rfl ⟨Nat.le_of_ble_eq_true rfl, Nat.le_of_ble_eq_true rfl⟩ (Nat.le_of_ble_eq_true rfl) ⟨by dsimp only [rmW, rmA, rmT, rmL]; omega, by dsimp only [rmW, rmA, rmT, rmL]; omega⟩ (fun v1126 S1126 p1126 => ?_) (fun _ x => x.elim)
    refine r_hge hC (fun hg => ?_)
    obtain ⟨x, N2, R2, e1, hx, hMM2, h23, hI2, hj, hO2⟩ := EM.use p1126 hCL1 hO1 hg
    subst e1
    rw [hx ez]
    refine r_iceq (tgt := 1642) hC dL_law_1129 (by decide) (fun h1129 => ?_) (fun h1129 => ?_)
    · exact J.wide (by dsimp only [rmW, rmA, rmT]; omega) (by dsimp only [rmW, rmA, rmT]; omega) (nxt _ _ _ _ hI2)
    · exact absurd rfl h1129
  · obtain ⟨k, ek, hk⟩ := x1122
    exact absurd hk (by simp)
set_option maxRecDepth 100000 in
set_option maxHeartbeats 1000000 in
theorem a_sharpen (hC : CX G Z RL cL_law 7 (some .boolean) rmL) (hzs : (zl Z).stackTraces = false) (hX : SC G Z b L xs) (hL3 : L ≤ 3072) (hi : i + 6 ≤ L) (hk : k + 440 ≤ 601024) (hn : n + 3600 ≤ 7293033) (hI : LI G S t md out A)
    (nxt : ∀ S' A' (o5 o6 : Option Value), LI G S' t md out A' → J G Z S' (k + 440) (n + 3600) 1642 [some (va_rf (some b)), some (va_rf (some t)), some (va_rf (some md)), some (va_rf (some out)), some (.int (nI i)), o5, o6] []) :
    J G Z S k n 1134 [some (va_rf (some b)), some (va_rf (some t)), some (va_rf (some md)), some (va_rf (some out)), some (.int (nI i)), o5, o6] [] := by
  obtain ⟨tg, W, V, N, R, hCL, hMM, hMC, hO⟩ := hI
  refine r_aload_n hC dL_law_1134 rfl rfl ?_
  refine r_aload_n hC dL_law_1135 rfl rfl ?_
  refine r_iload hC dL_law_1136 rfl ?_
  refine r_iconst (v := nI 1) hC dL_law_1138 (by decide) ?_
  refine r_iadd hC dL_law_1139 ?_
  refine r_scr (j := i + 1) hC hX hL3 dL_law_1140 (by first | rfl | rw [nI_add]) (by omega) ?_
  refine r_aload_n hC dL_law_1141 rfl rfl ?_
  refine r_cSW (ar := 3) (as := [va_rf (some t), .int (xs (i + 1)), va_rf (some out)]) hC (w_sharpen hzs hCL hO (xs (i + 1))) q_827 q_72 ⟨by decide, by decide⟩ (by decide +kernel) q_825 q_826 dL_law_1142 rfl rfl ⟨Nat.le_of_ble_eq_true rfl, Nat.le_of_ble_eq_true rfl⟩ (Nat.le_of_ble_eq_true rfl) ⟨by dsimp only [rmW, rmA, rmT, rmL]; omega, by dsimp only [rmW, rmA, rmT, rmL]; omega⟩ (fun v1142 S1142 p1142 => ?_)
  obtain ⟨e0, hlt, tg1, W1, hCL1, hMM1, hO1, hout⟩ := EW.use p1142 hMM hO
  subst e0
  refine r_istore hC dL_law_1145 (by decide) ?_
  refine r_aload_n hC dL_law_1147 rfl rfl ?_
  refine r_aload_n hC dL_law_1148 rfl rfl ?_
  refine r_iload hC dL_law_1149 rfl ?_
  refine r_iconst (v := nI 1) hC dL_law_1151 (by decide) ?_
  refine r_iadd hC dL_law_1152 ?_
  refine r_scr (j := i + 1) hC hX hL3 dL_law_1153 (by first | rfl | rw [nI_add]) (by omega) ?_
  refine r_cV (as := [.int (xs (i + 1))]) hC (m_sharpen hzs hMM1 hMC (xs (i + 1))) cs_X8_sharpen q_1147 q_1148 q_1149 (hMM1.kd) (by decide) rfl dL_law_1154 rfl rfl ⟨Nat.le_of_ble_eq_true rfl, Nat.le_of_ble_eq_true rfl⟩ (Nat.le_of_ble_eq_true rfl) ⟨by dsimp only [rmW, rmA, rmT, rmL]; omega, by dsimp only [rmW, rmA, rmT, rmL]; omega⟩ (fun v1154 S1154 p1154 => ?_) (fun _ x => x.elim)
  refine r_hge hC (fun hg => ?_)
  obtain ⟨x, N2, R2, e1, hx, hMM2, h23, hI2, hj, hO2⟩ := EM.use p1154 hCL1 hO1 hg
  subst e1
  refine r_istore hC dL_law_1157 (by decide) ?_
  refine r_aload_n hC dL_law_1159 rfl rfl ?_
  refine r_cV (as := []) hC (m_thrown hzs hMM2) cs_X8_thrown q_1002 q_1003 q_1004 (hMM2.kd) (by decide) rfl dL_law_1160 rfl rfl ⟨Nat.le_of_ble_eq_true rfl, Nat.le_of_ble_eq_true rfl⟩ (Nat.le_of_ble_eq_true rfl) ⟨by dsimp only [rmW, rmA, rmT, rmL]; omega, by dsimp only [rmW, rmA, rmT, rmL]; omega⟩ (fun v1160 S1160 p1160 => ?_) (fun _ x => x.elim)
  obtain ⟨rfl, eT⟩ := p1160
  rw [eT, h23]
  refine r_iload hC dL_law_1163 rfl ?_
  refine r_iceq (tgt := 1170) hC dL_law_1165 (by decide) (fun h1165 => ?_) (fun h1165 => ?_)
  · refine r_iload hC dL_law_1170 rfl ?_
    refine r_ifne (tgt := 1187) hC dL_law_1172 (by decide) (fun h1172 => ?_) (fun h1172 => ?_)
    · refine r_goto (tgt := 1642) hC dL_law_1187 (by decide) ?_
      exact J.wide (by dsimp only [rmW, rmA, rmT]; omega) (by dsimp only [rmW, rmA, rmT]; omega) (nxt _ _ _ _ hI2)
    · have hz : (oSharpen A (xs (i + 1))).1 = 0 := nz_of hlt h1172
      have hv := (congrFun hj 0).trans (hout hz)
      rw [hx hz]
      refine r_aload_n hC dL_law_1175 rfl rfl ?_
      refine r_iconst (v := nI 0) hC dL_law_1176 (by decide) ?_
      refine r_lald hC dL_law_1177 (hO2.1) (rfl) (by rw [hO2.2]; decide) (by rw [hO2.2]; decide) (hv) ?_
      refine r_iload hC dL_law_1178 rfl ?_
      refine r_i2l hC dL_law_1180 ?_
      refine r_lcmp hC dL_law_1181 ?_
      rw [lcmp_0]
      refine r_ifeq (tgt := 1187) hC dL_law_1182 (by decide) (fun h1182 => ?_) (fun h1182 => ?_)
      · refine r_goto (tgt := 1642) hC dL_law_1187 (by decide) ?_
        exact J.wide (by dsimp only [rmW, rmA, rmT]; omega) (by dsimp only [rmW, rmA, rmT]; omega) (nxt _ _ _ _ hI2)
      · exact absurd rfl h1182
  · exact absurd rfl h1165
set_option maxRecDepth 100000 in
set_option maxHeartbeats 1000000 in
theorem a_setTolerance (hC : CX G Z RL cL_law 7 (some .boolean) rmL) (hzs : (zl Z).stackTraces = false) (hX : SC G Z b L xs) (hL3 : L ≤ 3072) (hi : i + 6 ≤ L) (hk : k + 440 ≤ 601024) (hn : n + 3600 ≤ 7293033) (hI : LI G S t md out A)
    (nxt : ∀ S' A' (o5 o6 : Option Value), LI G S' t md out A' → J G Z S' (k + 440) (n + 3600) 1642 [some (va_rf (some b)), some (va_rf (some t)), some (va_rf (some md)), some (va_rf (some out)), some (.int (nI i)), o5, o6] []) :
    J G Z S k n 1190 [some (va_rf (some b)), some (va_rf (some t)), some (va_rf (some md)), some (va_rf (some out)), some (.int (nI i)), o5, o6] [] := by
  obtain ⟨tg, W, V, N, R, hCL, hMM, hMC, hO⟩ := hI
  refine r_aload_n hC dL_law_1190 rfl rfl ?_
  refine r_aload_n hC dL_law_1191 rfl rfl ?_
  refine r_iload hC dL_law_1192 rfl ?_
  refine r_iconst (v := nI 1) hC dL_law_1194 (by decide) ?_
  refine r_iadd hC dL_law_1195 ?_
  refine r_scr (j := i + 1) hC hX hL3 dL_law_1196 (by first | rfl | rw [nI_add]) (by omega) ?_
  refine r_aload_n hC dL_law_1197 rfl rfl ?_
  refine r_cSW (ar := 3) (as := [va_rf (some t), .int (xs (i + 1)), va_rf (some out)]) hC (w_setTolerance hzs hCL hO (xs (i + 1))) q_834 q_72 ⟨by decide, by decide⟩ (by decide +kernel) q_832 q_833 dL_law_1198 rfl rfl ⟨Nat.le_of_ble_eq_true rfl, Nat.le_of_ble_eq_true rfl⟩ (Nat.le_of_ble_eq_true rfl) ⟨by dsimp only [rmW, rmA, rmT, rmL]; omega, by dsimp only [rmW, rmA, rmT, rmL]; omega⟩ (fun v1198 S1198 p1198 => ?_)
  obtain ⟨e0, hlt, tg1, W1, hCL1, hMM1, hO1, hout⟩ := EW.use p1198 hMM hO
  subst e0
  refine r_istore hC dL_law_1201 (by decide) ?_
  refine r_aload_n hC dL_law_1203 rfl rfl ?_
  refine r_aload_n hC dL_law_1204 rfl rfl ?_
  refine r_iload hC dL_law_1205 rfl ?_
  refine r_iconst (v := nI 1) hC dL_law_1207 (by decide) ?_
  refine r_iadd hC dL_law_1208 ?_
  refine r_scr (j := i + 1) hC hX hL3 dL_law_1209 (by first | rfl | rw [nI_add]) (by omega) ?_
  refine r_cV (as := [.int (xs (i + 1))]) hC (m_setTolerance hzs hMM1 hMC (xs (i + 1))) cs_X8_setTolerance q_1151 q_1152 q_1153 (hMM1.kd) (by decide) rfl dL_law_1210 rfl rfl ⟨Nat.le_of_ble_eq_true rfl, Nat.le_of_ble_eq_true rfl⟩ (Nat.le_of_ble_eq_true rfl) ⟨by dsimp only [rmW, rmA, rmT, rmL]; omega, by dsimp only [rmW, rmA, rmT, rmL]; omega⟩ (fun v1210 S1210 p1210 => ?_) (fun _ x => x.elim)
  refine r_hge hC (fun hg => ?_)
  obtain ⟨x, N2, R2, e1, hx, hMM2, h23, hI2, hj, hO2⟩ := EM.use p1210 hCL1 hO1 hg
  subst e1
  refine r_istore hC dL_law_1213 (by decide) ?_
  refine r_aload_n hC dL_law_1215 rfl rfl ?_
  refine r_cV (as := []) hC (m_thrown hzs hMM2) cs_X8_thrown q_1002 q_1003 q_1004 (hMM2.kd) (by decide) rfl dL_law_1216 rfl rfl ⟨Nat.le_of_ble_eq_true rfl, Nat.le_of_ble_eq_true rfl⟩ (Nat.le_of_ble_eq_true rfl) ⟨by dsimp only [rmW, rmA, rmT, rmL]; omega, by dsimp only [rmW, rmA, rmT, rmL]; omega⟩ (fun v1216 S1216 p1216 => ?_) (fun _ x => x.elim)
  obtain ⟨rfl, eT⟩ := p1216
  rw [eT, h23]
  refine r_iload hC dL_law_1219 rfl ?_
  refine r_iceq (tgt := 1226) hC dL_law_1221 (by decide) (fun h1221 => ?_) (fun h1221 => ?_)
  · refine r_iload hC dL_law_1226 rfl ?_
    refine r_ifne (tgt := 1243) hC dL_law_1228 (by decide) (fun h1228 => ?_) (fun h1228 => ?_)
    · refine r_goto (tgt := 1642) hC dL_law_1243 (by decide) ?_
      exact J.wide (by dsimp only [rmW, rmA, rmT]; omega) (by dsimp only [rmW, rmA, rmT]; omega) (nxt _ _ _ _ hI2)
    · have hz : (oSetTol A (xs (i + 1))).1 = 0 := nz_of hlt h1228
      have hv := (congrFun hj 0).trans (hout hz)
      rw [hx hz]
      refine r_aload_n hC dL_law_1231 rfl rfl ?_
      refine r_iconst (v := nI 0) hC dL_law_1232 (by decide) ?_
      refine r_lald hC dL_law_1233 (hO2.1) (rfl) (by rw [hO2.2]; decide) (by rw [hO2.2]; decide) (hv) ?_
      refine r_iload hC dL_law_1234 rfl ?_
      refine r_i2l hC dL_law_1236 ?_
      refine r_lcmp hC dL_law_1237 ?_
      rw [lcmp_0]
      refine r_ifeq (tgt := 1243) hC dL_law_1238 (by decide) (fun h1238 => ?_) (fun h1238 => ?_)
      · refine r_goto (tgt := 1642) hC dL_law_1243 (by decide) ?_
        exact J.wide (by dsimp only [rmW, rmA, rmT]; omega) (by dsimp only [rmW, rmA, rmT]; omega) (nxt _ _ _ _ hI2)
      · exact absurd rfl h1238
  · exact absurd rfl h1221
set_option maxRecDepth 100000 in
set_option maxHeartbeats 1000000 in
theorem a_bind (hC : CX G Z RL cL_law 7 (some .boolean) rmL) (hzs : (zl Z).stackTraces = false) (hX : SC G Z b L xs) (hL3 : L ≤ 3072) (hi : i + 6 ≤ L) (hk : k + 440 ≤ 601024) (hn : n + 3600 ≤ 7293033) (hI : LI G S t md out A)
    (nxt : ∀ S' A' (o5 o6 : Option Value), LI G S' t md out A' → J G Z S' (k + 440) (n + 3600) 1642 [some (va_rf (some b)), some (va_rf (some t)), some (va_rf (some md)), some (va_rf (some out)), some (.int (nI i)), o5, o6] []) :
    J G Z S k n 1246 [some (va_rf (some b)), some (va_rf (some t)), some (va_rf (some md)), some (va_rf (some out)), some (.int (nI i)), o5, o6] [] := by
  obtain ⟨tg, W, V, N, R, hCL, hMM, hMC, hO⟩ := hI
  refine r_aload_n hC dL_law_1246 rfl rfl ?_
  refine r_aload_n hC dL_law_1247 rfl rfl ?_
  refine r_iload hC dL_law_1248 rfl ?_
  refine r_iconst (v := nI 1) hC dL_law_1250 (by decide) ?_
  refine r_iadd hC dL_law_1251 ?_
  refine r_scr (j := i + 1) hC hX hL3 dL_law_1252 (by first | rfl | rw [nI_add]) (by omega) ?_
  refine r_aload_n hC dL_law_1253 rfl rfl ?_
  refine r_iload hC dL_law_1254 rfl ?_
  refine r_iconst (v := nI 2) hC dL_law_1256 (by decide) ?_
  refine r_iadd hC dL_law_1257 ?_
  refine r_scr (j := i + 2) hC hX hL3 dL_law_1258 (by first | rfl | rw [nI_add]) (by omega) ?_
  refine r_aload_n hC dL_law_1259 rfl rfl ?_
  refine r_cSW (ar := 4) (as := [va_rf (some t), .int (xs (i + 1)), .int (xs (i + 2)), va_rf (some out)]) hC (w_bind hzs hCL hO (xs (i + 1)) (xs (i + 2))) q_841 q_72 ⟨by decide, by decide⟩ (by decide +kernel) q_839 q_840 dL_law_1260 rfl rfl ⟨Nat.le_of_ble_eq_true rfl, Nat.le_of_ble_eq_true rfl⟩ (Nat.le_of_ble_eq_true rfl) ⟨by dsimp only [rmW, rmA, rmT, rmL]; omega, by dsimp only [rmW, rmA, rmT, rmL]; omega⟩ (fun v1260 S1260 p1260 => ?_)
  obtain ⟨e0, hlt, tg1, W1, hCL1, hMM1, hO1, hout⟩ := EW.use p1260 hMM hO
  subst e0
  refine r_istore hC dL_law_1263 (by decide) ?_
  refine r_aload_n hC dL_law_1265 rfl rfl ?_
  refine r_aload_n hC dL_law_1266 rfl rfl ?_
  refine r_iload hC dL_law_1267 rfl ?_
  refine r_iconst (v := nI 1) hC dL_law_1269 (by decide) ?_
  refine r_iadd hC dL_law_1270 ?_
  refine r_scr (j := i + 1) hC hX hL3 dL_law_1271 (by first | rfl | rw [nI_add]) (by omega) ?_
  refine r_aload_n hC dL_law_1272 rfl rfl ?_
  refine r_iload hC dL_law_1273 rfl ?_
  refine r_iconst (v := nI 2) hC dL_law_1275 (by decide) ?_
  refine r_iadd hC dL_law_1276 ?_
  refine r_scr (j := i + 2) hC hX hL3 dL_law_1277 (by first | rfl | rw [nI_add]) (by omega) ?_
  refine r_cV (as := [.int (xs (i + 1)), .int (xs (i + 2))]) hC (m_bind hzs hMM1 hCL.1.1 hCL.2 hMC (xs (i + 1)) (xs (i + 2))) cs_X8_bind q_1155 q_1156 q_1157 (hMM1.kd) (by decide) rfl dL_law_1278 rfl rfl ⟨Nat.le_of_ble_eq_true rfl, Nat.le_of_ble_eq_true rfl⟩ (Nat.le_of_ble_eq_true rfl) ⟨by dsimp only [rmW, rmA, rmT, rmL]; omega, by dsimp only [rmW, rmA, rmT, rmL]; omega⟩ (fun v1278 S1278 p1278 => ?_) (fun _ x => x.elim)
  refine r_hge hC (fun hg => ?_)
  obtain ⟨x, N2, R2, e1, hx, hMM2, h23, hI2, hj, hO2⟩ := EM.use p1278 hCL1 hO1 hg
  subst e1
  refine r_istore hC dL_law_1281 (by decide) ?_
  refine r_aload_n hC dL_law_1283 rfl rfl ?_
  refine r_cV (as := []) hC (m_thrown hzs hMM2) cs_X8_thrown q_1002 q_1003 q_1004 (hMM2.kd) (by decide) rfl dL_law_1284 rfl rfl ⟨Nat.le_of_ble_eq_true rfl, Nat.le_of_ble_eq_true rfl⟩ (Nat.le_of_ble_eq_true rfl) ⟨by dsimp only [rmW, rmA, rmT, rmL]; omega, by dsimp only [rmW, rmA, rmT, rmL]; omega⟩ (fun v1284 S1284 p1284 => ?_) (fun _ x => x.elim)
  obtain ⟨rfl, eT⟩ := p1284
  rw [eT, h23]
  refine r_iload hC dL_law_1287 rfl ?_
  refine r_iceq (tgt := 1294) hC dL_law_1289 (by decide) (fun h1289 => ?_) (fun h1289 => ?_)
  · refine r_iload hC dL_law_1294 rfl ?_
    refine r_ifne (tgt := 1311) hC dL_law_1296 (by decide) (fun h1296 => ?_) (fun h1296 => ?_)
    · refine r_goto (tgt := 1642) hC dL_law_1311 (by decide) ?_
      exact J.wide (by dsimp only [rmW, rmA, rmT]; omega) (by dsimp only [rmW, rmA, rmT]; omega) (nxt _ _ _ _ hI2)
    · have hz : (oBind A (xs (i + 1)) (xs (i + 2))).1 = 0 := nz_of hlt h1296
      have hv := (congrFun hj 0).trans (hout hz)
      rw [hx hz]
      refine r_aload_n hC dL_law_1299 rfl rfl ?_
      refine r_iconst (v := nI 0) hC dL_law_1300 (by decide) ?_
      refine r_lald hC dL_law_1301 (hO2.1) (rfl) (by rw [hO2.2]; decide) (by rw [hO2.2]; decide) (hv) ?_
      refine r_iload hC dL_law_1302 rfl ?_
      refine r_i2l hC dL_law_1304 ?_
      refine r_lcmp hC dL_law_1305 ?_
      rw [lcmp_0]
      refine r_ifeq (tgt := 1311) hC dL_law_1306 (by decide) (fun h1306 => ?_) (fun h1306 => ?_)
      · refine r_goto (tgt := 1642) hC dL_law_1311 (by decide) ?_
        exact J.wide (by dsimp only [rmW, rmA, rmT]; omega) (by dsimp only [rmW, rmA, rmT]; omega) (nxt _ _ _ _ hI2)
      · exact absurd rfl h1306
  · exact absurd rfl h1289
set_option maxRecDepth 100000 in
set_option maxHeartbeats 1000000 in
theorem a_isBound (hC : CX G Z RL cL_law 7 (some .boolean) rmL) (hzs : (zl Z).stackTraces = false) (hX : SC G Z b L xs) (hL3 : L ≤ 3072) (hi : i + 6 ≤ L) (hk : k + 440 ≤ 601024) (hn : n + 3600 ≤ 7293033) (hI : LI G S t md out A)
    (nxt : ∀ S' A' (o5 o6 : Option Value), LI G S' t md out A' → J G Z S' (k + 440) (n + 3600) 1642 [some (va_rf (some b)), some (va_rf (some t)), some (va_rf (some md)), some (va_rf (some out)), some (.int (nI i)), o5, o6] []) :
    J G Z S k n 1314 [some (va_rf (some b)), some (va_rf (some t)), some (va_rf (some md)), some (va_rf (some out)), some (.int (nI i)), o5, o6] [] := by
  obtain ⟨tg, W, V, N, R, hCL, hMM, hMC, hO⟩ := hI
  refine r_aload_n hC dL_law_1314 rfl rfl ?_
  refine r_aload_n hC dL_law_1315 rfl rfl ?_
  refine r_iload hC dL_law_1316 rfl ?_
  refine r_iconst (v := nI 1) hC dL_law_1318 (by decide) ?_
  refine r_iadd hC dL_law_1319 ?_
  refine r_scr (j := i + 1) hC hX hL3 dL_law_1320 (by first | rfl | rw [nI_add]) (by omega) ?_
  refine r_aload_n hC dL_law_1321 rfl rfl ?_
  refine r_iload hC dL_law_1322 rfl ?_
  refine r_iconst (v := nI 2) hC dL_law_1324 (by decide) ?_
  refine r_iadd hC dL_law_1325 ?_
  refine r_scr (j := i + 2) hC hX hL3 dL_law_1326 (by first | rfl | rw [nI_add]) (by omega) ?_
  refine r_aload_n hC dL_law_1327 rfl rfl ?_
  refine r_cSW (ar := 4) (as := [va_rf (some t), .int (xs (i + 1)), .int (xs (i + 2)), va_rf (some out)]) hC (w_isBound hzs hCL hO (xs (i + 1)) (xs (i + 2))) q_870 q_72 ⟨by decide, by decide⟩ (by decide +kernel) q_868 q_869 dL_law_1328 rfl rfl ⟨Nat.le_of_ble_eq_true rfl, Nat.le_of_ble_eq_true rfl⟩ (Nat.le_of_ble_eq_true rfl) ⟨by dsimp only [rmW, rmA, rmT, rmL]; omega, by dsimp only [rmW, rmA, rmT, rmL]; omega⟩ (fun v1328 S1328 p1328 => ?_)
  obtain ⟨e0, hlt, tg1, W1, hCL1, hMM1, hO1, hout⟩ := EW.use p1328 hMM hO
  subst e0
  refine r_istore hC dL_law_1331 (by decide) ?_
  refine r_aload_n hC dL_law_1333 rfl rfl ?_
  refine r_aload_n hC dL_law_1334 rfl rfl ?_
  refine r_iload hC dL_law_1335 rfl ?_
  refine r_iconst (v := nI 1) hC dL_law_1337 (by decide) ?_
  refine r_iadd hC dL_law_1338 ?_
  refine r_scr (j := i + 1) hC hX hL3 dL_law_1339 (by first | rfl | rw [nI_add]) (by omega) ?_
  refine r_aload_n hC dL_law_1340 rfl rfl ?_
  refine r_iload hC dL_law_1341 rfl ?_
  refine r_iconst (v := nI 2) hC dL_law_1343 (by decide) ?_
  refine r_iadd hC dL_law_1344 ?_
  refine r_scr (j := i + 2) hC hX hL3 dL_law_1345 (by first | rfl | rw [nI_add]) (by omega) ?_
  refine r_cV (as := [.int (xs (i + 1)), .int (xs (i + 2))]) hC (m_isBound hzs hMM1 hCL.1.1 hMC (xs (i + 1)) (xs (i + 2))) cs_X8_isBound q_1167 q_1168 q_1169 (hMM1.kd) (by decide) rfl dL_law_1346 rfl rfl ⟨Nat.le_of_ble_eq_true rfl, Nat.le_of_ble_eq_true rfl⟩ (Nat.le_of_ble_eq_true rfl) ⟨by dsimp only [rmW, rmA, rmT, rmL]; omega, by dsimp only [rmW, rmA, rmT, rmL]; omega⟩ (fun v1346 S1346 p1346 => ?_) (fun _ x => x.elim)
  refine r_hge hC (fun hg => ?_)
  obtain ⟨x, N2, R2, e1, hx, hMM2, h23, hI2, hj, hO2⟩ := EM.use p1346 hCL1 hO1 hg
  subst e1
  refine r_istore hC dL_law_1349 (by decide) ?_
  refine r_aload_n hC dL_law_1351 rfl rfl ?_
  refine r_cV (as := []) hC (m_thrown hzs hMM2) cs_X8_thrown q_1002 q_1003 q_1004 (hMM2.kd) (by decide) rfl dL_law_1352 rfl rfl ⟨Nat.le_of_ble_eq_true rfl, Nat.le_of_ble_eq_true rfl⟩ (Nat.le_of_ble_eq_true rfl) ⟨by dsimp only [rmW, rmA, rmT, rmL]; omega, by dsimp only [rmW, rmA, rmT, rmL]; omega⟩ (fun v1352 S1352 p1352 => ?_) (fun _ x => x.elim)
  obtain ⟨rfl, eT⟩ := p1352
  rw [eT, h23]
  refine r_iload hC dL_law_1355 rfl ?_
  refine r_iceq (tgt := 1362) hC dL_law_1357 (by decide) (fun h1357 => ?_) (fun h1357 => ?_)
  · refine r_iload hC dL_law_1362 rfl ?_
    refine r_ifne (tgt := 1386) hC dL_law_1364 (by decide) (fun h1364 => ?_) (fun h1364 => ?_)
    · refine r_goto (tgt := 1642) hC dL_law_1386 (by decide) ?_
      exact J.wide (by dsimp only [rmW, rmA, rmT]; omega) (by dsimp only [rmW, rmA, rmT]; omega) (nxt _ _ _ _ hI2)
    · have hz : (oIsBound A (xs (i + 1)) (xs (i + 2))).1 = 0 := nz_of hlt h1364
      have hv := (congrFun hj 0).trans (hout hz)
      rw [hx hz]
      obtain ⟨b0, b1⟩ := oIsBound_b A (xs (i + 1)) (xs (i + 2)) (x := ((oIsBound A (xs (i + 1)) (xs (i + 2))).2.1).toInt64) rfl
      refine r_aload_n hC dL_law_1367 rfl rfl ?_
      refine r_iconst (v := nI 0) hC dL_law_1368 (by decide) ?_
      refine r_lald hC dL_law_1369 (hO2.1) (rfl) (by rw [hO2.2]; decide) (by rw [hO2.2]; decide) (hv) ?_
      refine r_iload hC dL_law_1370 rfl ?_
      refine r_ifeq (tgt := 1379) hC dL_law_1372 (by decide) (fun h1372 => ?_) (fun h1372 => ?_)
      · rw [b0 h1372]
        refine r_lconst (v := 0) hC dL_law_1379 rfl ?_
        refine r_lcmp hC dL_law_1380 ?_
        rw [lcmp_0]
        refine r_ifeq (tgt := 1386) hC dL_law_1381 (by decide) (fun h1381 => ?_) (fun h1381 => ?_)
        · refine r_goto (tgt := 1642) hC dL_law_1386 (by decide) ?_
          exact J.wide (by dsimp only [rmW, rmA, rmT]; omega) (by dsimp only [rmW, rmA, rmT]; omega) (nxt _ _ _ _ hI2)
        · exact absurd rfl h1381
      · rw [b1 h1372]
        refine r_lconst (v := 1) hC dL_law_1375 rfl ?_
        refine r_goto (tgt := 1380) hC dL_law_1376 (by decide) ?_
        refine r_lcmp hC dL_law_1380 ?_
        rw [lcmp_0]
        refine r_ifeq (tgt := 1386) hC dL_law_1381 (by decide) (fun h1381 => ?_) (fun h1381 => ?_)
        · refine r_goto (tgt := 1642) hC dL_law_1386 (by decide) ?_
          exact J.wide (by dsimp only [rmW, rmA, rmT]; omega) (by dsimp only [rmW, rmA, rmT]; omega) (nxt _ _ _ _ hI2)
        · exact absurd rfl h1381
  · exact absurd rfl h1357
set_option maxRecDepth 100000 in
set_option maxHeartbeats 1000000 in
theorem a_trim (hC : CX G Z RL cL_law 7 (some .boolean) rmL) (hzs : (zl Z).stackTraces = false) (hX : SC G Z b L xs) (hL3 : L ≤ 3072) (hi : i + 6 ≤ L) (hk : k + 440 ≤ 601024) (hn : n + 3600 ≤ 7293033) (hI : LI G S t md out A)
    (nxt : ∀ S' A' (o5 o6 : Option Value), LI G S' t md out A' → J G Z S' (k + 440) (n + 3600) 1642 [some (va_rf (some b)), some (va_rf (some t)), some (va_rf (some md)), some (va_rf (some out)), some (.int (nI i)), o5, o6] []) :
    J G Z S k n 1389 [some (va_rf (some b)), some (va_rf (some t)), some (va_rf (some md)), some (va_rf (some out)), some (.int (nI i)), o5, o6] [] := by
  obtain ⟨tg, W, V, N, R, hCL, hMM, hMC, hO⟩ := hI
  refine r_aload_n hC dL_law_1389 rfl rfl ?_
  refine r_aload_n hC dL_law_1390 rfl rfl ?_
  refine r_iload hC dL_law_1391 rfl ?_
  refine r_iconst (v := nI 1) hC dL_law_1393 (by decide) ?_
  refine r_iadd hC dL_law_1394 ?_
  refine r_scr (j := i + 1) hC hX hL3 dL_law_1395 (by first | rfl | rw [nI_add]) (by omega) ?_
  refine r_aload_n hC dL_law_1396 rfl rfl ?_
  refine r_iload hC dL_law_1397 rfl ?_
  refine r_iconst (v := nI 2) hC dL_law_1399 (by decide) ?_
  refine r_iadd hC dL_law_1400 ?_
  refine r_scr (j := i + 2) hC hX hL3 dL_law_1401 (by first | rfl | rw [nI_add]) (by omega) ?_
  refine r_aload_n hC dL_law_1402 rfl rfl ?_
  refine r_iload hC dL_law_1403 rfl ?_
  refine r_iconst (v := nI 3) hC dL_law_1405 (by decide) ?_
  refine r_iadd hC dL_law_1406 ?_
  refine r_scr (j := i + 3) hC hX hL3 dL_law_1407 (by first | rfl | rw [nI_add]) (by omega) ?_
  refine r_aload_n hC dL_law_1408 rfl rfl ?_
  refine r_cSW (ar := 5) (as := [va_rf (some t), .int (xs (i + 1)), .int (xs (i + 2)), .int (xs (i + 3)), va_rf (some out)]) hC (w_trim hzs hCL hO (xs (i + 1)) (xs (i + 2)) (xs (i + 3))) q_877 q_72 ⟨by decide, by decide⟩ (by decide +kernel) q_875 q_876 dL_law_1409 rfl rfl ⟨Nat.le_of_ble_eq_true rfl, Nat.le_of_ble_eq_true rfl⟩ (Nat.le_of_ble_eq_true rfl) ⟨by dsimp only [rmW, rmA, rmT, rmL]; omega, by dsimp only [rmW, rmA, rmT, rmL]; omega⟩ (fun v1409 S1409 p1409 => ?_)
  obtain ⟨e0, hlt, tg1, W1, hCL1, hMM1, hO1, hout⟩ := EW.use p1409 hMM hO
  subst e0
  refine r_istore hC dL_law_1412 (by decide) ?_
  refine r_aload_n hC dL_law_1414 rfl rfl ?_
  refine r_aload_n hC dL_law_1415 rfl rfl ?_
  refine r_iload hC dL_law_1416 rfl ?_
  refine r_iconst (v := nI 1) hC dL_law_1418 (by decide) ?_
  refine r_iadd hC dL_law_1419 ?_
  refine r_scr (j := i + 1) hC hX hL3 dL_law_1420 (by first | rfl | rw [nI_add]) (by omega) ?_
  refine r_aload_n hC dL_law_1421 rfl rfl ?_
  refine r_iload hC dL_law_1422 rfl ?_
  refine r_iconst (v := nI 2) hC dL_law_1424 (by decide) ?_
  refine r_iadd hC dL_law_1425 ?_
  refine r_scr (j := i + 2) hC hX hL3 dL_law_1426 (by first | rfl | rw [nI_add]) (by omega) ?_
  refine r_aload_n hC dL_law_1427 rfl rfl ?_
  refine r_iload hC dL_law_1428 rfl ?_
  refine r_iconst (v := nI 3) hC dL_law_1430 (by decide) ?_
  refine r_iadd hC dL_law_1431 ?_
  refine r_scr (j := i + 3) hC hX hL3 dL_law_1432 (by first | rfl | rw [nI_add]) (by omega) ?_
  refine r_cV (as := [.int (xs (i + 1)), .int (xs (i + 2)), .int (xs (i + 3))]) hC (m_trim hzs hMM1 hCL.1.1 hMC (xs (i + 1)) (xs (i + 2)) (xs (i + 3))) cs_X8_trim q_1171 q_1172 q_1173 (hMM1.kd) (by decide) rfl dL_law_1433 rfl rfl ⟨Nat.le_of_ble_eq_true rfl, Nat.le_of_ble_eq_true rfl⟩ (Nat.le_of_ble_eq_true rfl) ⟨by dsimp only [rmW, rmA, rmT, rmL]; omega, by dsimp only [rmW, rmA, rmT, rmL]; omega⟩ (fun v1433 S1433 p1433 => ?_) (fun _ x => x.elim)
  refine r_hge hC (fun hg => ?_)
  obtain ⟨x, N2, R2, e1, hx, hMM2, h23, hI2, hj, hO2⟩ := EM.use p1433 hCL1 hO1 hg
  subst e1
  refine r_istore hC dL_law_1436 (by decide) ?_
  refine r_aload_n hC dL_law_1438 rfl rfl ?_
  refine r_cV (as := []) hC (m_thrown hzs hMM2) cs_X8_thrown q_1002 q_1003 q_1004 (hMM2.kd) (by decide) rfl dL_law_1439 rfl rfl ⟨Nat.le_of_ble_eq_true rfl, Nat.le_of_ble_eq_true rfl⟩ (Nat.le_of_ble_eq_true rfl) ⟨by dsimp only [rmW, rmA, rmT, rmL]; omega, by dsimp only [rmW, rmA, rmT, rmL]; omega⟩ (fun v1439 S1439 p1439 => ?_) (fun _ x => x.elim)
  obtain ⟨rfl, eT⟩ := p1439
  rw [eT, h23]
  refine r_iload hC dL_law_1442 rfl ?_
  refine r_iceq (tgt := 1449) hC dL_law_1444 (by decide) (fun h1444 => ?_) (fun h1444 => ?_)
  · refine r_iload hC dL_law_1449 rfl ?_
    refine r_ifne (tgt := 1466) hC dL_law_1451 (by decide) (fun h1451 => ?_) (fun h1451 => ?_)
    · refine r_goto (tgt := 1642) hC dL_law_1466 (by decide) ?_
      exact J.wide (by dsimp only [rmW, rmA, rmT]; omega) (by dsimp only [rmW, rmA, rmT]; omega) (nxt _ _ _ _ hI2)
    · have hz : (oTrim A (xs (i + 1)) (xs (i + 2)) (xs (i + 3))).1 = 0 := nz_of hlt h1451
      have hv := (congrFun hj 0).trans (hout hz)
      rw [hx hz]
      refine r_aload_n hC dL_law_1454 rfl rfl ?_
      refine r_iconst (v := nI 0) hC dL_law_1455 (by decide) ?_
      refine r_lald hC dL_law_1456 (hO2.1) (rfl) (by rw [hO2.2]; decide) (by rw [hO2.2]; decide) (hv) ?_
      refine r_iload hC dL_law_1457 rfl ?_
      refine r_i2l hC dL_law_1459 ?_
      refine r_lcmp hC dL_law_1460 ?_
      rw [lcmp_0]
      refine r_ifeq (tgt := 1466) hC dL_law_1461 (by decide) (fun h1461 => ?_) (fun h1461 => ?_)
      · refine r_goto (tgt := 1642) hC dL_law_1466 (by decide) ?_
        exact J.wide (by dsimp only [rmW, rmA, rmT]; omega) (by dsimp only [rmW, rmA, rmT]; omega) (nxt _ _ _ _ hI2)
      · exact absurd rfl h1461
  · exact absurd rfl h1444
set_option maxRecDepth 100000 in
set_option maxHeartbeats 1000000 in
theorem a_leaf (hC : CX G Z RL cL_law 7 (some .boolean) rmL) (hzs : (zl Z).stackTraces = false) (hX : SC G Z b L xs) (hL3 : L ≤ 3072) (hi : i + 6 ≤ L) (hk : k + 440 ≤ 601024) (hn : n + 3600 ≤ 7293033) (hI : LI G S t md out A)
    (nxt : ∀ S' A' (o5 o6 : Option Value), LI G S' t md out A' → J G Z S' (k + 440) (n + 3600) 1642 [some (va_rf (some b)), some (va_rf (some t)), some (va_rf (some md)), some (va_rf (some out)), some (.int (nI i)), o5, o6] []) :
    J G Z S k n 1469 [some (va_rf (some b)), some (va_rf (some t)), some (va_rf (some md)), some (va_rf (some out)), some (.int (nI i)), o5, o6] [] := by
  obtain ⟨tg, W, V, N, R, hCL, hMM, hMC, hO⟩ := hI
  refine r_aload_n hC dL_law_1469 rfl rfl ?_
  refine r_aload_n hC dL_law_1470 rfl rfl ?_
  refine r_iload hC dL_law_1471 rfl ?_
  refine r_iconst (v := nI 1) hC dL_law_1473 (by decide) ?_
  refine r_iadd hC dL_law_1474 ?_
  refine r_scr (j := i + 1) hC hX hL3 dL_law_1475 (by first | rfl | rw [nI_add]) (by omega) ?_
  refine r_aload_n hC dL_law_1476 rfl rfl ?_
  refine r_iload hC dL_law_1477 rfl ?_
  refine r_iconst (v := nI 2) hC dL_law_1479 (by decide) ?_
  refine r_iadd hC dL_law_1480 ?_
  refine r_scr (j := i + 2) hC hX hL3 dL_law_1481 (by first | rfl | rw [nI_add]) (by omega) ?_
  refine r_aload_n hC dL_law_1482 rfl rfl ?_
  refine r_iload hC dL_law_1483 rfl ?_
  refine r_iconst (v := nI 3) hC dL_law_1485 (by decide) ?_
  refine r_iadd hC dL_law_1486 ?_
  refine r_scr (j := i + 3) hC hX hL3 dL_law_1487 (by first | rfl | rw [nI_add]) (by omega) ?_
  refine r_aload_n hC dL_law_1488 rfl rfl ?_
  refine r_cSW (ar := 5) (as := [va_rf (some t), .int (xs (i + 1)), .int (xs (i + 2)), .int (xs (i + 3)), va_rf (some out)]) hC (w_leaf hzs hCL hO (xs (i + 1)) (xs (i + 2)) (xs (i + 3))) q_894 q_72 ⟨by decide, by decide⟩ (by decide +kernel) q_892 q_893 dL_law_1489 rfl rfl ⟨Nat.le_of_ble_eq_true rfl, Nat.le_of_ble_eq_true rfl⟩ (Nat.le_of_ble_eq_true rfl) ⟨by dsimp only [rmW, rmA, rmT, rmL]; omega, by dsimp only [rmW, rmA, rmT, rmL]; omega⟩ (fun v1489 S1489 p1489 => ?_)
  obtain ⟨e0, hlt, tg1, W1, hCL1, hMM1, hO1, hout⟩ := EW.use p1489 hMM hO
  subst e0
  refine r_istore hC dL_law_1492 (by decide) ?_
  refine r_aload_n hC dL_law_1494 rfl rfl ?_
  refine r_aload_n hC dL_law_1495 rfl rfl ?_
  refine r_iload hC dL_law_1496 rfl ?_
  refine r_iconst (v := nI 1) hC dL_law_1498 (by decide) ?_
  refine r_iadd hC dL_law_1499 ?_
  refine r_scr (j := i + 1) hC hX hL3 dL_law_1500 (by first | rfl | rw [nI_add]) (by omega) ?_
  refine r_aload_n hC dL_law_1501 rfl rfl ?_
  refine r_iload hC dL_law_1502 rfl ?_
  refine r_iconst (v := nI 2) hC dL_law_1504 (by decide) ?_
  refine r_iadd hC dL_law_1505 ?_
  refine r_scr (j := i + 2) hC hX hL3 dL_law_1506 (by first | rfl | rw [nI_add]) (by omega) ?_
  refine r_aload_n hC dL_law_1507 rfl rfl ?_
  refine r_iload hC dL_law_1508 rfl ?_
  refine r_iconst (v := nI 3) hC dL_law_1510 (by decide) ?_
  refine r_iadd hC dL_law_1511 ?_
  refine r_scr (j := i + 3) hC hX hL3 dL_law_1512 (by first | rfl | rw [nI_add]) (by omega) ?_
  refine r_cV (as := [.int (xs (i + 1)), .int (xs (i + 2)), .int (xs (i + 3))]) hC (m_leaf hzs hMM1 hCL.1.1 hMC (xs (i + 1)) (xs (i + 2)) (xs (i + 3))) cs_X8_leaf q_1179 q_1180 q_1181 (hMM1.kd) (by decide) rfl dL_law_1513 rfl rfl ⟨Nat.le_of_ble_eq_true rfl, Nat.le_of_ble_eq_true rfl⟩ (Nat.le_of_ble_eq_true rfl) ⟨by dsimp only [rmW, rmA, rmT, rmL]; omega, by dsimp only [rmW, rmA, rmT, rmL]; omega⟩ (fun v1513 S1513 p1513 => ?_) (fun _ x => x.elim)
  refine r_hge hC (fun hg => ?_)
  obtain ⟨x, N2, R2, e1, hx, hMM2, h23, hI2, hj, hO2⟩ := EM.use p1513 hCL1 hO1 hg
  subst e1
  refine r_istore hC dL_law_1516 (by decide) ?_
  refine r_aload_n hC dL_law_1518 rfl rfl ?_
  refine r_cV (as := []) hC (m_thrown hzs hMM2) cs_X8_thrown q_1002 q_1003 q_1004 (hMM2.kd) (by decide) rfl dL_law_1519 rfl rfl ⟨Nat.le_of_ble_eq_true rfl, Nat.le_of_ble_eq_true rfl⟩ (Nat.le_of_ble_eq_true rfl) ⟨by dsimp only [rmW, rmA, rmT, rmL]; omega, by dsimp only [rmW, rmA, rmT, rmL]; omega⟩ (fun v1519 S1519 p1519 => ?_) (fun _ x => x.elim)
  obtain ⟨rfl, eT⟩ := p1519
  rw [eT, h23]
  refine r_iload hC dL_law_1522 rfl ?_
  refine r_iceq (tgt := 1529) hC dL_law_1524 (by decide) (fun h1524 => ?_) (fun h1524 => ?_)
  · refine r_iload hC dL_law_1529 rfl ?_
    refine r_ifne (tgt := 1546) hC dL_law_1531 (by decide) (fun h1531 => ?_) (fun h1531 => ?_)
    · refine r_goto (tgt := 1642) hC dL_law_1546 (by decide) ?_
      exact J.wide (by dsimp only [rmW, rmA, rmT]; omega) (by dsimp only [rmW, rmA, rmT]; omega) (nxt _ _ _ _ hI2)
    · have hz : (oLeaf A (xs (i + 1)) (xs (i + 2)) (xs (i + 3))).1 = 0 := nz_of hlt h1531
      have hv := (congrFun hj 0).trans (hout hz)
      rw [hx hz]
      refine r_aload_n hC dL_law_1534 rfl rfl ?_
      refine r_iconst (v := nI 0) hC dL_law_1535 (by decide) ?_
      refine r_lald hC dL_law_1536 (hO2.1) (rfl) (by rw [hO2.2]; decide) (by rw [hO2.2]; decide) (hv) ?_
      refine r_iload hC dL_law_1537 rfl ?_
      refine r_i2l hC dL_law_1539 ?_
      refine r_lcmp hC dL_law_1540 ?_
      rw [lcmp_0]
      refine r_ifeq (tgt := 1546) hC dL_law_1541 (by decide) (fun h1541 => ?_) (fun h1541 => ?_)
      · refine r_goto (tgt := 1642) hC dL_law_1546 (by decide) ?_
        exact J.wide (by dsimp only [rmW, rmA, rmT]; omega) (by dsimp only [rmW, rmA, rmT]; omega) (nxt _ _ _ _ hI2)
      · exact absurd rfl h1541
  · exact absurd rfl h1524
set_option maxRecDepth 100000 in
set_option maxHeartbeats 1000000 in
theorem a_leafByPiles (hC : CX G Z RL cL_law 7 (some .boolean) rmL) (hzs : (zl Z).stackTraces = false) (hX : SC G Z b L xs) (hL3 : L ≤ 3072) (hi : i + 6 ≤ L) (hk : k + 440 ≤ 601024) (hn : n + 3600 ≤ 7293033) (hI : LI G S t md out A)
    (nxt : ∀ S' A' (o5 o6 : Option Value), LI G S' t md out A' → J G Z S' (k + 440) (n + 3600) 1642 [some (va_rf (some b)), some (va_rf (some t)), some (va_rf (some md)), some (va_rf (some out)), some (.int (nI i)), o5, o6] []) :
    J G Z S k n 1549 [some (va_rf (some b)), some (va_rf (some t)), some (va_rf (some md)), some (va_rf (some out)), some (.int (nI i)), o5, o6] [] := by
  obtain ⟨tg, W, V, N, R, hCL, hMM, hMC, hO⟩ := hI
  refine r_aload_n hC dL_law_1549 rfl rfl ?_
  refine r_aload_n hC dL_law_1550 rfl rfl ?_
  refine r_iload hC dL_law_1551 rfl ?_
  refine r_iconst (v := nI 1) hC dL_law_1553 (by decide) ?_
  refine r_iadd hC dL_law_1554 ?_
  refine r_scr (j := i + 1) hC hX hL3 dL_law_1555 (by first | rfl | rw [nI_add]) (by omega) ?_
  refine r_aload_n hC dL_law_1556 rfl rfl ?_
  refine r_iload hC dL_law_1557 rfl ?_
  refine r_iconst (v := nI 2) hC dL_law_1559 (by decide) ?_
  refine r_iadd hC dL_law_1560 ?_
  refine r_scr (j := i + 2) hC hX hL3 dL_law_1561 (by first | rfl | rw [nI_add]) (by omega) ?_
  refine r_aload_n hC dL_law_1562 rfl rfl ?_
  refine r_iload hC dL_law_1563 rfl ?_
  refine r_iconst (v := nI 3) hC dL_law_1565 (by decide) ?_
  refine r_iadd hC dL_law_1566 ?_
  refine r_scr (j := i + 3) hC hX hL3 dL_law_1567 (by first | rfl | rw [nI_add]) (by omega) ?_
  refine r_aload_n hC dL_law_1568 rfl rfl ?_
  refine r_cSW (ar := 5) (as := [va_rf (some t), .int (xs (i + 1)), .int (xs (i + 2)), .int (xs (i + 3)), va_rf (some out)]) hC (w_leafByPiles hzs hCL hO (xs (i + 1)) (xs (i + 2)) (xs (i + 3))) q_901 q_72 ⟨by decide, by decide⟩ (by decide +kernel) q_899 q_900 dL_law_1569 rfl rfl ⟨Nat.le_of_ble_eq_true rfl, Nat.le_of_ble_eq_true rfl⟩ (Nat.le_of_ble_eq_true rfl) ⟨by dsimp only [rmW, rmA, rmT, rmL]; omega, by dsimp only [rmW, rmA, rmT, rmL]; omega⟩ (fun v1569 S1569 p1569 => ?_)
  obtain ⟨e0, hlt, tg1, W1, hCL1, hMM1, hO1, hout⟩ := EW.use p1569 hMM hO
  subst e0
  refine r_istore hC dL_law_1572 (by decide) ?_
  refine r_aload_n hC dL_law_1574 rfl rfl ?_
  refine r_aload_n hC dL_law_1575 rfl rfl ?_
  refine r_iload hC dL_law_1576 rfl ?_
  refine r_iconst (v := nI 1) hC dL_law_1578 (by decide) ?_
  refine r_iadd hC dL_law_1579 ?_
  refine r_scr (j := i + 1) hC hX hL3 dL_law_1580 (by first | rfl | rw [nI_add]) (by omega) ?_
  refine r_aload_n hC dL_law_1581 rfl rfl ?_
  refine r_iload hC dL_law_1582 rfl ?_
  refine r_iconst (v := nI 2) hC dL_law_1584 (by decide) ?_
  refine r_iadd hC dL_law_1585 ?_
  refine r_scr (j := i + 2) hC hX hL3 dL_law_1586 (by first | rfl | rw [nI_add]) (by omega) ?_
  refine r_aload_n hC dL_law_1587 rfl rfl ?_
  refine r_iload hC dL_law_1588 rfl ?_
  refine r_iconst (v := nI 3) hC dL_law_1590 (by decide) ?_
  refine r_iadd hC dL_law_1591 ?_
  refine r_scr (j := i + 3) hC hX hL3 dL_law_1592 (by first | rfl | rw [nI_add]) (by omega) ?_
  refine r_cV (as := [.int (xs (i + 1)), .int (xs (i + 2)), .int (xs (i + 3))]) hC (m_leafByPiles hzs hMM1 hCL.1.1 hMC (xs (i + 1)) (xs (i + 2)) (xs (i + 3))) cs_X8_leafByPiles q_1187 q_1188 q_1189 (hMM1.kd) (by decide) rfl dL_law_1593 rfl rfl ⟨Nat.le_of_ble_eq_true rfl, Nat.le_of_ble_eq_true rfl⟩ (Nat.le_of_ble_eq_true rfl) ⟨by dsimp only [rmW, rmA, rmT, rmL]; omega, by dsimp only [rmW, rmA, rmT, rmL]; omega⟩ (fun v1593 S1593 p1593 => ?_) (fun _ x => x.elim)
  refine r_hge hC (fun hg => ?_)
  obtain ⟨x, N2, R2, e1, hx, hMM2, h23, hI2, hj, hO2⟩ := EM.use p1593 hCL1 hO1 hg
  subst e1
  refine r_istore hC dL_law_1596 (by decide) ?_
  refine r_aload_n hC dL_law_1598 rfl rfl ?_
  refine r_cV (as := []) hC (m_thrown hzs hMM2) cs_X8_thrown q_1002 q_1003 q_1004 (hMM2.kd) (by decide) rfl dL_law_1599 rfl rfl ⟨Nat.le_of_ble_eq_true rfl, Nat.le_of_ble_eq_true rfl⟩ (Nat.le_of_ble_eq_true rfl) ⟨by dsimp only [rmW, rmA, rmT, rmL]; omega, by dsimp only [rmW, rmA, rmT, rmL]; omega⟩ (fun v1599 S1599 p1599 => ?_) (fun _ x => x.elim)
  obtain ⟨rfl, eT⟩ := p1599
  rw [eT, h23]
  refine r_iload hC dL_law_1602 rfl ?_
  refine r_iceq (tgt := 1609) hC dL_law_1604 (by decide) (fun h1604 => ?_) (fun h1604 => ?_)
  · refine r_iload hC dL_law_1609 rfl ?_
    refine r_ifne (tgt := 1626) hC dL_law_1611 (by decide) (fun h1611 => ?_) (fun h1611 => ?_)
    · refine r_goto (tgt := 1642) hC dL_law_1626 (by decide) ?_
      exact J.wide (by dsimp only [rmW, rmA, rmT]; omega) (by dsimp only [rmW, rmA, rmT]; omega) (nxt _ _ _ _ hI2)
    · have hz : (oLeaf A (xs (i + 1)) (xs (i + 2)) (xs (i + 3))).1 = 0 := nz_of hlt h1611
      have hv := (congrFun hj 0).trans (hout hz)
      rw [hx hz]
      refine r_aload_n hC dL_law_1614 rfl rfl ?_
      refine r_iconst (v := nI 0) hC dL_law_1615 (by decide) ?_
      refine r_lald hC dL_law_1616 (hO2.1) (rfl) (by rw [hO2.2]; decide) (by rw [hO2.2]; decide) (hv) ?_
      refine r_iload hC dL_law_1617 rfl ?_
      refine r_i2l hC dL_law_1619 ?_
      refine r_lcmp hC dL_law_1620 ?_
      rw [lcmp_0]
      refine r_ifeq (tgt := 1626) hC dL_law_1621 (by decide) (fun h1621 => ?_) (fun h1621 => ?_)
      · refine r_goto (tgt := 1642) hC dL_law_1626 (by decide) ?_
        exact J.wide (by dsimp only [rmW, rmA, rmT]; omega) (by dsimp only [rmW, rmA, rmT]; omega) (nxt _ _ _ _ hI2)
      · exact absurd rfl h1621
  · exact absurd rfl h1604
set_option maxRecDepth 100000 in
set_option maxHeartbeats 1000000 in
theorem a_spoiled (hC : CX G Z RL cL_law 7 (some .boolean) rmL) (hzs : (zl Z).stackTraces = false) (hX : SC G Z b L xs) (hL3 : L ≤ 3072) (hi : i + 6 ≤ L) (hk : k + 440 ≤ 601024) (hn : n + 3600 ≤ 7293033) (hI : LI G S t md out A)
    (nxt : ∀ S' A' (o5 o6 : Option Value), LI G S' t md out A' → J G Z S' (k + 440) (n + 3600) 1642 [some (va_rf (some b)), some (va_rf (some t)), some (va_rf (some md)), some (va_rf (some out)), some (.int (nI i)), o5, o6] []) :
    J G Z S k n 1629 [some (va_rf (some b)), some (va_rf (some t)), some (va_rf (some md)), some (va_rf (some out)), some (.int (nI i)), o5, o6] [] := by
  obtain ⟨tg, W, V, N, R, hCL, hMM, hMC, hO⟩ := hI
  refine r_aload_n hC dL_law_1629 rfl rfl ?_
  refine r_cV (as := []) hC (c_spoiled hzs hCL) cs_X7_spoiled q_229 q_230 q_231 (hCL.kt) (by decide) rfl dL_law_1630 rfl rfl ⟨Nat.le_of_ble_eq_true rfl, Nat.le_of_ble_eq_true rfl⟩ (Nat.le_of_ble_eq_true rfl) ⟨by dsimp only [rmW, rmA, rmT, rmL]; omega, by dsimp only [rmW, rmA, rmT, rmL]; omega⟩ (fun v1630 S1630 p1630 => ?_) (fun E1630 x1630 => ?_)
  · obtain ⟨e0, ez, tg1, W1, hCL1, hMM1, hO1⟩ := EN.use p1630 hMM hO
    subst e0
    refine r_aload_n hC dL_law_1633 rfl rfl ?_
    refine r_cV (as := []) hC (m_spoiled hzs hMM1 hMC) cs_X8_spoiled q_1191 q_1192 q_1193 (hMM1.kd) (by decide) rfl dL_law_1634 rfl rfl ⟨Nat.le_of_ble_eq_true rfl, Nat.le_of_ble_eq_true rfl⟩ (Nat.le_of_ble_eq_true rfl) ⟨by dsimp only [rmW, rmA, rmT, rmL]; omega, by dsimp only [rmW, rmA, rmT, rmL]; omega⟩ (fun v1634 S1634 p1634 => ?_) (fun _ x => x.elim)
    refine r_hge hC (fun hg => ?_)
    obtain ⟨x, N2, R2, e1, hx, hMM2, h23, hI2, hj, hO2⟩ := EM.use p1634 hCL1 hO1 hg
    subst e1
    rw [hx ez]
    refine r_iceq (tgt := 1642) hC dL_law_1637 (by decide) (fun h1637 => ?_) (fun h1637 => ?_)
    · exact J.wide (by dsimp only [rmW, rmA, rmT]; omega) (by dsimp only [rmW, rmA, rmT]; omega) (nxt _ _ _ _ hI2)
    · exact absurd rfl h1637
  · obtain ⟨k, ek, hk⟩ := x1630
    exact absurd hk (by simp)
end Arms

