/-! ===== the law's loop over one hypothesis for each call ===== -/
theorem wp_sldN {M : mM} {fr lo pc pc1 : Nat} {ls : List (Option Value)} {st : List Value} {h : mH} {Q : Option Value → mH → Prop} {n j : Nat} {i : Int32} (hd : At M.2.1 pc (.iaload) 1 pc1) (ha : hK h scrA = (99, n)) (e : i = nI j) (hi : inN j n) (k9 : Wp M fr lo pc1 ls (.int (hI h scrA j) :: st) h Q) : Wp M fr lo pc ls (.int i :: .ref scrA :: st) h Q :=
  wp_sld hd ha (hi.vp e) (by rw [hi.cl e]; exact k9)
/-- a call of the class, then the same call of the model: one answer -/
def Op2 (Mx Mm : mM) (fx lx fm lm : Nat) (lsx lsm : List (Option Value)) (I : mH → Prop) (h : mH) : Prop :=
  Wp Mx fx lx 0 lsx [] h (fun r1 h1 => hK h1 scrA = hK h scrA ∧ hI h1 scrA = hI h scrA ∧ hO h1 153 12 ∧ ∃ v : Int32, r1 = some (.int v) ∧ Wp Mm fm lm 0 lsm [] h1 (fun r2 h2 => r2 = some (.int v) ∧ I h2))
set_option maxRecDepth 20000 in
theorem law_op0 {L c : Nat} {h : mH} {Q : Option Value → mH → Prop} {I : mH → Prop} (hL : L ≤ 3584) (hc : 7 * c + 7 ≤ L) (ho0 : hO h 0 11) (hs : hK h scrA = (99, L)) (hop : Op2 mX11_feed mX12_feed 1 22 1 22 [some (.ref 0), some (.int (hI h scrA (7 * c + 1))), some (.int (hI h scrA (7 * c + 2))), some (.int (hI h scrA (7 * c + 3))), some (.int (hI h scrA (7 * c + 4))), some (.int (hI h scrA (7 * c + 5)))] [some (.ref 153), some (.int (hI h scrA (7 * c + 1))), some (.int (hI h scrA (7 * c + 2))), some (.int (hI h scrA (7 * c + 3))), some (.int (hI h scrA (7 * c + 4))), some (.int (hI h scrA (7 * c + 5)))] I h) (hcont : ∀ h2, I h2 → Wp mLaw 13 554 1503 [some (.ref scrA), some (.ref 0), some (.ref 153), some (.int (nI (7 * c)))] [] h2 Q) : Wp mLaw 13 554 204 [some (.ref scrA), some (.ref 0), some (.ref 153), some (.int (nI (7 * c)))] [] h Q := by
  refine wp_aload_n dL_law_204 rfl rfl ?_
  refine wp_aload_n dL_law_205 rfl rfl ?_
  refine wp_iload_n dL_law_206 rfl rfl ?_
  refine wp_iconst (v := (nI 1)) dL_law_207 (by decide +kernel) ?_
  refine wp_iadd dL_law_208 ?_
  refine wp_sldN dL_law_209 hs (isN_add rfl rfl) ⟨by omega, by omega⟩ ?_
  refine wp_aload_n dL_law_210 rfl rfl ?_
  refine wp_iload_n dL_law_211 rfl rfl ?_
  refine wp_iconst (v := (nI 2)) dL_law_212 (by decide +kernel) ?_
  refine wp_iadd dL_law_213 ?_
  refine wp_sldN dL_law_214 hs (isN_add rfl rfl) ⟨by omega, by omega⟩ ?_
  refine wp_aload_n dL_law_215 rfl rfl ?_
  refine wp_iload_n dL_law_216 rfl rfl ?_
  refine wp_iconst (v := (nI 3)) dL_law_217 (by decide +kernel) ?_
  refine wp_iadd dL_law_218 ?_
  refine wp_sldN dL_law_219 hs (isN_add rfl rfl) ⟨by omega, by omega⟩ ?_
  refine wp_aload_n dL_law_220 rfl rfl ?_
  refine wp_iload_n dL_law_221 rfl rfl ?_
  refine wp_iconst (v := (nI 4)) dL_law_222 (by decide +kernel) ?_
  refine wp_iadd dL_law_223 ?_
  refine wp_sldN dL_law_224 hs (isN_add rfl rfl) ⟨by omega, by omega⟩ ?_
  refine wp_aload_n dL_law_225 rfl rfl ?_
  refine wp_iload_n dL_law_226 rfl rfl ?_
  refine wp_iconst (v := (nI 5)) dL_law_227 (by decide +kernel) ?_
  refine wp_iadd dL_law_228 ?_
  refine wp_sldN dL_law_229 hs (isN_add rfl rfl) ⟨by omega, by omega⟩ ?_
  refine wp_cV5 1 22 [some _, some _, some _, some _, some _, some _] dL_law_230 tX11_feed rfl (by decide) nX11_feed vX11_feed lL_13 ⟨by decide, by decide⟩ (Nat.le_of_ble_eq_true rfl) ho0 (Nat.le_of_ble_eq_true rfl) rfl ?_
  refine Wp.mono hop (fun r1 h1 hp _ _ => ?_)
  obtain ⟨hk1, hi1, hm1, v, rfl, hm⟩ := hp
  refine wp_aload_n dL_law_233 rfl rfl ?_
  refine wp_aload_n dL_law_234 rfl rfl ?_
  refine wp_iload_n dL_law_235 rfl rfl ?_
  refine wp_iconst (v := (nI 1)) dL_law_236 (by decide +kernel) ?_
  refine wp_iadd dL_law_237 ?_
  refine wp_sldN dL_law_238 (hk1.trans hs) (isN_add rfl rfl) ⟨by omega, by omega⟩ ?_
  refine wp_aload_n dL_law_239 rfl rfl ?_
  refine wp_iload_n dL_law_240 rfl rfl ?_
  refine wp_iconst (v := (nI 2)) dL_law_241 (by decide +kernel) ?_
  refine wp_iadd dL_law_242 ?_
  refine wp_sldN dL_law_243 (hk1.trans hs) (isN_add rfl rfl) ⟨by omega, by omega⟩ ?_
  refine wp_aload_n dL_law_244 rfl rfl ?_
  refine wp_iload_n dL_law_245 rfl rfl ?_
  refine wp_iconst (v := (nI 3)) dL_law_246 (by decide +kernel) ?_
  refine wp_iadd dL_law_247 ?_
  refine wp_sldN dL_law_248 (hk1.trans hs) (isN_add rfl rfl) ⟨by omega, by omega⟩ ?_
  refine wp_aload_n dL_law_249 rfl rfl ?_
  refine wp_iload_n dL_law_250 rfl rfl ?_
  refine wp_iconst (v := (nI 4)) dL_law_251 (by decide +kernel) ?_
  refine wp_iadd dL_law_252 ?_
  refine wp_sldN dL_law_253 (hk1.trans hs) (isN_add rfl rfl) ⟨by omega, by omega⟩ ?_
  refine wp_aload_n dL_law_254 rfl rfl ?_
  refine wp_iload_n dL_law_255 rfl rfl ?_
  refine wp_iconst (v := (nI 5)) dL_law_256 (by decide +kernel) ?_
  refine wp_iadd dL_law_257 ?_
  refine wp_sldN dL_law_258 (hk1.trans hs) (isN_add rfl rfl) ⟨by omega, by omega⟩ ?_
  refine wp_cV5 1 22 [some _, some _, some _, some _, some _, some _] dL_law_259 tX12_feed rfl (by decide) nX12_feed vX12_feed lL_17 ⟨by decide, by decide⟩ (Nat.le_of_ble_eq_true rfl) hm1 (Nat.le_of_ble_eq_true rfl) rfl ?_
  rw [hi1]
  refine Wp.mono hm (fun r2 h2 hp _ _ => ?_)
  obtain ⟨rfl, hI2⟩ := hp
  refine wp_icmp_eq dL_law_262 (fun c1 => ?_) (fun c1 => absurd rfl c1)
  exact hcont h2 hI2
set_option maxRecDepth 20000 in
theorem law_op1 {L c : Nat} {h : mH} {Q : Option Value → mH → Prop} {I : mH → Prop} (hL : L ≤ 3584) (hc : 7 * c + 7 ≤ L) (ho0 : hO h 0 11) (hs : hK h scrA = (99, L)) (hop : Op2 mX11_end mX12_end 0 0 1 22 [some (.ref 0), some (.int (hI h scrA (7 * c + 1)))] [some (.ref 153), some (.int (hI h scrA (7 * c + 1)))] I h) (hcont : ∀ h2, I h2 → Wp mLaw 13 554 1503 [some (.ref scrA), some (.ref 0), some (.ref 153), some (.int (nI (7 * c)))] [] h2 Q) : Wp mLaw 13 554 267 [some (.ref scrA), some (.ref 0), some (.ref 153), some (.int (nI (7 * c)))] [] h Q := by
  refine wp_aload_n dL_law_267 rfl rfl ?_
  refine wp_aload_n dL_law_268 rfl rfl ?_
  refine wp_iload_n dL_law_269 rfl rfl ?_
  refine wp_iconst (v := (nI 1)) dL_law_270 (by decide +kernel) ?_
  refine wp_iadd dL_law_271 ?_
  refine wp_sldN dL_law_272 hs (isN_add rfl rfl) ⟨by omega, by omega⟩ ?_
  refine wp_cV1 0 0 [some _, some _] dL_law_273 tX11_end rfl (by decide) nX11_end vX11_end lL_18 ⟨by decide, by decide⟩ (Nat.le_of_ble_eq_true rfl) ho0 (Nat.le_of_ble_eq_true rfl) rfl ?_
  refine Wp.mono hop (fun r1 h1 hp _ _ => ?_)
  obtain ⟨hk1, hi1, hm1, v, rfl, hm⟩ := hp
  refine wp_aload_n dL_law_276 rfl rfl ?_
  refine wp_aload_n dL_law_277 rfl rfl ?_
  refine wp_iload_n dL_law_278 rfl rfl ?_
  refine wp_iconst (v := (nI 1)) dL_law_279 (by decide +kernel) ?_
  refine wp_iadd dL_law_280 ?_
  refine wp_sldN dL_law_281 (hk1.trans hs) (isN_add rfl rfl) ⟨by omega, by omega⟩ ?_
  refine wp_cV1 1 22 [some _, some _] dL_law_282 tX12_end rfl (by decide) nX12_end vX12_end lL_22 ⟨by decide, by decide⟩ (Nat.le_of_ble_eq_true rfl) hm1 (Nat.le_of_ble_eq_true rfl) rfl ?_
  rw [hi1]
  refine Wp.mono hm (fun r2 h2 hp _ _ => ?_)
  obtain ⟨rfl, hI2⟩ := hp
  refine wp_icmp_eq dL_law_285 (fun c1 => ?_) (fun c1 => absurd rfl c1)
  exact hcont h2 hI2
set_option maxRecDepth 20000 in
theorem law_op2 {L c : Nat} {h : mH} {Q : Option Value → mH → Prop} {I : mH → Prop} (hL : L ≤ 3584) (hc : 7 * c + 7 ≤ L) (ho0 : hO h 0 11) (hs : hK h scrA = (99, L)) (hop : Op2 mX11_book mX12_book 6 132 4 91 [some (.ref 0), none, none, none] [some (.ref 153), none] I h) (hcont : ∀ h2, I h2 → Wp mLaw 13 554 1503 [some (.ref scrA), some (.ref 0), some (.ref 153), some (.int (nI (7 * c)))] [] h2 Q) : Wp mLaw 13 554 290 [some (.ref scrA), some (.ref 0), some (.ref 153), some (.int (nI (7 * c)))] [] h Q := by
  refine wp_aload_n dL_law_290 rfl rfl ?_
  refine wp_cV0 6 132 [some _, none, none, none] dL_law_291 tX11_book rfl (by decide) nX11_book vX11_book lL_23 ⟨by decide, by decide⟩ (Nat.le_of_ble_eq_true rfl) ho0 (Nat.le_of_ble_eq_true rfl) rfl ?_
  refine Wp.mono hop (fun r1 h1 hp _ _ => ?_)
  obtain ⟨hk1, hi1, hm1, v, rfl, hm⟩ := hp
  refine wp_aload_n dL_law_294 rfl rfl ?_
  refine wp_cV0 4 91 [some _, none] dL_law_295 tX12_book rfl (by decide) nX12_book vX12_book lL_27 ⟨by decide, by decide⟩ (Nat.le_of_ble_eq_true rfl) hm1 (Nat.le_of_ble_eq_true rfl) rfl ?_
  refine Wp.mono hm (fun r2 h2 hp _ _ => ?_)
  obtain ⟨rfl, hI2⟩ := hp
  refine wp_icmp_eq dL_law_298 (fun c1 => ?_) (fun c1 => absurd rfl c1)
  exact hcont h2 hI2
set_option maxRecDepth 20000 in
theorem law_op3 {L c : Nat} {h : mH} {Q : Option Value → mH → Prop} {I : mH → Prop} (hL : L ≤ 3584) (hc : 7 * c + 7 ≤ L) (ho0 : hO h 0 11) (hs : hK h scrA = (99, L)) (hop : Op2 mX11_page mX12_page 5 106 3 65 [some (.ref 0), none, none] [some (.ref 153), none] I h) (hcont : ∀ h2, I h2 → Wp mLaw 13 554 1503 [some (.ref scrA), some (.ref 0), some (.ref 153), some (.int (nI (7 * c)))] [] h2 Q) : Wp mLaw 13 554 303 [some (.ref scrA), some (.ref 0), some (.ref 153), some (.int (nI (7 * c)))] [] h Q := by
  refine wp_aload_n dL_law_303 rfl rfl ?_
  refine wp_cV0 5 106 [some _, none, none] dL_law_304 tX11_page rfl (by decide) nX11_page vX11_page lL_28 ⟨by decide, by decide⟩ (Nat.le_of_ble_eq_true rfl) ho0 (Nat.le_of_ble_eq_true rfl) rfl ?_
  refine Wp.mono hop (fun r1 h1 hp _ _ => ?_)
  obtain ⟨hk1, hi1, hm1, v, rfl, hm⟩ := hp
  refine wp_aload_n dL_law_307 rfl rfl ?_
  refine wp_cV0 3 65 [some _, none] dL_law_308 tX12_page rfl (by decide) nX12_page vX12_page lL_31 ⟨by decide, by decide⟩ (Nat.le_of_ble_eq_true rfl) hm1 (Nat.le_of_ble_eq_true rfl) rfl ?_
  refine Wp.mono hm (fun r2 h2 hp _ _ => ?_)
  obtain ⟨rfl, hI2⟩ := hp
  refine wp_icmp_eq dL_law_311 (fun c1 => ?_) (fun c1 => absurd rfl c1)
  exact hcont h2 hI2
set_option maxRecDepth 20000 in
theorem law_op4 {L c : Nat} {h : mH} {Q : Option Value → mH → Prop} {I : mH → Prop} (hL : L ≤ 3584) (hc : 7 * c + 7 ≤ L) (ho0 : hO h 0 11) (hs : hK h scrA = (99, L)) (hop : Op2 mX11_fault mX12_fault 0 0 0 0 [some (.ref 0), some (.int (hI h scrA (7 * c + 1)))] [some (.ref 153), some (.int (hI h scrA (7 * c + 1)))] I h) (hcont : ∀ h2, I h2 → Wp mLaw 13 554 1503 [some (.ref scrA), some (.ref 0), some (.ref 153), some (.int (nI (7 * c)))] [] h2 Q) : Wp mLaw 13 554 316 [some (.ref scrA), some (.ref 0), some (.ref 153), some (.int (nI (7 * c)))] [] h Q := by
  refine wp_aload_n dL_law_316 rfl rfl ?_
  refine wp_aload_n dL_law_317 rfl rfl ?_
  refine wp_iload_n dL_law_318 rfl rfl ?_
  refine wp_iconst (v := (nI 1)) dL_law_319 (by decide +kernel) ?_
  refine wp_iadd dL_law_320 ?_
  refine wp_sldN dL_law_321 hs (isN_add rfl rfl) ⟨by omega, by omega⟩ ?_
  refine wp_cV1 0 0 [some _, some _] dL_law_322 tX11_fault rfl (by decide) nX11_fault vX11_fault lL_32 ⟨by decide, by decide⟩ (Nat.le_of_ble_eq_true rfl) ho0 (Nat.le_of_ble_eq_true rfl) rfl ?_
  refine Wp.mono hop (fun r1 h1 hp _ _ => ?_)
  obtain ⟨hk1, hi1, hm1, v, rfl, hm⟩ := hp
  refine wp_aload_n dL_law_325 rfl rfl ?_
  refine wp_aload_n dL_law_326 rfl rfl ?_
  refine wp_iload_n dL_law_327 rfl rfl ?_
  refine wp_iconst (v := (nI 1)) dL_law_328 (by decide +kernel) ?_
  refine wp_iadd dL_law_329 ?_
  refine wp_sldN dL_law_330 (hk1.trans hs) (isN_add rfl rfl) ⟨by omega, by omega⟩ ?_
  refine wp_cV1 0 0 [some _, some _] dL_law_331 tX12_fault rfl (by decide) nX12_fault vX12_fault lL_35 ⟨by decide, by decide⟩ (Nat.le_of_ble_eq_true rfl) hm1 (Nat.le_of_ble_eq_true rfl) rfl ?_
  rw [hi1]
  refine Wp.mono hm (fun r2 h2 hp _ _ => ?_)
  obtain ⟨rfl, hI2⟩ := hp
  refine wp_icmp_eq dL_law_334 (fun c1 => ?_) (fun c1 => absurd rfl c1)
  exact hcont h2 hI2
set_option maxRecDepth 20000 in
theorem law_op5 {L c : Nat} {h : mH} {Q : Option Value → mH → Prop} {I : mH → Prop} (hL : L ≤ 3584) (hc : 7 * c + 7 ≤ L) (ho0 : hO h 0 11) (hs : hK h scrA = (99, L)) (hop : Op2 mX11_field mX12_field 3 66 3 66 [some (.ref 0), some (.int (hI h scrA (7 * c + 1))), some (.int (hI h scrA (7 * c + 2))), none, none] [some (.ref 153), some (.int (hI h scrA (7 * c + 1))), some (.int (hI h scrA (7 * c + 2)))] I h) (hcont : ∀ h2, I h2 → Wp mLaw 13 554 1503 [some (.ref scrA), some (.ref 0), some (.ref 153), some (.int (nI (7 * c)))] [] h2 Q) : Wp mLaw 13 554 339 [some (.ref scrA), some (.ref 0), some (.ref 153), some (.int (nI (7 * c)))] [] h Q := by
  refine wp_aload_n dL_law_339 rfl rfl ?_
  refine wp_aload_n dL_law_340 rfl rfl ?_
  refine wp_iload_n dL_law_341 rfl rfl ?_
  refine wp_iconst (v := (nI 1)) dL_law_342 (by decide +kernel) ?_
  refine wp_iadd dL_law_343 ?_
  refine wp_sldN dL_law_344 hs (isN_add rfl rfl) ⟨by omega, by omega⟩ ?_
  refine wp_aload_n dL_law_345 rfl rfl ?_
  refine wp_iload_n dL_law_346 rfl rfl ?_
  refine wp_iconst (v := (nI 2)) dL_law_347 (by decide +kernel) ?_
  refine wp_iadd dL_law_348 ?_
  refine wp_sldN dL_law_349 hs (isN_add rfl rfl) ⟨by omega, by omega⟩ ?_
  refine wp_cV2 3 66 [some _, some _, some _, none, none] dL_law_350 tX11_field rfl (by decide) nX11_field vX11_field lL_36 ⟨by decide, by decide⟩ (Nat.le_of_ble_eq_true rfl) ho0 (Nat.le_of_ble_eq_true rfl) rfl ?_
  refine Wp.mono hop (fun r1 h1 hp _ _ => ?_)
  obtain ⟨hk1, hi1, hm1, v, rfl, hm⟩ := hp
  refine wp_aload_n dL_law_353 rfl rfl ?_
  refine wp_aload_n dL_law_354 rfl rfl ?_
  refine wp_iload_n dL_law_355 rfl rfl ?_
  refine wp_iconst (v := (nI 1)) dL_law_356 (by decide +kernel) ?_
  refine wp_iadd dL_law_357 ?_
  refine wp_sldN dL_law_358 (hk1.trans hs) (isN_add rfl rfl) ⟨by omega, by omega⟩ ?_
  refine wp_aload_n dL_law_359 rfl rfl ?_
  refine wp_iload_n dL_law_360 rfl rfl ?_
  refine wp_iconst (v := (nI 2)) dL_law_361 (by decide +kernel) ?_
  refine wp_iadd dL_law_362 ?_
  refine wp_sldN dL_law_363 (hk1.trans hs) (isN_add rfl rfl) ⟨by omega, by omega⟩ ?_
  refine wp_cV2 3 66 [some _, some _, some _] dL_law_364 tX12_field rfl (by decide) nX12_field vX12_field lL_40 ⟨by decide, by decide⟩ (Nat.le_of_ble_eq_true rfl) hm1 (Nat.le_of_ble_eq_true rfl) rfl ?_
  rw [hi1]
  refine Wp.mono hm (fun r2 h2 hp _ _ => ?_)
  obtain ⟨rfl, hI2⟩ := hp
  refine wp_icmp_eq dL_law_367 (fun c1 => ?_) (fun c1 => absurd rfl c1)
  exact hcont h2 hI2
set_option maxRecDepth 20000 in
theorem law_op6 {L c : Nat} {h : mH} {Q : Option Value → mH → Prop} {I : mH → Prop} (hL : L ≤ 3584) (hc : 7 * c + 7 ≤ L) (ho0 : hO h 0 11) (hs : hK h scrA = (99, L)) (hop : Op2 mX11_tokens mX12_tokens 3 63 2 43 [some (.ref 0), some (.int (hI h scrA (7 * c + 1))), none] [some (.ref 153), some (.int (hI h scrA (7 * c + 1)))] I h) (hcont : ∀ h2, I h2 → Wp mLaw 13 554 1503 [some (.ref scrA), some (.ref 0), some (.ref 153), some (.int (nI (7 * c)))] [] h2 Q) : Wp mLaw 13 554 372 [some (.ref scrA), some (.ref 0), some (.ref 153), some (.int (nI (7 * c)))] [] h Q := by
  refine wp_aload_n dL_law_372 rfl rfl ?_
  refine wp_aload_n dL_law_373 rfl rfl ?_
  refine wp_iload_n dL_law_374 rfl rfl ?_
  refine wp_iconst (v := (nI 1)) dL_law_375 (by decide +kernel) ?_
  refine wp_iadd dL_law_376 ?_
  refine wp_sldN dL_law_377 hs (isN_add rfl rfl) ⟨by omega, by omega⟩ ?_
  refine wp_cV1 3 63 [some _, some _, none] dL_law_378 tX11_tokens rfl (by decide) nX11_tokens vX11_tokens lL_41 ⟨by decide, by decide⟩ (Nat.le_of_ble_eq_true rfl) ho0 (Nat.le_of_ble_eq_true rfl) rfl ?_
  refine Wp.mono hop (fun r1 h1 hp _ _ => ?_)
  obtain ⟨hk1, hi1, hm1, v, rfl, hm⟩ := hp
  refine wp_aload_n dL_law_381 rfl rfl ?_
  refine wp_aload_n dL_law_382 rfl rfl ?_
  refine wp_iload_n dL_law_383 rfl rfl ?_
  refine wp_iconst (v := (nI 1)) dL_law_384 (by decide +kernel) ?_
  refine wp_iadd dL_law_385 ?_
  refine wp_sldN dL_law_386 (hk1.trans hs) (isN_add rfl rfl) ⟨by omega, by omega⟩ ?_
  refine wp_cV1 2 43 [some _, some _] dL_law_387 tX12_tokens rfl (by decide) nX12_tokens vX12_tokens lL_44 ⟨by decide, by decide⟩ (Nat.le_of_ble_eq_true rfl) hm1 (Nat.le_of_ble_eq_true rfl) rfl ?_
  rw [hi1]
  refine Wp.mono hm (fun r2 h2 hp _ _ => ?_)
  obtain ⟨rfl, hI2⟩ := hp
  refine wp_icmp_eq dL_law_390 (fun c1 => ?_) (fun c1 => absurd rfl c1)
  exact hcont h2 hI2
set_option maxRecDepth 20000 in
theorem law_op7 {L c : Nat} {h : mH} {Q : Option Value → mH → Prop} {I : mH → Prop} (hL : L ≤ 3584) (hc : 7 * c + 7 ≤ L) (ho0 : hO h 0 11) (hs : hK h scrA = (99, L)) (hop : Op2 mX11_token mX12_token 3 63 4 88 [some (.ref 0), some (.int (hI h scrA (7 * c + 1))), some (.int (hI h scrA (7 * c + 2))), some (.int (hI h scrA (7 * c + 3))), none] [some (.ref 153), some (.int (hI h scrA (7 * c + 1))), some (.int (hI h scrA (7 * c + 2))), some (.int (hI h scrA (7 * c + 3)))] I h) (hcont : ∀ h2, I h2 → Wp mLaw 13 554 1503 [some (.ref scrA), some (.ref 0), some (.ref 153), some (.int (nI (7 * c)))] [] h2 Q) : Wp mLaw 13 554 395 [some (.ref scrA), some (.ref 0), some (.ref 153), some (.int (nI (7 * c)))] [] h Q := by
  refine wp_aload_n dL_law_395 rfl rfl ?_
  refine wp_aload_n dL_law_396 rfl rfl ?_
  refine wp_iload_n dL_law_397 rfl rfl ?_
  refine wp_iconst (v := (nI 1)) dL_law_398 (by decide +kernel) ?_
  refine wp_iadd dL_law_399 ?_
  refine wp_sldN dL_law_400 hs (isN_add rfl rfl) ⟨by omega, by omega⟩ ?_
  refine wp_aload_n dL_law_401 rfl rfl ?_
  refine wp_iload_n dL_law_402 rfl rfl ?_
  refine wp_iconst (v := (nI 2)) dL_law_403 (by decide +kernel) ?_
  refine wp_iadd dL_law_404 ?_
  refine wp_sldN dL_law_405 hs (isN_add rfl rfl) ⟨by omega, by omega⟩ ?_
  refine wp_aload_n dL_law_406 rfl rfl ?_
  refine wp_iload_n dL_law_407 rfl rfl ?_
  refine wp_iconst (v := (nI 3)) dL_law_408 (by decide +kernel) ?_
  refine wp_iadd dL_law_409 ?_
  refine wp_sldN dL_law_410 hs (isN_add rfl rfl) ⟨by omega, by omega⟩ ?_
  refine wp_cV3 3 63 [some _, some _, some _, some _, none] dL_law_411 tX11_token rfl (by decide) nX11_token vX11_token lL_45 ⟨by decide, by decide⟩ (Nat.le_of_ble_eq_true rfl) ho0 (Nat.le_of_ble_eq_true rfl) rfl ?_
  refine Wp.mono hop (fun r1 h1 hp _ _ => ?_)
  obtain ⟨hk1, hi1, hm1, v, rfl, hm⟩ := hp
  refine wp_aload_n dL_law_414 rfl rfl ?_
  refine wp_aload_n dL_law_415 rfl rfl ?_
  refine wp_iload_n dL_law_416 rfl rfl ?_
  refine wp_iconst (v := (nI 1)) dL_law_417 (by decide +kernel) ?_
  refine wp_iadd dL_law_418 ?_
  refine wp_sldN dL_law_419 (hk1.trans hs) (isN_add rfl rfl) ⟨by omega, by omega⟩ ?_
  refine wp_aload_n dL_law_420 rfl rfl ?_
  refine wp_iload_n dL_law_421 rfl rfl ?_
  refine wp_iconst (v := (nI 2)) dL_law_422 (by decide +kernel) ?_
  refine wp_iadd dL_law_423 ?_
  refine wp_sldN dL_law_424 (hk1.trans hs) (isN_add rfl rfl) ⟨by omega, by omega⟩ ?_
  refine wp_aload_n dL_law_425 rfl rfl ?_
  refine wp_iload_n dL_law_426 rfl rfl ?_
  refine wp_iconst (v := (nI 3)) dL_law_427 (by decide +kernel) ?_
  refine wp_iadd dL_law_428 ?_
  refine wp_sldN dL_law_429 (hk1.trans hs) (isN_add rfl rfl) ⟨by omega, by omega⟩ ?_
  refine wp_cV3 4 88 [some _, some _, some _, some _] dL_law_430 tX12_token rfl (by decide) nX12_token vX12_token lL_49 ⟨by decide, by decide⟩ (Nat.le_of_ble_eq_true rfl) hm1 (Nat.le_of_ble_eq_true rfl) rfl ?_
  rw [hi1]
  refine Wp.mono hm (fun r2 h2 hp _ _ => ?_)
  obtain ⟨rfl, hI2⟩ := hp
  refine wp_icmp_eq dL_law_433 (fun c1 => ?_) (fun c1 => absurd rfl c1)
  exact hcont h2 hI2
set_option maxRecDepth 20000 in
theorem law_op8 {L c : Nat} {h : mH} {Q : Option Value → mH → Prop} {I : mH → Prop} (hL : L ≤ 3584) (hc : 7 * c + 7 ≤ L) (ho0 : hO h 0 11) (hs : hK h scrA = (99, L)) (hop : Op2 mX11_mark mX12_mark 4 85 3 69 [some (.ref 0), some (.int (hI h scrA (7 * c + 1))), some (.int (hI h scrA (7 * c + 2))), some (.int (hI h scrA (7 * c + 3))), some (.int (hI h scrA (7 * c + 4))), none, none, none, none] [some (.ref 153), some (.int (hI h scrA (7 * c + 1))), some (.int (hI h scrA (7 * c + 2))), some (.int (hI h scrA (7 * c + 3))), some (.int (hI h scrA (7 * c + 4))), none, none] I h) (hcont : ∀ h2, I h2 → Wp mLaw 13 554 1503 [some (.ref scrA), some (.ref 0), some (.ref 153), some (.int (nI (7 * c)))] [] h2 Q) : Wp mLaw 13 554 438 [some (.ref scrA), some (.ref 0), some (.ref 153), some (.int (nI (7 * c)))] [] h Q := by
  refine wp_aload_n dL_law_438 rfl rfl ?_
  refine wp_aload_n dL_law_439 rfl rfl ?_
  refine wp_iload_n dL_law_440 rfl rfl ?_
  refine wp_iconst (v := (nI 1)) dL_law_441 (by decide +kernel) ?_
  refine wp_iadd dL_law_442 ?_
  refine wp_sldN dL_law_443 hs (isN_add rfl rfl) ⟨by omega, by omega⟩ ?_
  refine wp_aload_n dL_law_444 rfl rfl ?_
  refine wp_iload_n dL_law_445 rfl rfl ?_
  refine wp_iconst (v := (nI 2)) dL_law_446 (by decide +kernel) ?_
  refine wp_iadd dL_law_447 ?_
  refine wp_sldN dL_law_448 hs (isN_add rfl rfl) ⟨by omega, by omega⟩ ?_
  refine wp_aload_n dL_law_449 rfl rfl ?_
  refine wp_iload_n dL_law_450 rfl rfl ?_
  refine wp_iconst (v := (nI 3)) dL_law_451 (by decide +kernel) ?_
  refine wp_iadd dL_law_452 ?_
  refine wp_sldN dL_law_453 hs (isN_add rfl rfl) ⟨by omega, by omega⟩ ?_
  refine wp_aload_n dL_law_454 rfl rfl ?_
  refine wp_iload_n dL_law_455 rfl rfl ?_
  refine wp_iconst (v := (nI 4)) dL_law_456 (by decide +kernel) ?_
  refine wp_iadd dL_law_457 ?_
  refine wp_sldN dL_law_458 hs (isN_add rfl rfl) ⟨by omega, by omega⟩ ?_
  refine wp_cV4 4 85 [some _, some _, some _, some _, some _, none, none, none, none] dL_law_459 tX11_mark rfl (by decide) nX11_mark vX11_mark lL_50 ⟨by decide, by decide⟩ (Nat.le_of_ble_eq_true rfl) ho0 (Nat.le_of_ble_eq_true rfl) rfl ?_
  refine Wp.mono hop (fun r1 h1 hp _ _ => ?_)
  obtain ⟨hk1, hi1, hm1, v, rfl, hm⟩ := hp
  refine wp_aload_n dL_law_462 rfl rfl ?_
  refine wp_aload_n dL_law_463 rfl rfl ?_
  refine wp_iload_n dL_law_464 rfl rfl ?_
  refine wp_iconst (v := (nI 1)) dL_law_465 (by decide +kernel) ?_
  refine wp_iadd dL_law_466 ?_
  refine wp_sldN dL_law_467 (hk1.trans hs) (isN_add rfl rfl) ⟨by omega, by omega⟩ ?_
  refine wp_aload_n dL_law_468 rfl rfl ?_
  refine wp_iload_n dL_law_469 rfl rfl ?_
  refine wp_iconst (v := (nI 2)) dL_law_470 (by decide +kernel) ?_
  refine wp_iadd dL_law_471 ?_
  refine wp_sldN dL_law_472 (hk1.trans hs) (isN_add rfl rfl) ⟨by omega, by omega⟩ ?_
  refine wp_aload_n dL_law_473 rfl rfl ?_
  refine wp_iload_n dL_law_474 rfl rfl ?_
  refine wp_iconst (v := (nI 3)) dL_law_475 (by decide +kernel) ?_
  refine wp_iadd dL_law_476 ?_
  refine wp_sldN dL_law_477 (hk1.trans hs) (isN_add rfl rfl) ⟨by omega, by omega⟩ ?_
  refine wp_aload_n dL_law_478 rfl rfl ?_
  refine wp_iload_n dL_law_479 rfl rfl ?_
  refine wp_iconst (v := (nI 4)) dL_law_480 (by decide +kernel) ?_
  refine wp_iadd dL_law_481 ?_
  refine wp_sldN dL_law_482 (hk1.trans hs) (isN_add rfl rfl) ⟨by omega, by omega⟩ ?_
  refine wp_cV4 3 69 [some _, some _, some _, some _, some _, none, none] dL_law_483 tX12_mark rfl (by decide) nX12_mark vX12_mark lL_54 ⟨by decide, by decide⟩ (Nat.le_of_ble_eq_true rfl) hm1 (Nat.le_of_ble_eq_true rfl) rfl ?_
  rw [hi1]
  refine Wp.mono hm (fun r2 h2 hp _ _ => ?_)
  obtain ⟨rfl, hI2⟩ := hp
  refine wp_icmp_eq dL_law_486 (fun c1 => ?_) (fun c1 => absurd rfl c1)
  exact hcont h2 hI2
set_option maxRecDepth 20000 in
theorem law_op9 {L c : Nat} {h : mH} {Q : Option Value → mH → Prop} {I : mH → Prop} (hL : L ≤ 3584) (hc : 7 * c + 7 ≤ L) (ho0 : hO h 0 11) (hs : hK h scrA = (99, L)) (hop : Op2 mX11_unmark mX12_unmark 4 85 2 43 [some (.ref 0), some (.int (hI h scrA (7 * c + 1))), some (.int (hI h scrA (7 * c + 2))), none, none, none, none, none] [some (.ref 153), some (.int (hI h scrA (7 * c + 1))), some (.int (hI h scrA (7 * c + 2))), none, none, none] I h) (hcont : ∀ h2, I h2 → Wp mLaw 13 554 1503 [some (.ref scrA), some (.ref 0), some (.ref 153), some (.int (nI (7 * c)))] [] h2 Q) : Wp mLaw 13 554 491 [some (.ref scrA), some (.ref 0), some (.ref 153), some (.int (nI (7 * c)))] [] h Q := by
  refine wp_aload_n dL_law_491 rfl rfl ?_
  refine wp_aload_n dL_law_492 rfl rfl ?_
  refine wp_iload_n dL_law_493 rfl rfl ?_
  refine wp_iconst (v := (nI 1)) dL_law_494 (by decide +kernel) ?_
  refine wp_iadd dL_law_495 ?_
  refine wp_sldN dL_law_496 hs (isN_add rfl rfl) ⟨by omega, by omega⟩ ?_
  refine wp_aload_n dL_law_497 rfl rfl ?_
  refine wp_iload_n dL_law_498 rfl rfl ?_
  refine wp_iconst (v := (nI 2)) dL_law_499 (by decide +kernel) ?_
  refine wp_iadd dL_law_500 ?_
  refine wp_sldN dL_law_501 hs (isN_add rfl rfl) ⟨by omega, by omega⟩ ?_
  refine wp_cV2 4 85 [some _, some _, some _, none, none, none, none, none] dL_law_502 tX11_unmark rfl (by decide) nX11_unmark vX11_unmark lL_55 ⟨by decide, by decide⟩ (Nat.le_of_ble_eq_true rfl) ho0 (Nat.le_of_ble_eq_true rfl) rfl ?_
  refine Wp.mono hop (fun r1 h1 hp _ _ => ?_)
  obtain ⟨hk1, hi1, hm1, v, rfl, hm⟩ := hp
  refine wp_aload_n dL_law_505 rfl rfl ?_
  refine wp_aload_n dL_law_506 rfl rfl ?_
  refine wp_iload_n dL_law_507 rfl rfl ?_
  refine wp_iconst (v := (nI 1)) dL_law_508 (by decide +kernel) ?_
  refine wp_iadd dL_law_509 ?_
  refine wp_sldN dL_law_510 (hk1.trans hs) (isN_add rfl rfl) ⟨by omega, by omega⟩ ?_
  refine wp_aload_n dL_law_511 rfl rfl ?_
  refine wp_iload_n dL_law_512 rfl rfl ?_
  refine wp_iconst (v := (nI 2)) dL_law_513 (by decide +kernel) ?_
  refine wp_iadd dL_law_514 ?_
  refine wp_sldN dL_law_515 (hk1.trans hs) (isN_add rfl rfl) ⟨by omega, by omega⟩ ?_
  refine wp_cV2 2 43 [some _, some _, some _, none, none, none] dL_law_516 tX12_unmark rfl (by decide) nX12_unmark vX12_unmark lL_58 ⟨by decide, by decide⟩ (Nat.le_of_ble_eq_true rfl) hm1 (Nat.le_of_ble_eq_true rfl) rfl ?_
  rw [hi1]
  refine Wp.mono hm (fun r2 h2 hp _ _ => ?_)
  obtain ⟨rfl, hI2⟩ := hp
  refine wp_icmp_eq dL_law_519 (fun c1 => ?_) (fun c1 => absurd rfl c1)
  exact hcont h2 hI2
set_option maxRecDepth 20000 in
theorem law_op10 {L c : Nat} {h : mH} {Q : Option Value → mH → Prop} {I : mH → Prop} (hL : L ≤ 3584) (hc : 7 * c + 7 ≤ L) (ho0 : hO h 0 11) (hs : hK h scrA = (99, L)) (hop : Op2 mX11_learn mX12_learn 8 208 9 224 [some (.ref 0), some (.int (hI h scrA (7 * c + 1)))] [some (.ref 153), some (.int (hI h scrA (7 * c + 1)))] I h) (hcont : ∀ h2, I h2 → Wp mLaw 13 554 1503 [some (.ref scrA), some (.ref 0), some (.ref 153), some (.int (nI (7 * c)))] [] h2 Q) : Wp mLaw 13 554 524 [some (.ref scrA), some (.ref 0), some (.ref 153), some (.int (nI (7 * c)))] [] h Q := by
  refine wp_aload_n dL_law_524 rfl rfl ?_
  refine wp_aload_n dL_law_525 rfl rfl ?_
  refine wp_iload_n dL_law_526 rfl rfl ?_
  refine wp_iconst (v := (nI 1)) dL_law_527 (by decide +kernel) ?_
  refine wp_iadd dL_law_528 ?_
  refine wp_sldN dL_law_529 hs (isN_add rfl rfl) ⟨by omega, by omega⟩ ?_
  refine wp_cV1 8 208 [some _, some _] dL_law_530 tX11_learn rfl (by decide) nX11_learn vX11_learn lL_59 ⟨by decide, by decide⟩ (Nat.le_of_ble_eq_true rfl) ho0 (Nat.le_of_ble_eq_true rfl) rfl ?_
  refine Wp.mono hop (fun r1 h1 hp _ _ => ?_)
  obtain ⟨hk1, hi1, hm1, v, rfl, hm⟩ := hp
  refine wp_aload_n dL_law_533 rfl rfl ?_
  refine wp_aload_n dL_law_534 rfl rfl ?_
  refine wp_iload_n dL_law_535 rfl rfl ?_
  refine wp_iconst (v := (nI 1)) dL_law_536 (by decide +kernel) ?_
  refine wp_iadd dL_law_537 ?_
  refine wp_sldN dL_law_538 (hk1.trans hs) (isN_add rfl rfl) ⟨by omega, by omega⟩ ?_
  refine wp_cV1 9 224 [some _, some _] dL_law_539 tX12_learn rfl (by decide) nX12_learn vX12_learn lL_62 ⟨by decide, by decide⟩ (Nat.le_of_ble_eq_true rfl) hm1 (Nat.le_of_ble_eq_true rfl) rfl ?_
  rw [hi1]
  refine Wp.mono hm (fun r2 h2 hp _ _ => ?_)
  obtain ⟨rfl, hI2⟩ := hp
  refine wp_icmp_eq dL_law_542 (fun c1 => ?_) (fun c1 => absurd rfl c1)
  exact hcont h2 hI2
set_option maxRecDepth 20000 in
theorem law_op11 {L c : Nat} {h : mH} {Q : Option Value → mH → Prop} {I : mH → Prop} (hL : L ≤ 3584) (hc : 7 * c + 7 ≤ L) (ho0 : hO h 0 11) (hs : hK h scrA = (99, L)) (hop : Op2 mX11_take mX12_take 9 233 10 246 [some (.ref 0), some (.int (hI h scrA (7 * c + 1))), some (.int (hI h scrA (7 * c + 2))), none, none, none, none, none, none, none] [some (.ref 153), some (.int (hI h scrA (7 * c + 1))), some (.int (hI h scrA (7 * c + 2))), none, none] I h) (hcont : ∀ h2, I h2 → Wp mLaw 13 554 1503 [some (.ref scrA), some (.ref 0), some (.ref 153), some (.int (nI (7 * c)))] [] h2 Q) : Wp mLaw 13 554 547 [some (.ref scrA), some (.ref 0), some (.ref 153), some (.int (nI (7 * c)))] [] h Q := by
  refine wp_aload_n dL_law_547 rfl rfl ?_
  refine wp_aload_n dL_law_548 rfl rfl ?_
  refine wp_iload_n dL_law_549 rfl rfl ?_
  refine wp_iconst (v := (nI 1)) dL_law_550 (by decide +kernel) ?_
  refine wp_iadd dL_law_551 ?_
  refine wp_sldN dL_law_552 hs (isN_add rfl rfl) ⟨by omega, by omega⟩ ?_
  refine wp_aload_n dL_law_553 rfl rfl ?_
  refine wp_iload_n dL_law_554 rfl rfl ?_
  refine wp_iconst (v := (nI 2)) dL_law_555 (by decide +kernel) ?_
  refine wp_iadd dL_law_556 ?_
  refine wp_sldN dL_law_557 hs (isN_add rfl rfl) ⟨by omega, by omega⟩ ?_
  refine wp_cV2 9 233 [some _, some _, some _, none, none, none, none, none, none, none] dL_law_558 tX11_take rfl (by decide) nX11_take vX11_take lL_63 ⟨by decide, by decide⟩ (Nat.le_of_ble_eq_true rfl) ho0 (Nat.le_of_ble_eq_true rfl) rfl ?_
  refine Wp.mono hop (fun r1 h1 hp _ _ => ?_)
  obtain ⟨hk1, hi1, hm1, v, rfl, hm⟩ := hp
  refine wp_aload_n dL_law_561 rfl rfl ?_
  refine wp_aload_n dL_law_562 rfl rfl ?_
  refine wp_iload_n dL_law_563 rfl rfl ?_
  refine wp_iconst (v := (nI 1)) dL_law_564 (by decide +kernel) ?_
  refine wp_iadd dL_law_565 ?_
  refine wp_sldN dL_law_566 (hk1.trans hs) (isN_add rfl rfl) ⟨by omega, by omega⟩ ?_
  refine wp_aload_n dL_law_567 rfl rfl ?_
  refine wp_iload_n dL_law_568 rfl rfl ?_
  refine wp_iconst (v := (nI 2)) dL_law_569 (by decide +kernel) ?_
  refine wp_iadd dL_law_570 ?_
  refine wp_sldN dL_law_571 (hk1.trans hs) (isN_add rfl rfl) ⟨by omega, by omega⟩ ?_
  refine wp_cV2 10 246 [some _, some _, some _, none, none] dL_law_572 tX12_take rfl (by decide) nX12_take vX12_take lL_66 ⟨by decide, by decide⟩ (Nat.le_of_ble_eq_true rfl) hm1 (Nat.le_of_ble_eq_true rfl) rfl ?_
  rw [hi1]
  refine Wp.mono hm (fun r2 h2 hp _ _ => ?_)
  obtain ⟨rfl, hI2⟩ := hp
  refine wp_icmp_eq dL_law_575 (fun c1 => ?_) (fun c1 => absurd rfl c1)
  exact hcont h2 hI2
set_option maxRecDepth 20000 in
theorem law_op12 {L c : Nat} {h : mH} {Q : Option Value → mH → Prop} {I : mH → Prop} (hL : L ≤ 3584) (hc : 7 * c + 7 ≤ L) (ho0 : hO h 0 11) (hs : hK h scrA = (99, L)) (hop : Op2 mX11_undo mX12_undo 2 41 1 24 [some (.ref 0), none] [some (.ref 153)] I h) (hcont : ∀ h2, I h2 → Wp mLaw 13 554 1503 [some (.ref scrA), some (.ref 0), some (.ref 153), some (.int (nI (7 * c)))] [] h2 Q) : Wp mLaw 13 554 580 [some (.ref scrA), some (.ref 0), some (.ref 153), some (.int (nI (7 * c)))] [] h Q := by
  refine wp_aload_n dL_law_580 rfl rfl ?_
  refine wp_cV0 2 41 [some _, none] dL_law_581 tX11_undo rfl (by decide) nX11_undo vX11_undo lL_67 ⟨by decide, by decide⟩ (Nat.le_of_ble_eq_true rfl) ho0 (Nat.le_of_ble_eq_true rfl) rfl ?_
  refine Wp.mono hop (fun r1 h1 hp _ _ => ?_)
  obtain ⟨hk1, hi1, hm1, v, rfl, hm⟩ := hp
  refine wp_aload_n dL_law_584 rfl rfl ?_
  refine wp_cV0 1 24 [some _] dL_law_585 tX12_undo rfl (by decide) nX12_undo vX12_undo lL_71 ⟨by decide, by decide⟩ (Nat.le_of_ble_eq_true rfl) hm1 (Nat.le_of_ble_eq_true rfl) rfl ?_
  refine Wp.mono hm (fun r2 h2 hp _ _ => ?_)
  obtain ⟨rfl, hI2⟩ := hp
  refine wp_icmp_eq dL_law_588 (fun c1 => ?_) (fun c1 => absurd rfl c1)
  exact hcont h2 hI2
set_option maxRecDepth 20000 in
theorem law_op13 {L c : Nat} {h : mH} {Q : Option Value → mH → Prop} {I : mH → Prop} (hL : L ≤ 3584) (hc : 7 * c + 7 ≤ L) (ho0 : hO h 0 11) (hs : hK h scrA = (99, L)) (hop : Op2 mX11_redo mX12_redo 2 41 1 24 [some (.ref 0), none] [some (.ref 153)] I h) (hcont : ∀ h2, I h2 → Wp mLaw 13 554 1503 [some (.ref scrA), some (.ref 0), some (.ref 153), some (.int (nI (7 * c)))] [] h2 Q) : Wp mLaw 13 554 593 [some (.ref scrA), some (.ref 0), some (.ref 153), some (.int (nI (7 * c)))] [] h Q := by
  refine wp_aload_n dL_law_593 rfl rfl ?_
  refine wp_cV0 2 41 [some _, none] dL_law_594 tX11_redo rfl (by decide) nX11_redo vX11_redo lL_72 ⟨by decide, by decide⟩ (Nat.le_of_ble_eq_true rfl) ho0 (Nat.le_of_ble_eq_true rfl) rfl ?_
  refine Wp.mono hop (fun r1 h1 hp _ _ => ?_)
  obtain ⟨hk1, hi1, hm1, v, rfl, hm⟩ := hp
  refine wp_aload_n dL_law_597 rfl rfl ?_
  refine wp_cV0 1 24 [some _] dL_law_598 tX12_redo rfl (by decide) nX12_redo vX12_redo lL_75 ⟨by decide, by decide⟩ (Nat.le_of_ble_eq_true rfl) hm1 (Nat.le_of_ble_eq_true rfl) rfl ?_
  refine Wp.mono hm (fun r2 h2 hp _ _ => ?_)
  obtain ⟨rfl, hI2⟩ := hp
  refine wp_icmp_eq dL_law_601 (fun c1 => ?_) (fun c1 => absurd rfl c1)
  exact hcont h2 hI2
set_option maxRecDepth 20000 in
theorem law_op14 {L c : Nat} {h : mH} {Q : Option Value → mH → Prop} {I : mH → Prop} (hL : L ≤ 3584) (hc : 7 * c + 7 ≤ L) (ho0 : hO h 0 11) (hs : hK h scrA = (99, L)) (hop : Op2 mX11_marked mX12_marked 4 93 2 44 [some (.ref 0), some (.int (hI h scrA (7 * c + 1))), some (.int (hI h scrA (7 * c + 2))), some (.int (hI h scrA (7 * c + 3))), some (.int (hI h scrA (7 * c + 4))), none, none] [some (.ref 153), some (.int (hI h scrA (7 * c + 1))), some (.int (hI h scrA (7 * c + 2))), some (.int (hI h scrA (7 * c + 3))), some (.int (hI h scrA (7 * c + 4)))] I h) (hcont : ∀ h2, I h2 → Wp mLaw 13 554 1503 [some (.ref scrA), some (.ref 0), some (.ref 153), some (.int (nI (7 * c)))] [] h2 Q) : Wp mLaw 13 554 606 [some (.ref scrA), some (.ref 0), some (.ref 153), some (.int (nI (7 * c)))] [] h Q := by
  refine wp_aload_n dL_law_606 rfl rfl ?_
  refine wp_aload_n dL_law_607 rfl rfl ?_
  refine wp_iload_n dL_law_608 rfl rfl ?_
  refine wp_iconst (v := (nI 1)) dL_law_609 (by decide +kernel) ?_
  refine wp_iadd dL_law_610 ?_
  refine wp_sldN dL_law_611 hs (isN_add rfl rfl) ⟨by omega, by omega⟩ ?_
  refine wp_aload_n dL_law_612 rfl rfl ?_
  refine wp_iload_n dL_law_613 rfl rfl ?_
  refine wp_iconst (v := (nI 2)) dL_law_614 (by decide +kernel) ?_
  refine wp_iadd dL_law_615 ?_
  refine wp_sldN dL_law_616 hs (isN_add rfl rfl) ⟨by omega, by omega⟩ ?_
  refine wp_aload_n dL_law_617 rfl rfl ?_
  refine wp_iload_n dL_law_618 rfl rfl ?_
  refine wp_iconst (v := (nI 3)) dL_law_619 (by decide +kernel) ?_
  refine wp_iadd dL_law_620 ?_
  refine wp_sldN dL_law_621 hs (isN_add rfl rfl) ⟨by omega, by omega⟩ ?_
  refine wp_aload_n dL_law_622 rfl rfl ?_
  refine wp_iload_n dL_law_623 rfl rfl ?_
  refine wp_iconst (v := (nI 4)) dL_law_624 (by decide +kernel) ?_
  refine wp_iadd dL_law_625 ?_
  refine wp_sldN dL_law_626 hs (isN_add rfl rfl) ⟨by omega, by omega⟩ ?_
  refine wp_cV4 4 93 [some _, some _, some _, some _, some _, none, none] dL_law_627 tX11_marked rfl (by decide) nX11_marked vX11_marked lL_76 ⟨by decide, by decide⟩ (Nat.le_of_ble_eq_true rfl) ho0 (Nat.le_of_ble_eq_true rfl) rfl ?_
  refine Wp.mono hop (fun r1 h1 hp _ _ => ?_)
  obtain ⟨hk1, hi1, hm1, v, rfl, hm⟩ := hp
  refine wp_aload_n dL_law_630 rfl rfl ?_
  refine wp_aload_n dL_law_631 rfl rfl ?_
  refine wp_iload_n dL_law_632 rfl rfl ?_
  refine wp_iconst (v := (nI 1)) dL_law_633 (by decide +kernel) ?_
  refine wp_iadd dL_law_634 ?_
  refine wp_sldN dL_law_635 (hk1.trans hs) (isN_add rfl rfl) ⟨by omega, by omega⟩ ?_
  refine wp_aload_n dL_law_636 rfl rfl ?_
  refine wp_iload_n dL_law_637 rfl rfl ?_
  refine wp_iconst (v := (nI 2)) dL_law_638 (by decide +kernel) ?_
  refine wp_iadd dL_law_639 ?_
  refine wp_sldN dL_law_640 (hk1.trans hs) (isN_add rfl rfl) ⟨by omega, by omega⟩ ?_
  refine wp_aload_n dL_law_641 rfl rfl ?_
  refine wp_iload_n dL_law_642 rfl rfl ?_
  refine wp_iconst (v := (nI 3)) dL_law_643 (by decide +kernel) ?_
  refine wp_iadd dL_law_644 ?_
  refine wp_sldN dL_law_645 (hk1.trans hs) (isN_add rfl rfl) ⟨by omega, by omega⟩ ?_
  refine wp_aload_n dL_law_646 rfl rfl ?_
  refine wp_iload_n dL_law_647 rfl rfl ?_
  refine wp_iconst (v := (nI 4)) dL_law_648 (by decide +kernel) ?_
  refine wp_iadd dL_law_649 ?_
  refine wp_sldN dL_law_650 (hk1.trans hs) (isN_add rfl rfl) ⟨by omega, by omega⟩ ?_
  refine wp_cV4 2 44 [some _, some _, some _, some _, some _] dL_law_651 tX12_marked rfl (by decide) nX12_marked vX12_marked lL_79 ⟨by decide, by decide⟩ (Nat.le_of_ble_eq_true rfl) hm1 (Nat.le_of_ble_eq_true rfl) rfl ?_
  rw [hi1]
  refine Wp.mono hm (fun r2 h2 hp _ _ => ?_)
  obtain ⟨rfl, hI2⟩ := hp
  refine wp_icmp_eq dL_law_654 (fun c1 => ?_) (fun c1 => absurd rfl c1)
  exact hcont h2 hI2
set_option maxRecDepth 20000 in
theorem law_op15 {L c : Nat} {h : mH} {Q : Option Value → mH → Prop} {I : mH → Prop} (hL : L ≤ 3584) (hc : 7 * c + 7 ≤ L) (ho0 : hO h 0 11) (hs : hK h scrA = (99, L)) (hop : Op2 mX11_rule mX12_rule 3 63 2 43 [some (.ref 0), some (.int (hI h scrA (7 * c + 1))), some (.int (hI h scrA (7 * c + 2))), some (.int (hI h scrA (7 * c + 3))), none] [some (.ref 153), some (.int (hI h scrA (7 * c + 1))), some (.int (hI h scrA (7 * c + 2))), some (.int (hI h scrA (7 * c + 3))), none, none] I h) (hcont : ∀ h2, I h2 → Wp mLaw 13 554 1503 [some (.ref scrA), some (.ref 0), some (.ref 153), some (.int (nI (7 * c)))] [] h2 Q) : Wp mLaw 13 554 659 [some (.ref scrA), some (.ref 0), some (.ref 153), some (.int (nI (7 * c)))] [] h Q := by
  refine wp_aload_n dL_law_659 rfl rfl ?_
  refine wp_aload_n dL_law_660 rfl rfl ?_
  refine wp_iload_n dL_law_661 rfl rfl ?_
  refine wp_iconst (v := (nI 1)) dL_law_662 (by decide +kernel) ?_
  refine wp_iadd dL_law_663 ?_
  refine wp_sldN dL_law_664 hs (isN_add rfl rfl) ⟨by omega, by omega⟩ ?_
  refine wp_aload_n dL_law_665 rfl rfl ?_
  refine wp_iload_n dL_law_666 rfl rfl ?_
  refine wp_iconst (v := (nI 2)) dL_law_667 (by decide +kernel) ?_
  refine wp_iadd dL_law_668 ?_
  refine wp_sldN dL_law_669 hs (isN_add rfl rfl) ⟨by omega, by omega⟩ ?_
  refine wp_aload_n dL_law_670 rfl rfl ?_
  refine wp_iload_n dL_law_671 rfl rfl ?_
  refine wp_iconst (v := (nI 3)) dL_law_672 (by decide +kernel) ?_
  refine wp_iadd dL_law_673 ?_
  refine wp_sldN dL_law_674 hs (isN_add rfl rfl) ⟨by omega, by omega⟩ ?_
  refine wp_cV3 3 63 [some _, some _, some _, some _, none] dL_law_675 tX11_rule rfl (by decide) nX11_rule vX11_rule lL_80 ⟨by decide, by decide⟩ (Nat.le_of_ble_eq_true rfl) ho0 (Nat.le_of_ble_eq_true rfl) rfl ?_
  refine Wp.mono hop (fun r1 h1 hp _ _ => ?_)
  obtain ⟨hk1, hi1, hm1, v, rfl, hm⟩ := hp
  refine wp_aload_n dL_law_678 rfl rfl ?_
  refine wp_aload_n dL_law_679 rfl rfl ?_
  refine wp_iload_n dL_law_680 rfl rfl ?_
  refine wp_iconst (v := (nI 1)) dL_law_681 (by decide +kernel) ?_
  refine wp_iadd dL_law_682 ?_
  refine wp_sldN dL_law_683 (hk1.trans hs) (isN_add rfl rfl) ⟨by omega, by omega⟩ ?_
  refine wp_aload_n dL_law_684 rfl rfl ?_
  refine wp_iload_n dL_law_685 rfl rfl ?_
  refine wp_iconst (v := (nI 2)) dL_law_686 (by decide +kernel) ?_
  refine wp_iadd dL_law_687 ?_
  refine wp_sldN dL_law_688 (hk1.trans hs) (isN_add rfl rfl) ⟨by omega, by omega⟩ ?_
  refine wp_aload_n dL_law_689 rfl rfl ?_
  refine wp_iload_n dL_law_690 rfl rfl ?_
  refine wp_iconst (v := (nI 3)) dL_law_691 (by decide +kernel) ?_
  refine wp_iadd dL_law_692 ?_
  refine wp_sldN dL_law_693 (hk1.trans hs) (isN_add rfl rfl) ⟨by omega, by omega⟩ ?_
  refine wp_cV3 2 43 [some _, some _, some _, some _, none, none] dL_law_694 tX12_rule rfl (by decide) nX12_rule vX12_rule lL_83 ⟨by decide, by decide⟩ (Nat.le_of_ble_eq_true rfl) hm1 (Nat.le_of_ble_eq_true rfl) rfl ?_
  rw [hi1]
  refine Wp.mono hm (fun r2 h2 hp _ _ => ?_)
  obtain ⟨rfl, hI2⟩ := hp
  refine wp_icmp_eq dL_law_697 (fun c1 => ?_) (fun c1 => absurd rfl c1)
  exact hcont h2 hI2
set_option maxRecDepth 20000 in
theorem law_op16 {L c : Nat} {h : mH} {Q : Option Value → mH → Prop} {I : mH → Prop} (hL : L ≤ 3584) (hc : 7 * c + 7 ≤ L) (ho0 : hO h 0 11) (hs : hK h scrA = (99, L)) (hop : Op2 mX11_tries mX12_tries 4 95 6 153 [some (.ref 0), some (.int (hI h scrA (7 * c + 1))), some (.int (hI h scrA (7 * c + 2))), some (.int (hI h scrA (7 * c + 3))), some (.int (hI h scrA (7 * c + 4))), some (.int (hI h scrA (7 * c + 5))), some (.int (hI h scrA (7 * c + 6))), none, none] [some (.ref 153), some (.int (hI h scrA (7 * c + 1))), some (.int (hI h scrA (7 * c + 2))), some (.int (hI h scrA (7 * c + 3))), some (.int (hI h scrA (7 * c + 4))), some (.int (hI h scrA (7 * c + 5))), some (.int (hI h scrA (7 * c + 6)))] I h) (hcont : ∀ h2, I h2 → Wp mLaw 13 554 1503 [some (.ref scrA), some (.ref 0), some (.ref 153), some (.int (nI (7 * c)))] [] h2 Q) : Wp mLaw 13 554 702 [some (.ref scrA), some (.ref 0), some (.ref 153), some (.int (nI (7 * c)))] [] h Q := by
  refine wp_aload_n dL_law_702 rfl rfl ?_
  refine wp_aload_n dL_law_703 rfl rfl ?_
  refine wp_iload_n dL_law_704 rfl rfl ?_
  refine wp_iconst (v := (nI 1)) dL_law_705 (by decide +kernel) ?_
  refine wp_iadd dL_law_706 ?_
  refine wp_sldN dL_law_707 hs (isN_add rfl rfl) ⟨by omega, by omega⟩ ?_
  refine wp_aload_n dL_law_708 rfl rfl ?_
  refine wp_iload_n dL_law_709 rfl rfl ?_
  refine wp_iconst (v := (nI 2)) dL_law_710 (by decide +kernel) ?_
  refine wp_iadd dL_law_711 ?_
  refine wp_sldN dL_law_712 hs (isN_add rfl rfl) ⟨by omega, by omega⟩ ?_
  refine wp_aload_n dL_law_713 rfl rfl ?_
  refine wp_iload_n dL_law_714 rfl rfl ?_
  refine wp_iconst (v := (nI 3)) dL_law_715 (by decide +kernel) ?_
  refine wp_iadd dL_law_716 ?_
  refine wp_sldN dL_law_717 hs (isN_add rfl rfl) ⟨by omega, by omega⟩ ?_
  refine wp_aload_n dL_law_718 rfl rfl ?_
  refine wp_iload_n dL_law_719 rfl rfl ?_
  refine wp_iconst (v := (nI 4)) dL_law_720 (by decide +kernel) ?_
  refine wp_iadd dL_law_721 ?_
  refine wp_sldN dL_law_722 hs (isN_add rfl rfl) ⟨by omega, by omega⟩ ?_
  refine wp_aload_n dL_law_723 rfl rfl ?_
  refine wp_iload_n dL_law_724 rfl rfl ?_
  refine wp_iconst (v := (nI 5)) dL_law_725 (by decide +kernel) ?_
  refine wp_iadd dL_law_726 ?_
  refine wp_sldN dL_law_727 hs (isN_add rfl rfl) ⟨by omega, by omega⟩ ?_
  refine wp_aload_n dL_law_728 rfl rfl ?_
  refine wp_iload_n dL_law_729 rfl rfl ?_
  refine wp_bipush (v := (nI 6)) dL_law_730 (by decide +kernel) ?_
  refine wp_iadd dL_law_732 ?_
  refine wp_sldN dL_law_733 hs (isN_add rfl rfl) ⟨by omega, by omega⟩ ?_
  refine wp_cV6 4 95 [some _, some _, some _, some _, some _, some _, some _, none, none] dL_law_734 tX11_tries rfl (by decide) nX11_tries vX11_tries lL_84 ⟨by decide, by decide⟩ (Nat.le_of_ble_eq_true rfl) ho0 (Nat.le_of_ble_eq_true rfl) rfl ?_
  refine Wp.mono hop (fun r1 h1 hp _ _ => ?_)
  obtain ⟨hk1, hi1, hm1, v, rfl, hm⟩ := hp
  refine wp_aload_n dL_law_737 rfl rfl ?_
  refine wp_aload_n dL_law_738 rfl rfl ?_
  refine wp_iload_n dL_law_739 rfl rfl ?_
  refine wp_iconst (v := (nI 1)) dL_law_740 (by decide +kernel) ?_
  refine wp_iadd dL_law_741 ?_
  refine wp_sldN dL_law_742 (hk1.trans hs) (isN_add rfl rfl) ⟨by omega, by omega⟩ ?_
  refine wp_aload_n dL_law_743 rfl rfl ?_
  refine wp_iload_n dL_law_744 rfl rfl ?_
  refine wp_iconst (v := (nI 2)) dL_law_745 (by decide +kernel) ?_
  refine wp_iadd dL_law_746 ?_
  refine wp_sldN dL_law_747 (hk1.trans hs) (isN_add rfl rfl) ⟨by omega, by omega⟩ ?_
  refine wp_aload_n dL_law_748 rfl rfl ?_
  refine wp_iload_n dL_law_749 rfl rfl ?_
  refine wp_iconst (v := (nI 3)) dL_law_750 (by decide +kernel) ?_
  refine wp_iadd dL_law_751 ?_
  refine wp_sldN dL_law_752 (hk1.trans hs) (isN_add rfl rfl) ⟨by omega, by omega⟩ ?_
  refine wp_aload_n dL_law_753 rfl rfl ?_
  refine wp_iload_n dL_law_754 rfl rfl ?_
  refine wp_iconst (v := (nI 4)) dL_law_755 (by decide +kernel) ?_
  refine wp_iadd dL_law_756 ?_
  refine wp_sldN dL_law_757 (hk1.trans hs) (isN_add rfl rfl) ⟨by omega, by omega⟩ ?_
  refine wp_aload_n dL_law_758 rfl rfl ?_
  refine wp_iload_n dL_law_759 rfl rfl ?_
  refine wp_iconst (v := (nI 5)) dL_law_760 (by decide +kernel) ?_
  refine wp_iadd dL_law_761 ?_
  refine wp_sldN dL_law_762 (hk1.trans hs) (isN_add rfl rfl) ⟨by omega, by omega⟩ ?_
  refine wp_aload_n dL_law_763 rfl rfl ?_
  refine wp_iload_n dL_law_764 rfl rfl ?_
  refine wp_bipush (v := (nI 6)) dL_law_765 (by decide +kernel) ?_
  refine wp_iadd dL_law_767 ?_
  refine wp_sldN dL_law_768 (hk1.trans hs) (isN_add rfl rfl) ⟨by omega, by omega⟩ ?_
  refine wp_cV6 6 153 [some _, some _, some _, some _, some _, some _, some _] dL_law_769 tX12_tries rfl (by decide) nX12_tries vX12_tries lL_88 ⟨by decide, by decide⟩ (Nat.le_of_ble_eq_true rfl) hm1 (Nat.le_of_ble_eq_true rfl) rfl ?_
  rw [hi1]
  refine Wp.mono hm (fun r2 h2 hp _ _ => ?_)
  obtain ⟨rfl, hI2⟩ := hp
  refine wp_icmp_eq dL_law_772 (fun c1 => ?_) (fun c1 => absurd rfl c1)
  exact hcont h2 hI2
set_option maxRecDepth 20000 in
theorem law_op17 {L c : Nat} {h : mH} {Q : Option Value → mH → Prop} {I : mH → Prop} (hL : L ≤ 3584) (hc : 7 * c + 7 ≤ L) (ho0 : hO h 0 11) (hs : hK h scrA = (99, L)) (hop : Op2 mX11_could mX12_could 7 185 7 178 [some (.ref 0), some (.int (hI h scrA (7 * c + 1))), some (.int (hI h scrA (7 * c + 2))), none] [some (.ref 153), some (.int (hI h scrA (7 * c + 1))), some (.int (hI h scrA (7 * c + 2))), none, none] I h) (hcont : ∀ h2, I h2 → Wp mLaw 13 554 1503 [some (.ref scrA), some (.ref 0), some (.ref 153), some (.int (nI (7 * c)))] [] h2 Q) : Wp mLaw 13 554 777 [some (.ref scrA), some (.ref 0), some (.ref 153), some (.int (nI (7 * c)))] [] h Q := by
  refine wp_aload_n dL_law_777 rfl rfl ?_
  refine wp_aload_n dL_law_778 rfl rfl ?_
  refine wp_iload_n dL_law_779 rfl rfl ?_
  refine wp_iconst (v := (nI 1)) dL_law_780 (by decide +kernel) ?_
  refine wp_iadd dL_law_781 ?_
  refine wp_sldN dL_law_782 hs (isN_add rfl rfl) ⟨by omega, by omega⟩ ?_
  refine wp_aload_n dL_law_783 rfl rfl ?_
  refine wp_iload_n dL_law_784 rfl rfl ?_
  refine wp_iconst (v := (nI 2)) dL_law_785 (by decide +kernel) ?_
  refine wp_iadd dL_law_786 ?_
  refine wp_sldN dL_law_787 hs (isN_add rfl rfl) ⟨by omega, by omega⟩ ?_
  refine wp_cV2 7 185 [some _, some _, some _, none] dL_law_788 tX11_could rfl (by decide) nX11_could vX11_could lL_89 ⟨by decide, by decide⟩ (Nat.le_of_ble_eq_true rfl) ho0 (Nat.le_of_ble_eq_true rfl) rfl ?_
  refine Wp.mono hop (fun r1 h1 hp _ _ => ?_)
  obtain ⟨hk1, hi1, hm1, v, rfl, hm⟩ := hp
  refine wp_aload_n dL_law_791 rfl rfl ?_
  refine wp_aload_n dL_law_792 rfl rfl ?_
  refine wp_iload_n dL_law_793 rfl rfl ?_
  refine wp_iconst (v := (nI 1)) dL_law_794 (by decide +kernel) ?_
  refine wp_iadd dL_law_795 ?_
  refine wp_sldN dL_law_796 (hk1.trans hs) (isN_add rfl rfl) ⟨by omega, by omega⟩ ?_
  refine wp_aload_n dL_law_797 rfl rfl ?_
  refine wp_iload_n dL_law_798 rfl rfl ?_
  refine wp_iconst (v := (nI 2)) dL_law_799 (by decide +kernel) ?_
  refine wp_iadd dL_law_800 ?_
  refine wp_sldN dL_law_801 (hk1.trans hs) (isN_add rfl rfl) ⟨by omega, by omega⟩ ?_
  refine wp_cV2 7 178 [some _, some _, some _, none, none] dL_law_802 tX12_could rfl (by decide) nX12_could vX12_could lL_92 ⟨by decide, by decide⟩ (Nat.le_of_ble_eq_true rfl) hm1 (Nat.le_of_ble_eq_true rfl) rfl ?_
  rw [hi1]
  refine Wp.mono hm (fun r2 h2 hp _ _ => ?_)
  obtain ⟨rfl, hI2⟩ := hp
  refine wp_icmp_eq dL_law_805 (fun c1 => ?_) (fun c1 => absurd rfl c1)
  exact hcont h2 hI2
set_option maxRecDepth 20000 in
theorem law_op18 {L c : Nat} {h : mH} {Q : Option Value → mH → Prop} {I : mH → Prop} (hL : L ≤ 3584) (hc : 7 * c + 7 ≤ L) (ho0 : hO h 0 11) (hs : hK h scrA = (99, L)) (hop : Op2 mX11_cover mX12_cover 7 185 8 200 [some (.ref 0), some (.int (hI h scrA (7 * c + 1))), some (.int (hI h scrA (7 * c + 2)))] [some (.ref 153), some (.int (hI h scrA (7 * c + 1))), some (.int (hI h scrA (7 * c + 2)))] I h) (hcont : ∀ h2, I h2 → Wp mLaw 13 554 1503 [some (.ref scrA), some (.ref 0), some (.ref 153), some (.int (nI (7 * c)))] [] h2 Q) : Wp mLaw 13 554 810 [some (.ref scrA), some (.ref 0), some (.ref 153), some (.int (nI (7 * c)))] [] h Q := by
  refine wp_aload_n dL_law_810 rfl rfl ?_
  refine wp_aload_n dL_law_811 rfl rfl ?_
  refine wp_iload_n dL_law_812 rfl rfl ?_
  refine wp_iconst (v := (nI 1)) dL_law_813 (by decide +kernel) ?_
  refine wp_iadd dL_law_814 ?_
  refine wp_sldN dL_law_815 hs (isN_add rfl rfl) ⟨by omega, by omega⟩ ?_
  refine wp_aload_n dL_law_816 rfl rfl ?_
  refine wp_iload_n dL_law_817 rfl rfl ?_
  refine wp_iconst (v := (nI 2)) dL_law_818 (by decide +kernel) ?_
  refine wp_iadd dL_law_819 ?_
  refine wp_sldN dL_law_820 hs (isN_add rfl rfl) ⟨by omega, by omega⟩ ?_
  refine wp_cV2 7 185 [some _, some _, some _] dL_law_821 tX11_cover rfl (by decide) nX11_cover vX11_cover lL_93 ⟨by decide, by decide⟩ (Nat.le_of_ble_eq_true rfl) ho0 (Nat.le_of_ble_eq_true rfl) rfl ?_
  refine Wp.mono hop (fun r1 h1 hp _ _ => ?_)
  obtain ⟨hk1, hi1, hm1, v, rfl, hm⟩ := hp
  refine wp_aload_n dL_law_824 rfl rfl ?_
  refine wp_aload_n dL_law_825 rfl rfl ?_
  refine wp_iload_n dL_law_826 rfl rfl ?_
  refine wp_iconst (v := (nI 1)) dL_law_827 (by decide +kernel) ?_
  refine wp_iadd dL_law_828 ?_
  refine wp_sldN dL_law_829 (hk1.trans hs) (isN_add rfl rfl) ⟨by omega, by omega⟩ ?_
  refine wp_aload_n dL_law_830 rfl rfl ?_
  refine wp_iload_n dL_law_831 rfl rfl ?_
  refine wp_iconst (v := (nI 2)) dL_law_832 (by decide +kernel) ?_
  refine wp_iadd dL_law_833 ?_
  refine wp_sldN dL_law_834 (hk1.trans hs) (isN_add rfl rfl) ⟨by omega, by omega⟩ ?_
  refine wp_cV2 8 200 [some _, some _, some _] dL_law_835 tX12_cover rfl (by decide) nX12_cover vX12_cover lL_96 ⟨by decide, by decide⟩ (Nat.le_of_ble_eq_true rfl) hm1 (Nat.le_of_ble_eq_true rfl) rfl ?_
  rw [hi1]
  refine Wp.mono hm (fun r2 h2 hp _ _ => ?_)
  obtain ⟨rfl, hI2⟩ := hp
  refine wp_icmp_eq dL_law_838 (fun c1 => ?_) (fun c1 => absurd rfl c1)
  exact hcont h2 hI2
set_option maxRecDepth 20000 in
theorem law_op19 {L c : Nat} {h : mH} {Q : Option Value → mH → Prop} {I : mH → Prop} (hL : L ≤ 3584) (hc : 7 * c + 7 ≤ L) (ho0 : hO h 0 11) (hs : hK h scrA = (99, L)) (hop : Op2 mX11_covers mX12_covers 7 185 8 200 [some (.ref 0), some (.int (hI h scrA (7 * c + 1))), some (.int (hI h scrA (7 * c + 2))), some (.int (hI h scrA (7 * c + 3))), none, none] [some (.ref 153), some (.int (hI h scrA (7 * c + 1))), some (.int (hI h scrA (7 * c + 2))), some (.int (hI h scrA (7 * c + 3))), none] I h) (hcont : ∀ h2, I h2 → Wp mLaw 13 554 1503 [some (.ref scrA), some (.ref 0), some (.ref 153), some (.int (nI (7 * c)))] [] h2 Q) : Wp mLaw 13 554 843 [some (.ref scrA), some (.ref 0), some (.ref 153), some (.int (nI (7 * c)))] [] h Q := by
  refine wp_aload_n dL_law_843 rfl rfl ?_
  refine wp_aload_n dL_law_844 rfl rfl ?_
  refine wp_iload_n dL_law_845 rfl rfl ?_
  refine wp_iconst (v := (nI 1)) dL_law_846 (by decide +kernel) ?_
  refine wp_iadd dL_law_847 ?_
  refine wp_sldN dL_law_848 hs (isN_add rfl rfl) ⟨by omega, by omega⟩ ?_
  refine wp_aload_n dL_law_849 rfl rfl ?_
  refine wp_iload_n dL_law_850 rfl rfl ?_
  refine wp_iconst (v := (nI 2)) dL_law_851 (by decide +kernel) ?_
  refine wp_iadd dL_law_852 ?_
  refine wp_sldN dL_law_853 hs (isN_add rfl rfl) ⟨by omega, by omega⟩ ?_
  refine wp_aload_n dL_law_854 rfl rfl ?_
  refine wp_iload_n dL_law_855 rfl rfl ?_
  refine wp_iconst (v := (nI 3)) dL_law_856 (by decide +kernel) ?_
  refine wp_iadd dL_law_857 ?_
  refine wp_sldN dL_law_858 hs (isN_add rfl rfl) ⟨by omega, by omega⟩ ?_
  refine wp_cV3 7 185 [some _, some _, some _, some _, none, none] dL_law_859 tX11_covers rfl (by decide) nX11_covers vX11_covers lL_97 ⟨by decide, by decide⟩ (Nat.le_of_ble_eq_true rfl) ho0 (Nat.le_of_ble_eq_true rfl) rfl ?_
  refine Wp.mono hop (fun r1 h1 hp _ _ => ?_)
  obtain ⟨hk1, hi1, hm1, v, rfl, hm⟩ := hp
  refine wp_aload_n dL_law_862 rfl rfl ?_
  refine wp_aload_n dL_law_863 rfl rfl ?_
  refine wp_iload_n dL_law_864 rfl rfl ?_
  refine wp_iconst (v := (nI 1)) dL_law_865 (by decide +kernel) ?_
  refine wp_iadd dL_law_866 ?_
  refine wp_sldN dL_law_867 (hk1.trans hs) (isN_add rfl rfl) ⟨by omega, by omega⟩ ?_
  refine wp_aload_n dL_law_868 rfl rfl ?_
  refine wp_iload_n dL_law_869 rfl rfl ?_
  refine wp_iconst (v := (nI 2)) dL_law_870 (by decide +kernel) ?_
  refine wp_iadd dL_law_871 ?_
  refine wp_sldN dL_law_872 (hk1.trans hs) (isN_add rfl rfl) ⟨by omega, by omega⟩ ?_
  refine wp_aload_n dL_law_873 rfl rfl ?_
  refine wp_iload_n dL_law_874 rfl rfl ?_
  refine wp_iconst (v := (nI 3)) dL_law_875 (by decide +kernel) ?_
  refine wp_iadd dL_law_876 ?_
  refine wp_sldN dL_law_877 (hk1.trans hs) (isN_add rfl rfl) ⟨by omega, by omega⟩ ?_
  refine wp_cV3 8 200 [some _, some _, some _, some _, none] dL_law_878 tX12_covers rfl (by decide) nX12_covers vX12_covers lL_100 ⟨by decide, by decide⟩ (Nat.le_of_ble_eq_true rfl) hm1 (Nat.le_of_ble_eq_true rfl) rfl ?_
  rw [hi1]
  refine Wp.mono hm (fun r2 h2 hp _ _ => ?_)
  obtain ⟨rfl, hI2⟩ := hp
  refine wp_icmp_eq dL_law_881 (fun c1 => ?_) (fun c1 => absurd rfl c1)
  exact hcont h2 hI2
set_option maxRecDepth 20000 in
theorem law_op20 {L c : Nat} {h : mH} {Q : Option Value → mH → Prop} {I : mH → Prop} (hL : L ≤ 3584) (hc : 7 * c + 7 ≤ L) (ho0 : hO h 0 11) (hs : hK h scrA = (99, L)) (hop : Op2 mX11_contradict mX12_contradict 7 185 7 178 [some (.ref 0), some (.int (hI h scrA (7 * c + 1))), some (.int (hI h scrA (7 * c + 2))), some (.int (hI h scrA (7 * c + 3))), none, none] [some (.ref 153), some (.int (hI h scrA (7 * c + 1))), some (.int (hI h scrA (7 * c + 2))), some (.int (hI h scrA (7 * c + 3))), none] I h) (hcont : ∀ h2, I h2 → Wp mLaw 13 554 1503 [some (.ref scrA), some (.ref 0), some (.ref 153), some (.int (nI (7 * c)))] [] h2 Q) : Wp mLaw 13 554 886 [some (.ref scrA), some (.ref 0), some (.ref 153), some (.int (nI (7 * c)))] [] h Q := by
  refine wp_aload_n dL_law_886 rfl rfl ?_
  refine wp_aload_n dL_law_887 rfl rfl ?_
  refine wp_iload_n dL_law_888 rfl rfl ?_
  refine wp_iconst (v := (nI 1)) dL_law_889 (by decide +kernel) ?_
  refine wp_iadd dL_law_890 ?_
  refine wp_sldN dL_law_891 hs (isN_add rfl rfl) ⟨by omega, by omega⟩ ?_
  refine wp_aload_n dL_law_892 rfl rfl ?_
  refine wp_iload_n dL_law_893 rfl rfl ?_
  refine wp_iconst (v := (nI 2)) dL_law_894 (by decide +kernel) ?_
  refine wp_iadd dL_law_895 ?_
  refine wp_sldN dL_law_896 hs (isN_add rfl rfl) ⟨by omega, by omega⟩ ?_
  refine wp_aload_n dL_law_897 rfl rfl ?_
  refine wp_iload_n dL_law_898 rfl rfl ?_
  refine wp_iconst (v := (nI 3)) dL_law_899 (by decide +kernel) ?_
  refine wp_iadd dL_law_900 ?_
  refine wp_sldN dL_law_901 hs (isN_add rfl rfl) ⟨by omega, by omega⟩ ?_
  refine wp_cV3 7 185 [some _, some _, some _, some _, none, none] dL_law_902 tX11_contradict rfl (by decide) nX11_contradict vX11_contradict lL_101 ⟨by decide, by decide⟩ (Nat.le_of_ble_eq_true rfl) ho0 (Nat.le_of_ble_eq_true rfl) rfl ?_
  refine Wp.mono hop (fun r1 h1 hp _ _ => ?_)
  obtain ⟨hk1, hi1, hm1, v, rfl, hm⟩ := hp
  refine wp_aload_n dL_law_905 rfl rfl ?_
  refine wp_aload_n dL_law_906 rfl rfl ?_
  refine wp_iload_n dL_law_907 rfl rfl ?_
  refine wp_iconst (v := (nI 1)) dL_law_908 (by decide +kernel) ?_
  refine wp_iadd dL_law_909 ?_
  refine wp_sldN dL_law_910 (hk1.trans hs) (isN_add rfl rfl) ⟨by omega, by omega⟩ ?_
  refine wp_aload_n dL_law_911 rfl rfl ?_
  refine wp_iload_n dL_law_912 rfl rfl ?_
  refine wp_iconst (v := (nI 2)) dL_law_913 (by decide +kernel) ?_
  refine wp_iadd dL_law_914 ?_
  refine wp_sldN dL_law_915 (hk1.trans hs) (isN_add rfl rfl) ⟨by omega, by omega⟩ ?_
  refine wp_aload_n dL_law_916 rfl rfl ?_
  refine wp_iload_n dL_law_917 rfl rfl ?_
  refine wp_iconst (v := (nI 3)) dL_law_918 (by decide +kernel) ?_
  refine wp_iadd dL_law_919 ?_
  refine wp_sldN dL_law_920 (hk1.trans hs) (isN_add rfl rfl) ⟨by omega, by omega⟩ ?_
  refine wp_cV3 7 178 [some _, some _, some _, some _, none] dL_law_921 tX12_contradict rfl (by decide) nX12_contradict vX12_contradict lL_104 ⟨by decide, by decide⟩ (Nat.le_of_ble_eq_true rfl) hm1 (Nat.le_of_ble_eq_true rfl) rfl ?_
  rw [hi1]
  refine Wp.mono hm (fun r2 h2 hp _ _ => ?_)
  obtain ⟨rfl, hI2⟩ := hp
  refine wp_icmp_eq dL_law_924 (fun c1 => ?_) (fun c1 => absurd rfl c1)
  exact hcont h2 hI2
set_option maxRecDepth 20000 in
theorem law_op21 {L c : Nat} {h : mH} {Q : Option Value → mH → Prop} {I : mH → Prop} (hL : L ≤ 3584) (hc : 7 * c + 7 ≤ L) (ho0 : hO h 0 11) (hs : hK h scrA = (99, L)) (hop : Op2 mX11_stale mX12_stale 8 208 8 200 [some (.ref 0), some (.int (hI h scrA (7 * c + 1))), none, none] [some (.ref 153), some (.int (hI h scrA (7 * c + 1))), none, none] I h) (hcont : ∀ h2, I h2 → Wp mLaw 13 554 1503 [some (.ref scrA), some (.ref 0), some (.ref 153), some (.int (nI (7 * c)))] [] h2 Q) : Wp mLaw 13 554 929 [some (.ref scrA), some (.ref 0), some (.ref 153), some (.int (nI (7 * c)))] [] h Q := by
  refine wp_aload_n dL_law_929 rfl rfl ?_
  refine wp_aload_n dL_law_930 rfl rfl ?_
  refine wp_iload_n dL_law_931 rfl rfl ?_
  refine wp_iconst (v := (nI 1)) dL_law_932 (by decide +kernel) ?_
  refine wp_iadd dL_law_933 ?_
  refine wp_sldN dL_law_934 hs (isN_add rfl rfl) ⟨by omega, by omega⟩ ?_
  refine wp_cV1 8 208 [some _, some _, none, none] dL_law_935 tX11_stale rfl (by decide) nX11_stale vX11_stale lL_105 ⟨by decide, by decide⟩ (Nat.le_of_ble_eq_true rfl) ho0 (Nat.le_of_ble_eq_true rfl) rfl ?_
  refine Wp.mono hop (fun r1 h1 hp _ _ => ?_)
  obtain ⟨hk1, hi1, hm1, v, rfl, hm⟩ := hp
  refine wp_aload_n dL_law_938 rfl rfl ?_
  refine wp_aload_n dL_law_939 rfl rfl ?_
  refine wp_iload_n dL_law_940 rfl rfl ?_
  refine wp_iconst (v := (nI 1)) dL_law_941 (by decide +kernel) ?_
  refine wp_iadd dL_law_942 ?_
  refine wp_sldN dL_law_943 (hk1.trans hs) (isN_add rfl rfl) ⟨by omega, by omega⟩ ?_
  refine wp_cV1 8 200 [some _, some _, none, none] dL_law_944 tX12_stale rfl (by decide) nX12_stale vX12_stale lL_108 ⟨by decide, by decide⟩ (Nat.le_of_ble_eq_true rfl) hm1 (Nat.le_of_ble_eq_true rfl) rfl ?_
  rw [hi1]
  refine Wp.mono hm (fun r2 h2 hp _ _ => ?_)
  obtain ⟨rfl, hI2⟩ := hp
  refine wp_icmp_eq dL_law_947 (fun c1 => ?_) (fun c1 => absurd rfl c1)
  exact hcont h2 hI2
set_option maxRecDepth 20000 in
theorem law_op22 {L c : Nat} {h : mH} {Q : Option Value → mH → Prop} {I : mH → Prop} (hL : L ≤ 3584) (hc : 7 * c + 7 ≤ L) (ho0 : hO h 0 11) (hs : hK h scrA = (99, L)) (hop : Op2 mX11_cut mX12_cut 6 146 8 198 [some (.ref 0), some (.int (hI h scrA (7 * c + 1))), some (.int (hI h scrA (7 * c + 2))), some (.int (hI h scrA (7 * c + 3))), some (.int (hI h scrA (7 * c + 4)))] [some (.ref 153), some (.int (hI h scrA (7 * c + 1))), some (.int (hI h scrA (7 * c + 2))), some (.int (hI h scrA (7 * c + 3))), some (.int (hI h scrA (7 * c + 4)))] I h) (hcont : ∀ h2, I h2 → Wp mLaw 13 554 1503 [some (.ref scrA), some (.ref 0), some (.ref 153), some (.int (nI (7 * c)))] [] h2 Q) : Wp mLaw 13 554 952 [some (.ref scrA), some (.ref 0), some (.ref 153), some (.int (nI (7 * c)))] [] h Q := by
  refine wp_aload_n dL_law_952 rfl rfl ?_
  refine wp_aload_n dL_law_953 rfl rfl ?_
  refine wp_iload_n dL_law_954 rfl rfl ?_
  refine wp_iconst (v := (nI 1)) dL_law_955 (by decide +kernel) ?_
  refine wp_iadd dL_law_956 ?_
  refine wp_sldN dL_law_957 hs (isN_add rfl rfl) ⟨by omega, by omega⟩ ?_
  refine wp_aload_n dL_law_958 rfl rfl ?_
  refine wp_iload_n dL_law_959 rfl rfl ?_
  refine wp_iconst (v := (nI 2)) dL_law_960 (by decide +kernel) ?_
  refine wp_iadd dL_law_961 ?_
  refine wp_sldN dL_law_962 hs (isN_add rfl rfl) ⟨by omega, by omega⟩ ?_
  refine wp_aload_n dL_law_963 rfl rfl ?_
  refine wp_iload_n dL_law_964 rfl rfl ?_
  refine wp_iconst (v := (nI 3)) dL_law_965 (by decide +kernel) ?_
  refine wp_iadd dL_law_966 ?_
  refine wp_sldN dL_law_967 hs (isN_add rfl rfl) ⟨by omega, by omega⟩ ?_
  refine wp_aload_n dL_law_968 rfl rfl ?_
  refine wp_iload_n dL_law_969 rfl rfl ?_
  refine wp_iconst (v := (nI 4)) dL_law_970 (by decide +kernel) ?_
  refine wp_iadd dL_law_971 ?_
  refine wp_sldN dL_law_972 hs (isN_add rfl rfl) ⟨by omega, by omega⟩ ?_
  refine wp_cV4 6 146 [some _, some _, some _, some _, some _] dL_law_973 tX11_cut rfl (by decide) nX11_cut vX11_cut lL_109 ⟨by decide, by decide⟩ (Nat.le_of_ble_eq_true rfl) ho0 (Nat.le_of_ble_eq_true rfl) rfl ?_
  refine Wp.mono hop (fun r1 h1 hp _ _ => ?_)
  obtain ⟨hk1, hi1, hm1, v, rfl, hm⟩ := hp
  refine wp_aload_n dL_law_976 rfl rfl ?_
  refine wp_aload_n dL_law_977 rfl rfl ?_
  refine wp_iload_n dL_law_978 rfl rfl ?_
  refine wp_iconst (v := (nI 1)) dL_law_979 (by decide +kernel) ?_
  refine wp_iadd dL_law_980 ?_
  refine wp_sldN dL_law_981 (hk1.trans hs) (isN_add rfl rfl) ⟨by omega, by omega⟩ ?_
  refine wp_aload_n dL_law_982 rfl rfl ?_
  refine wp_iload_n dL_law_983 rfl rfl ?_
  refine wp_iconst (v := (nI 2)) dL_law_984 (by decide +kernel) ?_
  refine wp_iadd dL_law_985 ?_
  refine wp_sldN dL_law_986 (hk1.trans hs) (isN_add rfl rfl) ⟨by omega, by omega⟩ ?_
  refine wp_aload_n dL_law_987 rfl rfl ?_
  refine wp_iload_n dL_law_988 rfl rfl ?_
  refine wp_iconst (v := (nI 3)) dL_law_989 (by decide +kernel) ?_
  refine wp_iadd dL_law_990 ?_
  refine wp_sldN dL_law_991 (hk1.trans hs) (isN_add rfl rfl) ⟨by omega, by omega⟩ ?_
  refine wp_aload_n dL_law_992 rfl rfl ?_
  refine wp_iload_n dL_law_993 rfl rfl ?_
  refine wp_iconst (v := (nI 4)) dL_law_994 (by decide +kernel) ?_
  refine wp_iadd dL_law_995 ?_
  refine wp_sldN dL_law_996 (hk1.trans hs) (isN_add rfl rfl) ⟨by omega, by omega⟩ ?_
  refine wp_cV4 8 198 [some _, some _, some _, some _, some _] dL_law_997 tX12_cut rfl (by decide) nX12_cut vX12_cut lL_112 ⟨by decide, by decide⟩ (Nat.le_of_ble_eq_true rfl) hm1 (Nat.le_of_ble_eq_true rfl) rfl ?_
  rw [hi1]
  refine Wp.mono hm (fun r2 h2 hp _ _ => ?_)
  obtain ⟨rfl, hI2⟩ := hp
  refine wp_icmp_eq dL_law_1000 (fun c1 => ?_) (fun c1 => absurd rfl c1)
  exact hcont h2 hI2
set_option maxRecDepth 20000 in
theorem law_op23 {L c : Nat} {h : mH} {Q : Option Value → mH → Prop} {I : mH → Prop} (hL : L ≤ 3584) (hc : 7 * c + 7 ≤ L) (ho0 : hO h 0 11) (hs : hK h scrA = (99, L)) (hop : Op2 mX11_by mX12_by 6 146 8 198 [some (.ref 0), some (.int (hI h scrA (7 * c + 1))), some (.int (hI h scrA (7 * c + 2)))] [some (.ref 153), some (.int (hI h scrA (7 * c + 1))), some (.int (hI h scrA (7 * c + 2)))] I h) (hcont : ∀ h2, I h2 → Wp mLaw 13 554 1503 [some (.ref scrA), some (.ref 0), some (.ref 153), some (.int (nI (7 * c)))] [] h2 Q) : Wp mLaw 13 554 1005 [some (.ref scrA), some (.ref 0), some (.ref 153), some (.int (nI (7 * c)))] [] h Q := by
  refine wp_aload_n dL_law_1005 rfl rfl ?_
  refine wp_aload_n dL_law_1006 rfl rfl ?_
  refine wp_iload_n dL_law_1007 rfl rfl ?_
  refine wp_iconst (v := (nI 1)) dL_law_1008 (by decide +kernel) ?_
  refine wp_iadd dL_law_1009 ?_
  refine wp_sldN dL_law_1010 hs (isN_add rfl rfl) ⟨by omega, by omega⟩ ?_
  refine wp_aload_n dL_law_1011 rfl rfl ?_
  refine wp_iload_n dL_law_1012 rfl rfl ?_
  refine wp_iconst (v := (nI 2)) dL_law_1013 (by decide +kernel) ?_
  refine wp_iadd dL_law_1014 ?_
  refine wp_sldN dL_law_1015 hs (isN_add rfl rfl) ⟨by omega, by omega⟩ ?_
  refine wp_cV2 6 146 [some _, some _, some _] dL_law_1016 tX11_by rfl (by decide) nX11_by vX11_by lL_113 ⟨by decide, by decide⟩ (Nat.le_of_ble_eq_true rfl) ho0 (Nat.le_of_ble_eq_true rfl) rfl ?_
  refine Wp.mono hop (fun r1 h1 hp _ _ => ?_)
  obtain ⟨hk1, hi1, hm1, v, rfl, hm⟩ := hp
  refine wp_aload_n dL_law_1019 rfl rfl ?_
  refine wp_aload_n dL_law_1020 rfl rfl ?_
  refine wp_iload_n dL_law_1021 rfl rfl ?_
  refine wp_iconst (v := (nI 1)) dL_law_1022 (by decide +kernel) ?_
  refine wp_iadd dL_law_1023 ?_
  refine wp_sldN dL_law_1024 (hk1.trans hs) (isN_add rfl rfl) ⟨by omega, by omega⟩ ?_
  refine wp_aload_n dL_law_1025 rfl rfl ?_
  refine wp_iload_n dL_law_1026 rfl rfl ?_
  refine wp_iconst (v := (nI 2)) dL_law_1027 (by decide +kernel) ?_
  refine wp_iadd dL_law_1028 ?_
  refine wp_sldN dL_law_1029 (hk1.trans hs) (isN_add rfl rfl) ⟨by omega, by omega⟩ ?_
  refine wp_cV2 8 198 [some _, some _, some _] dL_law_1030 tX12_by rfl (by decide) nX12_by vX12_by lL_116 ⟨by decide, by decide⟩ (Nat.le_of_ble_eq_true rfl) hm1 (Nat.le_of_ble_eq_true rfl) rfl ?_
  rw [hi1]
  refine Wp.mono hm (fun r2 h2 hp _ _ => ?_)
  obtain ⟨rfl, hI2⟩ := hp
  refine wp_icmp_eq dL_law_1033 (fun c1 => ?_) (fun c1 => absurd rfl c1)
  exact hcont h2 hI2
set_option maxRecDepth 20000 in
theorem law_op24 {L c : Nat} {h : mH} {Q : Option Value → mH → Prop} {I : mH → Prop} (hL : L ≤ 3584) (hc : 7 * c + 7 ≤ L) (ho0 : hO h 0 11) (hs : hK h scrA = (99, L)) (hop : Op2 mX11_letter mX12_letter 7 168 8 198 [some (.ref 0), some (.int (hI h scrA (7 * c + 1))), some (.int (hI h scrA (7 * c + 2))), some (.int (hI h scrA (7 * c + 3)))] [some (.ref 153), some (.int (hI h scrA (7 * c + 1))), some (.int (hI h scrA (7 * c + 2))), some (.int (hI h scrA (7 * c + 3)))] I h) (hcont : ∀ h2, I h2 → Wp mLaw 13 554 1503 [some (.ref scrA), some (.ref 0), some (.ref 153), some (.int (nI (7 * c)))] [] h2 Q) : Wp mLaw 13 554 1038 [some (.ref scrA), some (.ref 0), some (.ref 153), some (.int (nI (7 * c)))] [] h Q := by
  refine wp_aload_n dL_law_1038 rfl rfl ?_
  refine wp_aload_n dL_law_1039 rfl rfl ?_
  refine wp_iload_n dL_law_1040 rfl rfl ?_
  refine wp_iconst (v := (nI 1)) dL_law_1041 (by decide +kernel) ?_
  refine wp_iadd dL_law_1042 ?_
  refine wp_sldN dL_law_1043 hs (isN_add rfl rfl) ⟨by omega, by omega⟩ ?_
  refine wp_aload_n dL_law_1044 rfl rfl ?_
  refine wp_iload_n dL_law_1045 rfl rfl ?_
  refine wp_iconst (v := (nI 2)) dL_law_1046 (by decide +kernel) ?_
  refine wp_iadd dL_law_1047 ?_
  refine wp_sldN dL_law_1048 hs (isN_add rfl rfl) ⟨by omega, by omega⟩ ?_
  refine wp_aload_n dL_law_1049 rfl rfl ?_
  refine wp_iload_n dL_law_1050 rfl rfl ?_
  refine wp_iconst (v := (nI 3)) dL_law_1051 (by decide +kernel) ?_
  refine wp_iadd dL_law_1052 ?_
  refine wp_sldN dL_law_1053 hs (isN_add rfl rfl) ⟨by omega, by omega⟩ ?_
  refine wp_cV3 7 168 [some _, some _, some _, some _] dL_law_1054 tX11_letter rfl (by decide) nX11_letter vX11_letter lL_117 ⟨by decide, by decide⟩ (Nat.le_of_ble_eq_true rfl) ho0 (Nat.le_of_ble_eq_true rfl) rfl ?_
  refine Wp.mono hop (fun r1 h1 hp _ _ => ?_)
  obtain ⟨hk1, hi1, hm1, v, rfl, hm⟩ := hp
  refine wp_aload_n dL_law_1057 rfl rfl ?_
  refine wp_aload_n dL_law_1058 rfl rfl ?_
  refine wp_iload_n dL_law_1059 rfl rfl ?_
  refine wp_iconst (v := (nI 1)) dL_law_1060 (by decide +kernel) ?_
  refine wp_iadd dL_law_1061 ?_
  refine wp_sldN dL_law_1062 (hk1.trans hs) (isN_add rfl rfl) ⟨by omega, by omega⟩ ?_
  refine wp_aload_n dL_law_1063 rfl rfl ?_
  refine wp_iload_n dL_law_1064 rfl rfl ?_
  refine wp_iconst (v := (nI 2)) dL_law_1065 (by decide +kernel) ?_
  refine wp_iadd dL_law_1066 ?_
  refine wp_sldN dL_law_1067 (hk1.trans hs) (isN_add rfl rfl) ⟨by omega, by omega⟩ ?_
  refine wp_aload_n dL_law_1068 rfl rfl ?_
  refine wp_iload_n dL_law_1069 rfl rfl ?_
  refine wp_iconst (v := (nI 3)) dL_law_1070 (by decide +kernel) ?_
  refine wp_iadd dL_law_1071 ?_
  refine wp_sldN dL_law_1072 (hk1.trans hs) (isN_add rfl rfl) ⟨by omega, by omega⟩ ?_
  refine wp_cV3 8 198 [some _, some _, some _, some _] dL_law_1073 tX12_letter rfl (by decide) nX12_letter vX12_letter lL_120 ⟨by decide, by decide⟩ (Nat.le_of_ble_eq_true rfl) hm1 (Nat.le_of_ble_eq_true rfl) rfl ?_
  rw [hi1]
  refine Wp.mono hm (fun r2 h2 hp _ _ => ?_)
  obtain ⟨rfl, hI2⟩ := hp
  refine wp_icmp_eq dL_law_1076 (fun c1 => ?_) (fun c1 => absurd rfl c1)
  exact hcont h2 hI2
set_option maxRecDepth 20000 in
theorem law_op25 {L c : Nat} {h : mH} {Q : Option Value → mH → Prop} {I : mH → Prop} (hL : L ≤ 3584) (hc : 7 * c + 7 ≤ L) (ho0 : hO h 0 11) (hs : hK h scrA = (99, L)) (hop : Op2 mX11_pattern mX12_pattern 3 63 2 43 [some (.ref 0), some (.int (hI h scrA (7 * c + 1))), some (.int (hI h scrA (7 * c + 2))), none] [some (.ref 153), some (.int (hI h scrA (7 * c + 1))), some (.int (hI h scrA (7 * c + 2)))] I h) (hcont : ∀ h2, I h2 → Wp mLaw 13 554 1503 [some (.ref scrA), some (.ref 0), some (.ref 153), some (.int (nI (7 * c)))] [] h2 Q) : Wp mLaw 13 554 1081 [some (.ref scrA), some (.ref 0), some (.ref 153), some (.int (nI (7 * c)))] [] h Q := by
  refine wp_aload_n dL_law_1081 rfl rfl ?_
  refine wp_aload_n dL_law_1082 rfl rfl ?_
  refine wp_iload_n dL_law_1083 rfl rfl ?_
  refine wp_iconst (v := (nI 1)) dL_law_1084 (by decide +kernel) ?_
  refine wp_iadd dL_law_1085 ?_
  refine wp_sldN dL_law_1086 hs (isN_add rfl rfl) ⟨by omega, by omega⟩ ?_
  refine wp_aload_n dL_law_1087 rfl rfl ?_
  refine wp_iload_n dL_law_1088 rfl rfl ?_
  refine wp_iconst (v := (nI 2)) dL_law_1089 (by decide +kernel) ?_
  refine wp_iadd dL_law_1090 ?_
  refine wp_sldN dL_law_1091 hs (isN_add rfl rfl) ⟨by omega, by omega⟩ ?_
  refine wp_cV2 3 63 [some _, some _, some _, none] dL_law_1092 tX11_pattern rfl (by decide) nX11_pattern vX11_pattern lL_121 ⟨by decide, by decide⟩ (Nat.le_of_ble_eq_true rfl) ho0 (Nat.le_of_ble_eq_true rfl) rfl ?_
  refine Wp.mono hop (fun r1 h1 hp _ _ => ?_)
  obtain ⟨hk1, hi1, hm1, v, rfl, hm⟩ := hp
  refine wp_aload_n dL_law_1095 rfl rfl ?_
  refine wp_aload_n dL_law_1096 rfl rfl ?_
  refine wp_iload_n dL_law_1097 rfl rfl ?_
  refine wp_iconst (v := (nI 1)) dL_law_1098 (by decide +kernel) ?_
  refine wp_iadd dL_law_1099 ?_
  refine wp_sldN dL_law_1100 (hk1.trans hs) (isN_add rfl rfl) ⟨by omega, by omega⟩ ?_
  refine wp_aload_n dL_law_1101 rfl rfl ?_
  refine wp_iload_n dL_law_1102 rfl rfl ?_
  refine wp_iconst (v := (nI 2)) dL_law_1103 (by decide +kernel) ?_
  refine wp_iadd dL_law_1104 ?_
  refine wp_sldN dL_law_1105 (hk1.trans hs) (isN_add rfl rfl) ⟨by omega, by omega⟩ ?_
  refine wp_cV2 2 43 [some _, some _, some _] dL_law_1106 tX12_pattern rfl (by decide) nX12_pattern vX12_pattern lL_124 ⟨by decide, by decide⟩ (Nat.le_of_ble_eq_true rfl) hm1 (Nat.le_of_ble_eq_true rfl) rfl ?_
  rw [hi1]
  refine Wp.mono hm (fun r2 h2 hp _ _ => ?_)
  obtain ⟨rfl, hI2⟩ := hp
  refine wp_icmp_eq dL_law_1109 (fun c1 => ?_) (fun c1 => absurd rfl c1)
  exact hcont h2 hI2
set_option maxRecDepth 20000 in
theorem law_op26 {L c : Nat} {h : mH} {Q : Option Value → mH → Prop} {I : mH → Prop} (hL : L ≤ 3584) (hc : 7 * c + 7 ≤ L) (ho0 : hO h 0 11) (hs : hK h scrA = (99, L)) (hop : Op2 mX11_proposed mX12_proposed 9 233 10 246 [some (.ref 0), some (.int (hI h scrA (7 * c + 1))), some (.int (hI h scrA (7 * c + 2))), some (.int (hI h scrA (7 * c + 3))), some (.int (hI h scrA (7 * c + 4))), none] [some (.ref 153), some (.int (hI h scrA (7 * c + 1))), some (.int (hI h scrA (7 * c + 2))), some (.int (hI h scrA (7 * c + 3))), some (.int (hI h scrA (7 * c + 4)))] I h) (hcont : ∀ h2, I h2 → Wp mLaw 13 554 1503 [some (.ref scrA), some (.ref 0), some (.ref 153), some (.int (nI (7 * c)))] [] h2 Q) : Wp mLaw 13 554 1114 [some (.ref scrA), some (.ref 0), some (.ref 153), some (.int (nI (7 * c)))] [] h Q := by
  refine wp_aload_n dL_law_1114 rfl rfl ?_
  refine wp_aload_n dL_law_1115 rfl rfl ?_
  refine wp_iload_n dL_law_1116 rfl rfl ?_
  refine wp_iconst (v := (nI 1)) dL_law_1117 (by decide +kernel) ?_
  refine wp_iadd dL_law_1118 ?_
  refine wp_sldN dL_law_1119 hs (isN_add rfl rfl) ⟨by omega, by omega⟩ ?_
  refine wp_aload_n dL_law_1120 rfl rfl ?_
  refine wp_iload_n dL_law_1121 rfl rfl ?_
  refine wp_iconst (v := (nI 2)) dL_law_1122 (by decide +kernel) ?_
  refine wp_iadd dL_law_1123 ?_
  refine wp_sldN dL_law_1124 hs (isN_add rfl rfl) ⟨by omega, by omega⟩ ?_
  refine wp_aload_n dL_law_1125 rfl rfl ?_
  refine wp_iload_n dL_law_1126 rfl rfl ?_
  refine wp_iconst (v := (nI 3)) dL_law_1127 (by decide +kernel) ?_
  refine wp_iadd dL_law_1128 ?_
  refine wp_sldN dL_law_1129 hs (isN_add rfl rfl) ⟨by omega, by omega⟩ ?_
  refine wp_aload_n dL_law_1130 rfl rfl ?_
  refine wp_iload_n dL_law_1131 rfl rfl ?_
  refine wp_iconst (v := (nI 4)) dL_law_1132 (by decide +kernel) ?_
  refine wp_iadd dL_law_1133 ?_
  refine wp_sldN dL_law_1134 hs (isN_add rfl rfl) ⟨by omega, by omega⟩ ?_
  refine wp_cV4 9 233 [some _, some _, some _, some _, some _, none] dL_law_1135 tX11_proposed rfl (by decide) nX11_proposed vX11_proposed lL_125 ⟨by decide, by decide⟩ (Nat.le_of_ble_eq_true rfl) ho0 (Nat.le_of_ble_eq_true rfl) rfl ?_
  refine Wp.mono hop (fun r1 h1 hp _ _ => ?_)
  obtain ⟨hk1, hi1, hm1, v, rfl, hm⟩ := hp
  refine wp_aload_n dL_law_1138 rfl rfl ?_
  refine wp_aload_n dL_law_1139 rfl rfl ?_
  refine wp_iload_n dL_law_1140 rfl rfl ?_
  refine wp_iconst (v := (nI 1)) dL_law_1141 (by decide +kernel) ?_
  refine wp_iadd dL_law_1142 ?_
  refine wp_sldN dL_law_1143 (hk1.trans hs) (isN_add rfl rfl) ⟨by omega, by omega⟩ ?_
  refine wp_aload_n dL_law_1144 rfl rfl ?_
  refine wp_iload_n dL_law_1145 rfl rfl ?_
  refine wp_iconst (v := (nI 2)) dL_law_1146 (by decide +kernel) ?_
  refine wp_iadd dL_law_1147 ?_
  refine wp_sldN dL_law_1148 (hk1.trans hs) (isN_add rfl rfl) ⟨by omega, by omega⟩ ?_
  refine wp_aload_n dL_law_1149 rfl rfl ?_
  refine wp_iload_n dL_law_1150 rfl rfl ?_
  refine wp_iconst (v := (nI 3)) dL_law_1151 (by decide +kernel) ?_
  refine wp_iadd dL_law_1152 ?_
  refine wp_sldN dL_law_1153 (hk1.trans hs) (isN_add rfl rfl) ⟨by omega, by omega⟩ ?_
  refine wp_aload_n dL_law_1154 rfl rfl ?_
  refine wp_iload_n dL_law_1155 rfl rfl ?_
  refine wp_iconst (v := (nI 4)) dL_law_1156 (by decide +kernel) ?_
  refine wp_iadd dL_law_1157 ?_
  refine wp_sldN dL_law_1158 (hk1.trans hs) (isN_add rfl rfl) ⟨by omega, by omega⟩ ?_
  refine wp_cV4 10 246 [some _, some _, some _, some _, some _] dL_law_1159 tX12_proposed rfl (by decide) nX12_proposed vX12_proposed lL_128 ⟨by decide, by decide⟩ (Nat.le_of_ble_eq_true rfl) hm1 (Nat.le_of_ble_eq_true rfl) rfl ?_
  rw [hi1]
  refine Wp.mono hm (fun r2 h2 hp _ _ => ?_)
  obtain ⟨rfl, hI2⟩ := hp
  refine wp_icmp_eq dL_law_1162 (fun c1 => ?_) (fun c1 => absurd rfl c1)
  exact hcont h2 hI2
set_option maxRecDepth 20000 in
theorem law_op27 {L c : Nat} {h : mH} {Q : Option Value → mH → Prop} {I : mH → Prop} (hL : L ≤ 3584) (hc : 7 * c + 7 ≤ L) (ho0 : hO h 0 11) (hs : hK h scrA = (99, L)) (hop : Op2 mX11_alike mX12_alike 7 168 8 198 [some (.ref 0), some (.int (hI h scrA (7 * c + 1))), some (.int (hI h scrA (7 * c + 2))), none, none] [some (.ref 153), some (.int (hI h scrA (7 * c + 1))), some (.int (hI h scrA (7 * c + 2))), none, none, none, none] I h) (hcont : ∀ h2, I h2 → Wp mLaw 13 554 1503 [some (.ref scrA), some (.ref 0), some (.ref 153), some (.int (nI (7 * c)))] [] h2 Q) : Wp mLaw 13 554 1167 [some (.ref scrA), some (.ref 0), some (.ref 153), some (.int (nI (7 * c)))] [] h Q := by
  refine wp_aload_n dL_law_1167 rfl rfl ?_
  refine wp_aload_n dL_law_1168 rfl rfl ?_
  refine wp_iload_n dL_law_1169 rfl rfl ?_
  refine wp_iconst (v := (nI 1)) dL_law_1170 (by decide +kernel) ?_
  refine wp_iadd dL_law_1171 ?_
  refine wp_sldN dL_law_1172 hs (isN_add rfl rfl) ⟨by omega, by omega⟩ ?_
  refine wp_aload_n dL_law_1173 rfl rfl ?_
  refine wp_iload_n dL_law_1174 rfl rfl ?_
  refine wp_iconst (v := (nI 2)) dL_law_1175 (by decide +kernel) ?_
  refine wp_iadd dL_law_1176 ?_
  refine wp_sldN dL_law_1177 hs (isN_add rfl rfl) ⟨by omega, by omega⟩ ?_
  refine wp_cV2 7 168 [some _, some _, some _, none, none] dL_law_1178 tX11_alike rfl (by decide) nX11_alike vX11_alike lL_129 ⟨by decide, by decide⟩ (Nat.le_of_ble_eq_true rfl) ho0 (Nat.le_of_ble_eq_true rfl) rfl ?_
  refine Wp.mono hop (fun r1 h1 hp _ _ => ?_)
  obtain ⟨hk1, hi1, hm1, v, rfl, hm⟩ := hp
  refine wp_aload_n dL_law_1181 rfl rfl ?_
  refine wp_aload_n dL_law_1182 rfl rfl ?_
  refine wp_iload_n dL_law_1183 rfl rfl ?_
  refine wp_iconst (v := (nI 1)) dL_law_1184 (by decide +kernel) ?_
  refine wp_iadd dL_law_1185 ?_
  refine wp_sldN dL_law_1186 (hk1.trans hs) (isN_add rfl rfl) ⟨by omega, by omega⟩ ?_
  refine wp_aload_n dL_law_1187 rfl rfl ?_
  refine wp_iload_n dL_law_1188 rfl rfl ?_
  refine wp_iconst (v := (nI 2)) dL_law_1189 (by decide +kernel) ?_
  refine wp_iadd dL_law_1190 ?_
  refine wp_sldN dL_law_1191 (hk1.trans hs) (isN_add rfl rfl) ⟨by omega, by omega⟩ ?_
  refine wp_cV2 8 198 [some _, some _, some _, none, none, none, none] dL_law_1192 tX12_alike rfl (by decide) nX12_alike vX12_alike lL_132 ⟨by decide, by decide⟩ (Nat.le_of_ble_eq_true rfl) hm1 (Nat.le_of_ble_eq_true rfl) rfl ?_
  rw [hi1]
  refine Wp.mono hm (fun r2 h2 hp _ _ => ?_)
  obtain ⟨rfl, hI2⟩ := hp
  refine wp_icmp_eq dL_law_1195 (fun c1 => ?_) (fun c1 => absurd rfl c1)
  exact hcont h2 hI2
set_option maxRecDepth 20000 in
theorem law_op28 {L c : Nat} {h : mH} {Q : Option Value → mH → Prop} {I : mH → Prop} (hL : L ≤ 3584) (hc : 7 * c + 7 ≤ L) (ho0 : hO h 0 11) (hs : hK h scrA = (99, L)) (hop : Op2 mX11_drift mX12_drift 7 170 9 220 [some (.ref 0), some (.int (hI h scrA (7 * c + 1))), some (.int (hI h scrA (7 * c + 2)))] [some (.ref 153), some (.int (hI h scrA (7 * c + 1))), some (.int (hI h scrA (7 * c + 2)))] I h) (hcont : ∀ h2, I h2 → Wp mLaw 13 554 1503 [some (.ref scrA), some (.ref 0), some (.ref 153), some (.int (nI (7 * c)))] [] h2 Q) : Wp mLaw 13 554 1200 [some (.ref scrA), some (.ref 0), some (.ref 153), some (.int (nI (7 * c)))] [] h Q := by
  refine wp_aload_n dL_law_1200 rfl rfl ?_
  refine wp_aload_n dL_law_1201 rfl rfl ?_
  refine wp_iload_n dL_law_1202 rfl rfl ?_
  refine wp_iconst (v := (nI 1)) dL_law_1203 (by decide +kernel) ?_
  refine wp_iadd dL_law_1204 ?_
  refine wp_sldN dL_law_1205 hs (isN_add rfl rfl) ⟨by omega, by omega⟩ ?_
  refine wp_aload_n dL_law_1206 rfl rfl ?_
  refine wp_iload_n dL_law_1207 rfl rfl ?_
  refine wp_iconst (v := (nI 2)) dL_law_1208 (by decide +kernel) ?_
  refine wp_iadd dL_law_1209 ?_
  refine wp_sldN dL_law_1210 hs (isN_add rfl rfl) ⟨by omega, by omega⟩ ?_
  refine wp_cV2 7 170 [some _, some _, some _] dL_law_1211 tX11_drift rfl (by decide) nX11_drift vX11_drift lL_133 ⟨by decide, by decide⟩ (Nat.le_of_ble_eq_true rfl) ho0 (Nat.le_of_ble_eq_true rfl) rfl ?_
  refine Wp.mono hop (fun r1 h1 hp _ _ => ?_)
  obtain ⟨hk1, hi1, hm1, v, rfl, hm⟩ := hp
  refine wp_aload_n dL_law_1214 rfl rfl ?_
  refine wp_aload_n dL_law_1215 rfl rfl ?_
  refine wp_iload_n dL_law_1216 rfl rfl ?_
  refine wp_iconst (v := (nI 1)) dL_law_1217 (by decide +kernel) ?_
  refine wp_iadd dL_law_1218 ?_
  refine wp_sldN dL_law_1219 (hk1.trans hs) (isN_add rfl rfl) ⟨by omega, by omega⟩ ?_
  refine wp_aload_n dL_law_1220 rfl rfl ?_
  refine wp_iload_n dL_law_1221 rfl rfl ?_
  refine wp_iconst (v := (nI 2)) dL_law_1222 (by decide +kernel) ?_
  refine wp_iadd dL_law_1223 ?_
  refine wp_sldN dL_law_1224 (hk1.trans hs) (isN_add rfl rfl) ⟨by omega, by omega⟩ ?_
  refine wp_cV2 9 220 [some _, some _, some _] dL_law_1225 tX12_drift rfl (by decide) nX12_drift vX12_drift lL_136 ⟨by decide, by decide⟩ (Nat.le_of_ble_eq_true rfl) hm1 (Nat.le_of_ble_eq_true rfl) rfl ?_
  rw [hi1]
  refine Wp.mono hm (fun r2 h2 hp _ _ => ?_)
  obtain ⟨rfl, hI2⟩ := hp
  refine wp_icmp_eq dL_law_1228 (fun c1 => ?_) (fun c1 => absurd rfl c1)
  exact hcont h2 hI2
set_option maxRecDepth 20000 in
theorem law_op29 {L c : Nat} {h : mH} {Q : Option Value → mH → Prop} {I : mH → Prop} (hL : L ≤ 3584) (hc : 7 * c + 7 ≤ L) (ho0 : hO h 0 11) (hs : hK h scrA = (99, L)) (hop : Op2 mX11_strange mX12_strange 7 170 9 220 [some (.ref 0), some (.int (hI h scrA (7 * c + 1))), none, none, none] [some (.ref 153), some (.int (hI h scrA (7 * c + 1))), none, none] I h) (hcont : ∀ h2, I h2 → Wp mLaw 13 554 1503 [some (.ref scrA), some (.ref 0), some (.ref 153), some (.int (nI (7 * c)))] [] h2 Q) : Wp mLaw 13 554 1233 [some (.ref scrA), some (.ref 0), some (.ref 153), some (.int (nI (7 * c)))] [] h Q := by
  refine wp_aload_n dL_law_1233 rfl rfl ?_
  refine wp_aload_n dL_law_1234 rfl rfl ?_
  refine wp_iload_n dL_law_1235 rfl rfl ?_
  refine wp_iconst (v := (nI 1)) dL_law_1236 (by decide +kernel) ?_
  refine wp_iadd dL_law_1237 ?_
  refine wp_sldN dL_law_1238 hs (isN_add rfl rfl) ⟨by omega, by omega⟩ ?_
  refine wp_cV1 7 170 [some _, some _, none, none, none] dL_law_1239 tX11_strange rfl (by decide) nX11_strange vX11_strange lL_137 ⟨by decide, by decide⟩ (Nat.le_of_ble_eq_true rfl) ho0 (Nat.le_of_ble_eq_true rfl) rfl ?_
  refine Wp.mono hop (fun r1 h1 hp _ _ => ?_)
  obtain ⟨hk1, hi1, hm1, v, rfl, hm⟩ := hp
  refine wp_aload_n dL_law_1242 rfl rfl ?_
  refine wp_aload_n dL_law_1243 rfl rfl ?_
  refine wp_iload_n dL_law_1244 rfl rfl ?_
  refine wp_iconst (v := (nI 1)) dL_law_1245 (by decide +kernel) ?_
  refine wp_iadd dL_law_1246 ?_
  refine wp_sldN dL_law_1247 (hk1.trans hs) (isN_add rfl rfl) ⟨by omega, by omega⟩ ?_
  refine wp_cV1 9 220 [some _, some _, none, none] dL_law_1248 tX12_strange rfl (by decide) nX12_strange vX12_strange lL_140 ⟨by decide, by decide⟩ (Nat.le_of_ble_eq_true rfl) hm1 (Nat.le_of_ble_eq_true rfl) rfl ?_
  rw [hi1]
  refine Wp.mono hm (fun r2 h2 hp _ _ => ?_)
  obtain ⟨rfl, hI2⟩ := hp
  refine wp_icmp_eq dL_law_1251 (fun c1 => ?_) (fun c1 => absurd rfl c1)
  exact hcont h2 hI2
set_option maxRecDepth 20000 in
theorem law_op30 {L c : Nat} {h : mH} {Q : Option Value → mH → Prop} {I : mH → Prop} (hL : L ≤ 3584) (hc : 7 * c + 7 ≤ L) (ho0 : hO h 0 11) (hs : hK h scrA = (99, L)) (hop : Op2 mX11_sturdy mX12_sturdy 7 168 8 198 [some (.ref 0), some (.int (hI h scrA (7 * c + 1))), some (.int (hI h scrA (7 * c + 2))), none, none, none, none] [some (.ref 153), some (.int (hI h scrA (7 * c + 1))), some (.int (hI h scrA (7 * c + 2))), none, none, none, none, none] I h) (hcont : ∀ h2, I h2 → Wp mLaw 13 554 1503 [some (.ref scrA), some (.ref 0), some (.ref 153), some (.int (nI (7 * c)))] [] h2 Q) : Wp mLaw 13 554 1256 [some (.ref scrA), some (.ref 0), some (.ref 153), some (.int (nI (7 * c)))] [] h Q := by
  refine wp_aload_n dL_law_1256 rfl rfl ?_
  refine wp_aload_n dL_law_1257 rfl rfl ?_
  refine wp_iload_n dL_law_1258 rfl rfl ?_
  refine wp_iconst (v := (nI 1)) dL_law_1259 (by decide +kernel) ?_
  refine wp_iadd dL_law_1260 ?_
  refine wp_sldN dL_law_1261 hs (isN_add rfl rfl) ⟨by omega, by omega⟩ ?_
  refine wp_aload_n dL_law_1262 rfl rfl ?_
  refine wp_iload_n dL_law_1263 rfl rfl ?_
  refine wp_iconst (v := (nI 2)) dL_law_1264 (by decide +kernel) ?_
  refine wp_iadd dL_law_1265 ?_
  refine wp_sldN dL_law_1266 hs (isN_add rfl rfl) ⟨by omega, by omega⟩ ?_
  refine wp_cV2 7 168 [some _, some _, some _, none, none, none, none] dL_law_1267 tX11_sturdy rfl (by decide) nX11_sturdy vX11_sturdy lL_141 ⟨by decide, by decide⟩ (Nat.le_of_ble_eq_true rfl) ho0 (Nat.le_of_ble_eq_true rfl) rfl ?_
  refine Wp.mono hop (fun r1 h1 hp _ _ => ?_)
  obtain ⟨hk1, hi1, hm1, v, rfl, hm⟩ := hp
  refine wp_aload_n dL_law_1270 rfl rfl ?_
  refine wp_aload_n dL_law_1271 rfl rfl ?_
  refine wp_iload_n dL_law_1272 rfl rfl ?_
  refine wp_iconst (v := (nI 1)) dL_law_1273 (by decide +kernel) ?_
  refine wp_iadd dL_law_1274 ?_
  refine wp_sldN dL_law_1275 (hk1.trans hs) (isN_add rfl rfl) ⟨by omega, by omega⟩ ?_
  refine wp_aload_n dL_law_1276 rfl rfl ?_
  refine wp_iload_n dL_law_1277 rfl rfl ?_
  refine wp_iconst (v := (nI 2)) dL_law_1278 (by decide +kernel) ?_
  refine wp_iadd dL_law_1279 ?_
  refine wp_sldN dL_law_1280 (hk1.trans hs) (isN_add rfl rfl) ⟨by omega, by omega⟩ ?_
  refine wp_cV2 8 198 [some _, some _, some _, none, none, none, none, none] dL_law_1281 tX12_sturdy rfl (by decide) nX12_sturdy vX12_sturdy lL_144 ⟨by decide, by decide⟩ (Nat.le_of_ble_eq_true rfl) hm1 (Nat.le_of_ble_eq_true rfl) rfl ?_
  rw [hi1]
  refine Wp.mono hm (fun r2 h2 hp _ _ => ?_)
  obtain ⟨rfl, hI2⟩ := hp
  refine wp_icmp_eq dL_law_1284 (fun c1 => ?_) (fun c1 => absurd rfl c1)
  exact hcont h2 hI2
set_option maxRecDepth 20000 in
theorem law_op31 {L c : Nat} {h : mH} {Q : Option Value → mH → Prop} {I : mH → Prop} (hL : L ≤ 3584) (hc : 7 * c + 7 ≤ L) (ho0 : hO h 0 11) (hs : hK h scrA = (99, L)) (hop : Op2 mX11_right mX12_right 5 119 6 151 [some (.ref 0), some (.int (hI h scrA (7 * c + 1))), none, none, none, none, none] [some (.ref 153), some (.int (hI h scrA (7 * c + 1))), none, none] I h) (hcont : ∀ h2, I h2 → Wp mLaw 13 554 1503 [some (.ref scrA), some (.ref 0), some (.ref 153), some (.int (nI (7 * c)))] [] h2 Q) : Wp mLaw 13 554 1289 [some (.ref scrA), some (.ref 0), some (.ref 153), some (.int (nI (7 * c)))] [] h Q := by
  refine wp_aload_n dL_law_1289 rfl rfl ?_
  refine wp_aload_n dL_law_1290 rfl rfl ?_
  refine wp_iload_n dL_law_1291 rfl rfl ?_
  refine wp_iconst (v := (nI 1)) dL_law_1292 (by decide +kernel) ?_
  refine wp_iadd dL_law_1293 ?_
  refine wp_sldN dL_law_1294 hs (isN_add rfl rfl) ⟨by omega, by omega⟩ ?_
  refine wp_cV1 5 119 [some _, some _, none, none, none, none, none] dL_law_1295 tX11_right rfl (by decide) nX11_right vX11_right lL_145 ⟨by decide, by decide⟩ (Nat.le_of_ble_eq_true rfl) ho0 (Nat.le_of_ble_eq_true rfl) rfl ?_
  refine Wp.mono hop (fun r1 h1 hp _ _ => ?_)
  obtain ⟨hk1, hi1, hm1, v, rfl, hm⟩ := hp
  refine wp_aload_n dL_law_1298 rfl rfl ?_
  refine wp_aload_n dL_law_1299 rfl rfl ?_
  refine wp_iload_n dL_law_1300 rfl rfl ?_
  refine wp_iconst (v := (nI 1)) dL_law_1301 (by decide +kernel) ?_
  refine wp_iadd dL_law_1302 ?_
  refine wp_sldN dL_law_1303 (hk1.trans hs) (isN_add rfl rfl) ⟨by omega, by omega⟩ ?_
  refine wp_cV1 6 151 [some _, some _, none, none] dL_law_1304 tX12_right rfl (by decide) nX12_right vX12_right lL_148 ⟨by decide, by decide⟩ (Nat.le_of_ble_eq_true rfl) hm1 (Nat.le_of_ble_eq_true rfl) rfl ?_
  rw [hi1]
  refine Wp.mono hm (fun r2 h2 hp _ _ => ?_)
  obtain ⟨rfl, hI2⟩ := hp
  refine wp_icmp_eq dL_law_1307 (fun c1 => ?_) (fun c1 => absurd rfl c1)
  exact hcont h2 hI2
set_option maxRecDepth 20000 in
theorem law_op32 {L c : Nat} {h : mH} {Q : Option Value → mH → Prop} {I : mH → Prop} (hL : L ≤ 3584) (hc : 7 * c + 7 ≤ L) (ho0 : hO h 0 11) (hs : hK h scrA = (99, L)) (hop : Op2 mX11_enough mX12_enough 7 185 7 178 [some (.ref 0), some (.int (hI h scrA (7 * c + 1))), none, none, none, none, none] [some (.ref 153), some (.int (hI h scrA (7 * c + 1))), none, none, none, none, none] I h) (hcont : ∀ h2, I h2 → Wp mLaw 13 554 1503 [some (.ref scrA), some (.ref 0), some (.ref 153), some (.int (nI (7 * c)))] [] h2 Q) : Wp mLaw 13 554 1312 [some (.ref scrA), some (.ref 0), some (.ref 153), some (.int (nI (7 * c)))] [] h Q := by
  refine wp_aload_n dL_law_1312 rfl rfl ?_
  refine wp_aload_n dL_law_1313 rfl rfl ?_
  refine wp_iload_n dL_law_1314 rfl rfl ?_
  refine wp_iconst (v := (nI 1)) dL_law_1315 (by decide +kernel) ?_
  refine wp_iadd dL_law_1316 ?_
  refine wp_sldN dL_law_1317 hs (isN_add rfl rfl) ⟨by omega, by omega⟩ ?_
  refine wp_cV1 7 185 [some _, some _, none, none, none, none, none] dL_law_1318 tX11_enough rfl (by decide) nX11_enough vX11_enough lL_149 ⟨by decide, by decide⟩ (Nat.le_of_ble_eq_true rfl) ho0 (Nat.le_of_ble_eq_true rfl) rfl ?_
  refine Wp.mono hop (fun r1 h1 hp _ _ => ?_)
  obtain ⟨hk1, hi1, hm1, v, rfl, hm⟩ := hp
  refine wp_aload_n dL_law_1321 rfl rfl ?_
  refine wp_aload_n dL_law_1322 rfl rfl ?_
  refine wp_iload_n dL_law_1323 rfl rfl ?_
  refine wp_iconst (v := (nI 1)) dL_law_1324 (by decide +kernel) ?_
  refine wp_iadd dL_law_1325 ?_
  refine wp_sldN dL_law_1326 (hk1.trans hs) (isN_add rfl rfl) ⟨by omega, by omega⟩ ?_
  refine wp_cV1 7 178 [some _, some _, none, none, none, none, none] dL_law_1327 tX12_enough rfl (by decide) nX12_enough vX12_enough lL_152 ⟨by decide, by decide⟩ (Nat.le_of_ble_eq_true rfl) hm1 (Nat.le_of_ble_eq_true rfl) rfl ?_
  rw [hi1]
  refine Wp.mono hm (fun r2 h2 hp _ _ => ?_)
  obtain ⟨rfl, hI2⟩ := hp
  refine wp_icmp_eq dL_law_1330 (fun c1 => ?_) (fun c1 => absurd rfl c1)
  exact hcont h2 hI2
set_option maxRecDepth 20000 in
theorem law_op33 {L c : Nat} {h : mH} {Q : Option Value → mH → Prop} {I : mH → Prop} (hL : L ≤ 3584) (hc : 7 * c + 7 ≤ L) (ho0 : hO h 0 11) (hs : hK h scrA = (99, L)) (hop : Op2 mX11_opinion mX12_opinion 8 210 9 222 [some (.ref 0), some (.int (hI h scrA (7 * c + 1))), some (.int (hI h scrA (7 * c + 2))), some (.int (hI h scrA (7 * c + 3))), none] [some (.ref 153), some (.int (hI h scrA (7 * c + 1))), some (.int (hI h scrA (7 * c + 2))), some (.int (hI h scrA (7 * c + 3))), none, none, none] I h) (hcont : ∀ h2, I h2 → Wp mLaw 13 554 1503 [some (.ref scrA), some (.ref 0), some (.ref 153), some (.int (nI (7 * c)))] [] h2 Q) : Wp mLaw 13 554 1335 [some (.ref scrA), some (.ref 0), some (.ref 153), some (.int (nI (7 * c)))] [] h Q := by
  refine wp_aload_n dL_law_1335 rfl rfl ?_
  refine wp_aload_n dL_law_1336 rfl rfl ?_
  refine wp_iload_n dL_law_1337 rfl rfl ?_
  refine wp_iconst (v := (nI 1)) dL_law_1338 (by decide +kernel) ?_
  refine wp_iadd dL_law_1339 ?_
  refine wp_sldN dL_law_1340 hs (isN_add rfl rfl) ⟨by omega, by omega⟩ ?_
  refine wp_aload_n dL_law_1341 rfl rfl ?_
  refine wp_iload_n dL_law_1342 rfl rfl ?_
  refine wp_iconst (v := (nI 2)) dL_law_1343 (by decide +kernel) ?_
  refine wp_iadd dL_law_1344 ?_
  refine wp_sldN dL_law_1345 hs (isN_add rfl rfl) ⟨by omega, by omega⟩ ?_
  refine wp_aload_n dL_law_1346 rfl rfl ?_
  refine wp_iload_n dL_law_1347 rfl rfl ?_
  refine wp_iconst (v := (nI 3)) dL_law_1348 (by decide +kernel) ?_
  refine wp_iadd dL_law_1349 ?_
  refine wp_sldN dL_law_1350 hs (isN_add rfl rfl) ⟨by omega, by omega⟩ ?_
  refine wp_cV3 8 210 [some _, some _, some _, some _, none] dL_law_1351 tX11_opinion rfl (by decide) nX11_opinion vX11_opinion lL_153 ⟨by decide, by decide⟩ (Nat.le_of_ble_eq_true rfl) ho0 (Nat.le_of_ble_eq_true rfl) rfl ?_
  refine Wp.mono hop (fun r1 h1 hp _ _ => ?_)
  obtain ⟨hk1, hi1, hm1, v, rfl, hm⟩ := hp
  refine wp_aload_n dL_law_1354 rfl rfl ?_
  refine wp_aload_n dL_law_1355 rfl rfl ?_
  refine wp_iload_n dL_law_1356 rfl rfl ?_
  refine wp_iconst (v := (nI 1)) dL_law_1357 (by decide +kernel) ?_
  refine wp_iadd dL_law_1358 ?_
  refine wp_sldN dL_law_1359 (hk1.trans hs) (isN_add rfl rfl) ⟨by omega, by omega⟩ ?_
  refine wp_aload_n dL_law_1360 rfl rfl ?_
  refine wp_iload_n dL_law_1361 rfl rfl ?_
  refine wp_iconst (v := (nI 2)) dL_law_1362 (by decide +kernel) ?_
  refine wp_iadd dL_law_1363 ?_
  refine wp_sldN dL_law_1364 (hk1.trans hs) (isN_add rfl rfl) ⟨by omega, by omega⟩ ?_
  refine wp_aload_n dL_law_1365 rfl rfl ?_
  refine wp_iload_n dL_law_1366 rfl rfl ?_
  refine wp_iconst (v := (nI 3)) dL_law_1367 (by decide +kernel) ?_
  refine wp_iadd dL_law_1368 ?_
  refine wp_sldN dL_law_1369 (hk1.trans hs) (isN_add rfl rfl) ⟨by omega, by omega⟩ ?_
  refine wp_cV3 9 222 [some _, some _, some _, some _, none, none, none] dL_law_1370 tX12_opinion rfl (by decide) nX12_opinion vX12_opinion lL_156 ⟨by decide, by decide⟩ (Nat.le_of_ble_eq_true rfl) hm1 (Nat.le_of_ble_eq_true rfl) rfl ?_
  rw [hi1]
  refine Wp.mono hm (fun r2 h2 hp _ _ => ?_)
  obtain ⟨rfl, hI2⟩ := hp
  refine wp_icmp_eq dL_law_1373 (fun c1 => ?_) (fun c1 => absurd rfl c1)
  exact hcont h2 hI2
set_option maxRecDepth 20000 in
theorem law_op34 {L c : Nat} {h : mH} {Q : Option Value → mH → Prop} {I : mH → Prop} (hL : L ≤ 3584) (hc : 7 * c + 7 ≤ L) (ho0 : hO h 0 11) (hs : hK h scrA = (99, L)) (hop : Op2 mX11_next mX12_next 8 210 9 222 [some (.ref 0), some (.int (hI h scrA (7 * c + 1))), none, none, none, none] [some (.ref 153), some (.int (hI h scrA (7 * c + 1))), none, none, none] I h) (hcont : ∀ h2, I h2 → Wp mLaw 13 554 1503 [some (.ref scrA), some (.ref 0), some (.ref 153), some (.int (nI (7 * c)))] [] h2 Q) : Wp mLaw 13 554 1378 [some (.ref scrA), some (.ref 0), some (.ref 153), some (.int (nI (7 * c)))] [] h Q := by
  refine wp_aload_n dL_law_1378 rfl rfl ?_
  refine wp_aload_n dL_law_1379 rfl rfl ?_
  refine wp_iload_n dL_law_1380 rfl rfl ?_
  refine wp_iconst (v := (nI 1)) dL_law_1381 (by decide +kernel) ?_
  refine wp_iadd dL_law_1382 ?_
  refine wp_sldN dL_law_1383 hs (isN_add rfl rfl) ⟨by omega, by omega⟩ ?_
  refine wp_cV1 8 210 [some _, some _, none, none, none, none] dL_law_1384 tX11_next rfl (by decide) nX11_next vX11_next lL_157 ⟨by decide, by decide⟩ (Nat.le_of_ble_eq_true rfl) ho0 (Nat.le_of_ble_eq_true rfl) rfl ?_
  refine Wp.mono hop (fun r1 h1 hp _ _ => ?_)
  obtain ⟨hk1, hi1, hm1, v, rfl, hm⟩ := hp
  refine wp_aload_n dL_law_1387 rfl rfl ?_
  refine wp_aload_n dL_law_1388 rfl rfl ?_
  refine wp_iload_n dL_law_1389 rfl rfl ?_
  refine wp_iconst (v := (nI 1)) dL_law_1390 (by decide +kernel) ?_
  refine wp_iadd dL_law_1391 ?_
  refine wp_sldN dL_law_1392 (hk1.trans hs) (isN_add rfl rfl) ⟨by omega, by omega⟩ ?_
  refine wp_cV1 9 222 [some _, some _, none, none, none] dL_law_1393 tX12_next rfl (by decide) nX12_next vX12_next lL_160 ⟨by decide, by decide⟩ (Nat.le_of_ble_eq_true rfl) hm1 (Nat.le_of_ble_eq_true rfl) rfl ?_
  rw [hi1]
  refine Wp.mono hm (fun r2 h2 hp _ _ => ?_)
  obtain ⟨rfl, hI2⟩ := hp
  refine wp_icmp_eq dL_law_1396 (fun c1 => ?_) (fun c1 => absurd rfl c1)
  exact hcont h2 hI2
set_option maxRecDepth 20000 in
theorem law_op35 {L c : Nat} {h : mH} {Q : Option Value → mH → Prop} {I : mH → Prop} (hL : L ≤ 3584) (hc : 7 * c + 7 ≤ L) (ho0 : hO h 0 11) (hs : hK h scrA = (99, L)) (hop : Op2 mX11_without mX12_without 7 185 7 178 [some (.ref 0), some (.int (hI h scrA (7 * c + 1))), some (.int (hI h scrA (7 * c + 2))), none] [some (.ref 153), some (.int (hI h scrA (7 * c + 1))), some (.int (hI h scrA (7 * c + 2))), none] I h) (hcont : ∀ h2, I h2 → Wp mLaw 13 554 1503 [some (.ref scrA), some (.ref 0), some (.ref 153), some (.int (nI (7 * c)))] [] h2 Q) : Wp mLaw 13 554 1401 [some (.ref scrA), some (.ref 0), some (.ref 153), some (.int (nI (7 * c)))] [] h Q := by
  refine wp_aload_n dL_law_1401 rfl rfl ?_
  refine wp_aload_n dL_law_1402 rfl rfl ?_
  refine wp_iload_n dL_law_1403 rfl rfl ?_
  refine wp_iconst (v := (nI 1)) dL_law_1404 (by decide +kernel) ?_
  refine wp_iadd dL_law_1405 ?_
  refine wp_sldN dL_law_1406 hs (isN_add rfl rfl) ⟨by omega, by omega⟩ ?_
  refine wp_aload_n dL_law_1407 rfl rfl ?_
  refine wp_iload_n dL_law_1408 rfl rfl ?_
  refine wp_iconst (v := (nI 2)) dL_law_1409 (by decide +kernel) ?_
  refine wp_iadd dL_law_1410 ?_
  refine wp_sldN dL_law_1411 hs (isN_add rfl rfl) ⟨by omega, by omega⟩ ?_
  refine wp_cV2 7 185 [some _, some _, some _, none] dL_law_1412 tX11_without rfl (by decide) nX11_without vX11_without lL_161 ⟨by decide, by decide⟩ (Nat.le_of_ble_eq_true rfl) ho0 (Nat.le_of_ble_eq_true rfl) rfl ?_
  refine Wp.mono hop (fun r1 h1 hp _ _ => ?_)
  obtain ⟨hk1, hi1, hm1, v, rfl, hm⟩ := hp
  refine wp_aload_n dL_law_1415 rfl rfl ?_
  refine wp_aload_n dL_law_1416 rfl rfl ?_
  refine wp_iload_n dL_law_1417 rfl rfl ?_
  refine wp_iconst (v := (nI 1)) dL_law_1418 (by decide +kernel) ?_
  refine wp_iadd dL_law_1419 ?_
  refine wp_sldN dL_law_1420 (hk1.trans hs) (isN_add rfl rfl) ⟨by omega, by omega⟩ ?_
  refine wp_aload_n dL_law_1421 rfl rfl ?_
  refine wp_iload_n dL_law_1422 rfl rfl ?_
  refine wp_iconst (v := (nI 2)) dL_law_1423 (by decide +kernel) ?_
  refine wp_iadd dL_law_1424 ?_
  refine wp_sldN dL_law_1425 (hk1.trans hs) (isN_add rfl rfl) ⟨by omega, by omega⟩ ?_
  refine wp_cV2 7 178 [some _, some _, some _, none] dL_law_1426 tX12_without rfl (by decide) nX12_without vX12_without lL_164 ⟨by decide, by decide⟩ (Nat.le_of_ble_eq_true rfl) hm1 (Nat.le_of_ble_eq_true rfl) rfl ?_
  rw [hi1]
  refine Wp.mono hm (fun r2 h2 hp _ _ => ?_)
  obtain ⟨rfl, hI2⟩ := hp
  refine wp_icmp_eq dL_law_1429 (fun c1 => ?_) (fun c1 => absurd rfl c1)
  exact hcont h2 hI2
set_option maxRecDepth 20000 in
theorem law_op36 {L c : Nat} {h : mH} {Q : Option Value → mH → Prop} {I : mH → Prop} (hL : L ≤ 3584) (hc : 7 * c + 7 ≤ L) (ho0 : hO h 0 11) (hs : hK h scrA = (99, L)) (hop : Op2 mX11_image mX12_image 3 63 3 66 [some (.ref 0), some (.int (hI h scrA (7 * c + 1))), none] [some (.ref 153), some (.int (hI h scrA (7 * c + 1))), none] I h) (hcont : ∀ h2, I h2 → Wp mLaw 13 554 1503 [some (.ref scrA), some (.ref 0), some (.ref 153), some (.int (nI (7 * c)))] [] h2 Q) : Wp mLaw 13 554 1434 [some (.ref scrA), some (.ref 0), some (.ref 153), some (.int (nI (7 * c)))] [] h Q := by
  refine wp_aload_n dL_law_1434 rfl rfl ?_
  refine wp_aload_n dL_law_1435 rfl rfl ?_
  refine wp_iload_n dL_law_1436 rfl rfl ?_
  refine wp_iconst (v := (nI 1)) dL_law_1437 (by decide +kernel) ?_
  refine wp_iadd dL_law_1438 ?_
  refine wp_sldN dL_law_1439 hs (isN_add rfl rfl) ⟨by omega, by omega⟩ ?_
  refine wp_cV1 3 63 [some _, some _, none] dL_law_1440 tX11_image rfl (by decide) nX11_image vX11_image lL_165 ⟨by decide, by decide⟩ (Nat.le_of_ble_eq_true rfl) ho0 (Nat.le_of_ble_eq_true rfl) rfl ?_
  refine Wp.mono hop (fun r1 h1 hp _ _ => ?_)
  obtain ⟨hk1, hi1, hm1, v, rfl, hm⟩ := hp
  refine wp_aload_n dL_law_1443 rfl rfl ?_
  refine wp_aload_n dL_law_1444 rfl rfl ?_
  refine wp_iload_n dL_law_1445 rfl rfl ?_
  refine wp_iconst (v := (nI 1)) dL_law_1446 (by decide +kernel) ?_
  refine wp_iadd dL_law_1447 ?_
  refine wp_sldN dL_law_1448 (hk1.trans hs) (isN_add rfl rfl) ⟨by omega, by omega⟩ ?_
  refine wp_cV1 3 66 [some _, some _, none] dL_law_1449 tX12_image rfl (by decide) nX12_image vX12_image lL_168 ⟨by decide, by decide⟩ (Nat.le_of_ble_eq_true rfl) hm1 (Nat.le_of_ble_eq_true rfl) rfl ?_
  rw [hi1]
  refine Wp.mono hm (fun r2 h2 hp _ _ => ?_)
  obtain ⟨rfl, hI2⟩ := hp
  refine wp_icmp_eq dL_law_1452 (fun c1 => ?_) (fun c1 => absurd rfl c1)
  exact hcont h2 hI2
set_option maxRecDepth 20000 in
theorem law_op37 {L c : Nat} {h : mH} {Q : Option Value → mH → Prop} {I : mH → Prop} (hL : L ≤ 3584) (hc : 7 * c + 7 ≤ L) (ho0 : hO h 0 11) (hs : hK h scrA = (99, L)) (hop : Op2 mX11_back mX12_back 4 84 3 66 [some (.ref 0), some (.int (hI h scrA (7 * c + 1)))] [some (.ref 153), some (.int (hI h scrA (7 * c + 1))), none] I h) (hcont : ∀ h2, I h2 → Wp mLaw 13 554 1503 [some (.ref scrA), some (.ref 0), some (.ref 153), some (.int (nI (7 * c)))] [] h2 Q) : Wp mLaw 13 554 1457 [some (.ref scrA), some (.ref 0), some (.ref 153), some (.int (nI (7 * c)))] [] h Q := by
  refine wp_aload_n dL_law_1457 rfl rfl ?_
  refine wp_aload_n dL_law_1458 rfl rfl ?_
  refine wp_iload_n dL_law_1459 rfl rfl ?_
  refine wp_iconst (v := (nI 1)) dL_law_1460 (by decide +kernel) ?_
  refine wp_iadd dL_law_1461 ?_
  refine wp_sldN dL_law_1462 hs (isN_add rfl rfl) ⟨by omega, by omega⟩ ?_
  refine wp_cV1 4 84 [some _, some _] dL_law_1463 tX11_back rfl (by decide) nX11_back vX11_back lL_169 ⟨by decide, by decide⟩ (Nat.le_of_ble_eq_true rfl) ho0 (Nat.le_of_ble_eq_true rfl) rfl ?_
  refine Wp.mono hop (fun r1 h1 hp _ _ => ?_)
  obtain ⟨hk1, hi1, hm1, v, rfl, hm⟩ := hp
  refine wp_aload_n dL_law_1466 rfl rfl ?_
  refine wp_aload_n dL_law_1467 rfl rfl ?_
  refine wp_iload_n dL_law_1468 rfl rfl ?_
  refine wp_iconst (v := (nI 1)) dL_law_1469 (by decide +kernel) ?_
  refine wp_iadd dL_law_1470 ?_
  refine wp_sldN dL_law_1471 (hk1.trans hs) (isN_add rfl rfl) ⟨by omega, by omega⟩ ?_
  refine wp_cV1 3 66 [some _, some _, none] dL_law_1472 tX12_back rfl (by decide) nX12_back vX12_back lL_172 ⟨by decide, by decide⟩ (Nat.le_of_ble_eq_true rfl) hm1 (Nat.le_of_ble_eq_true rfl) rfl ?_
  rw [hi1]
  refine Wp.mono hm (fun r2 h2 hp _ _ => ?_)
  obtain ⟨rfl, hI2⟩ := hp
  refine wp_icmp_eq dL_law_1475 (fun c1 => ?_) (fun c1 => absurd rfl c1)
  exact hcont h2 hI2
set_option maxRecDepth 20000 in
theorem law_op38 {L c : Nat} {h : mH} {Q : Option Value → mH → Prop} {I : mH → Prop} (hL : L ≤ 3584) (hc : 7 * c + 7 ≤ L) (ho0 : hO h 0 11) (hs : hK h scrA = (99, L)) (hop : Op2 mX11_about mX12_about 3 63 5 108 [some (.ref 0), some (.int (hI h scrA (7 * c + 1))), none] [some (.ref 153), some (.int (hI h scrA (7 * c + 1)))] I h) (hcont : ∀ h2, I h2 → Wp mLaw 13 554 1503 [some (.ref scrA), some (.ref 0), some (.ref 153), some (.int (nI (7 * c)))] [] h2 Q) : Wp mLaw 13 554 1480 [some (.ref scrA), some (.ref 0), some (.ref 153), some (.int (nI (7 * c)))] [] h Q := by
  refine wp_aload_n dL_law_1480 rfl rfl ?_
  refine wp_aload_n dL_law_1481 rfl rfl ?_
  refine wp_iload_n dL_law_1482 rfl rfl ?_
  refine wp_iconst (v := (nI 1)) dL_law_1483 (by decide +kernel) ?_
  refine wp_iadd dL_law_1484 ?_
  refine wp_sldN dL_law_1485 hs (isN_add rfl rfl) ⟨by omega, by omega⟩ ?_
  refine wp_cV1 3 63 [some _, some _, none] dL_law_1486 tX11_about rfl (by decide) nX11_about vX11_about lL_173 ⟨by decide, by decide⟩ (Nat.le_of_ble_eq_true rfl) ho0 (Nat.le_of_ble_eq_true rfl) rfl ?_
  refine Wp.mono hop (fun r1 h1 hp _ _ => ?_)
  obtain ⟨hk1, hi1, hm1, v, rfl, hm⟩ := hp
  refine wp_aload_n dL_law_1489 rfl rfl ?_
  refine wp_aload_n dL_law_1490 rfl rfl ?_
  refine wp_iload_n dL_law_1491 rfl rfl ?_
  refine wp_iconst (v := (nI 1)) dL_law_1492 (by decide +kernel) ?_
  refine wp_iadd dL_law_1493 ?_
  refine wp_sldN dL_law_1494 (hk1.trans hs) (isN_add rfl rfl) ⟨by omega, by omega⟩ ?_
  refine wp_cV1 5 108 [some _, some _] dL_law_1495 tX12_about rfl (by decide) nX12_about vX12_about lL_176 ⟨by decide, by decide⟩ (Nat.le_of_ble_eq_true rfl) hm1 (Nat.le_of_ble_eq_true rfl) rfl ?_
  rw [hi1]
  refine Wp.mono hm (fun r2 h2 hp _ _ => ?_)
  obtain ⟨rfl, hI2⟩ := hp
  refine wp_icmp_eq dL_law_1498 (fun c1 => ?_) (fun c1 => absurd rfl c1)
  exact hcont h2 hI2
theorem law_cmp {L c : Nat} (hL : L ≤ 3584) (hc : 7 * c ≤ L) : (nI L - nI 7 < nI (7 * c)) ↔ L < 7 * c + 7 := by
  rw [Int32.lt_iff_toInt_lt, pk_sub_toInt (by omega) (by decide), nI_toInt (by omega)]
  omega
set_option maxRecDepth 20000 in
theorem law_loop {L : Nat} {xs : Nat → Int32} (hL : L ≤ 3584) (I : Nat → mH → Prop)
    (hbase : ∀ c h, I c h → hO h 0 11 ∧ hO h 153 12 ∧ hK h scrA = (99, L) ∧ hI h scrA = xs)
    (hend : ∀ c h, 7 * c ≤ L → I c h → hN h ≤ 600000 ∧ hU h ≤ 7302250)
    (hskip : ∀ c h, 7 * c + 7 ≤ L → I c h → I (c + 1) h)
    (op0 : ∀ (c : Nat) (h : mH) (a1 a2 a3 a4 a5 : Int32), 7 * c + 7 ≤ L → I c h → Op2 mX11_feed mX12_feed 1 22 1 22 [some (.ref 0), some (.int a1), some (.int a2), some (.int a3), some (.int a4), some (.int a5)] [some (.ref 153), some (.int a1), some (.int a2), some (.int a3), some (.int a4), some (.int a5)] (I (c + 1)) h)
    (op1 : ∀ (c : Nat) (h : mH) (a1 : Int32), 7 * c + 7 ≤ L → I c h → Op2 mX11_end mX12_end 0 0 1 22 [some (.ref 0), some (.int a1)] [some (.ref 153), some (.int a1)] (I (c + 1)) h)
    (op2 : ∀ (c : Nat) (h : mH), 7 * c + 7 ≤ L → I c h → Op2 mX11_book mX12_book 6 132 4 91 [some (.ref 0), none, none, none] [some (.ref 153), none] (I (c + 1)) h)
    (op3 : ∀ (c : Nat) (h : mH), 7 * c + 7 ≤ L → I c h → Op2 mX11_page mX12_page 5 106 3 65 [some (.ref 0), none, none] [some (.ref 153), none] (I (c + 1)) h)
    (op4 : ∀ (c : Nat) (h : mH) (a1 : Int32), 7 * c + 7 ≤ L → I c h → Op2 mX11_fault mX12_fault 0 0 0 0 [some (.ref 0), some (.int a1)] [some (.ref 153), some (.int a1)] (I (c + 1)) h)
    (op5 : ∀ (c : Nat) (h : mH) (a1 a2 : Int32), 7 * c + 7 ≤ L → I c h → Op2 mX11_field mX12_field 3 66 3 66 [some (.ref 0), some (.int a1), some (.int a2), none, none] [some (.ref 153), some (.int a1), some (.int a2)] (I (c + 1)) h)
    (op6 : ∀ (c : Nat) (h : mH) (a1 : Int32), 7 * c + 7 ≤ L → I c h → Op2 mX11_tokens mX12_tokens 3 63 2 43 [some (.ref 0), some (.int a1), none] [some (.ref 153), some (.int a1)] (I (c + 1)) h)
    (op7 : ∀ (c : Nat) (h : mH) (a1 a2 a3 : Int32), 7 * c + 7 ≤ L → I c h → Op2 mX11_token mX12_token 3 63 4 88 [some (.ref 0), some (.int a1), some (.int a2), some (.int a3), none] [some (.ref 153), some (.int a1), some (.int a2), some (.int a3)] (I (c + 1)) h)
    (op8 : ∀ (c : Nat) (h : mH) (a1 a2 a3 a4 : Int32), 7 * c + 7 ≤ L → I c h → Op2 mX11_mark mX12_mark 4 85 3 69 [some (.ref 0), some (.int a1), some (.int a2), some (.int a3), some (.int a4), none, none, none, none] [some (.ref 153), some (.int a1), some (.int a2), some (.int a3), some (.int a4), none, none] (I (c + 1)) h)
    (op9 : ∀ (c : Nat) (h : mH) (a1 a2 : Int32), 7 * c + 7 ≤ L → I c h → Op2 mX11_unmark mX12_unmark 4 85 2 43 [some (.ref 0), some (.int a1), some (.int a2), none, none, none, none, none] [some (.ref 153), some (.int a1), some (.int a2), none, none, none] (I (c + 1)) h)
    (op10 : ∀ (c : Nat) (h : mH) (a1 : Int32), 7 * c + 7 ≤ L → I c h → Op2 mX11_learn mX12_learn 8 208 9 224 [some (.ref 0), some (.int a1)] [some (.ref 153), some (.int a1)] (I (c + 1)) h)
    (op11 : ∀ (c : Nat) (h : mH) (a1 a2 : Int32), 7 * c + 7 ≤ L → I c h → Op2 mX11_take mX12_take 9 233 10 246 [some (.ref 0), some (.int a1), some (.int a2), none, none, none, none, none, none, none] [some (.ref 153), some (.int a1), some (.int a2), none, none] (I (c + 1)) h)
    (op12 : ∀ (c : Nat) (h : mH), 7 * c + 7 ≤ L → I c h → Op2 mX11_undo mX12_undo 2 41 1 24 [some (.ref 0), none] [some (.ref 153)] (I (c + 1)) h)
    (op13 : ∀ (c : Nat) (h : mH), 7 * c + 7 ≤ L → I c h → Op2 mX11_redo mX12_redo 2 41 1 24 [some (.ref 0), none] [some (.ref 153)] (I (c + 1)) h)
    (op14 : ∀ (c : Nat) (h : mH) (a1 a2 a3 a4 : Int32), 7 * c + 7 ≤ L → I c h → Op2 mX11_marked mX12_marked 4 93 2 44 [some (.ref 0), some (.int a1), some (.int a2), some (.int a3), some (.int a4), none, none] [some (.ref 153), some (.int a1), some (.int a2), some (.int a3), some (.int a4)] (I (c + 1)) h)
    (op15 : ∀ (c : Nat) (h : mH) (a1 a2 a3 : Int32), 7 * c + 7 ≤ L → I c h → Op2 mX11_rule mX12_rule 3 63 2 43 [some (.ref 0), some (.int a1), some (.int a2), some (.int a3), none] [some (.ref 153), some (.int a1), some (.int a2), some (.int a3), none, none] (I (c + 1)) h)
    (op16 : ∀ (c : Nat) (h : mH) (a1 a2 a3 a4 a5 a6 : Int32), 7 * c + 7 ≤ L → I c h → Op2 mX11_tries mX12_tries 4 95 6 153 [some (.ref 0), some (.int a1), some (.int a2), some (.int a3), some (.int a4), some (.int a5), some (.int a6), none, none] [some (.ref 153), some (.int a1), some (.int a2), some (.int a3), some (.int a4), some (.int a5), some (.int a6)] (I (c + 1)) h)
    (op17 : ∀ (c : Nat) (h : mH) (a1 a2 : Int32), 7 * c + 7 ≤ L → I c h → Op2 mX11_could mX12_could 7 185 7 178 [some (.ref 0), some (.int a1), some (.int a2), none] [some (.ref 153), some (.int a1), some (.int a2), none, none] (I (c + 1)) h)
    (op18 : ∀ (c : Nat) (h : mH) (a1 a2 : Int32), 7 * c + 7 ≤ L → I c h → Op2 mX11_cover mX12_cover 7 185 8 200 [some (.ref 0), some (.int a1), some (.int a2)] [some (.ref 153), some (.int a1), some (.int a2)] (I (c + 1)) h)
    (op19 : ∀ (c : Nat) (h : mH) (a1 a2 a3 : Int32), 7 * c + 7 ≤ L → I c h → Op2 mX11_covers mX12_covers 7 185 8 200 [some (.ref 0), some (.int a1), some (.int a2), some (.int a3), none, none] [some (.ref 153), some (.int a1), some (.int a2), some (.int a3), none] (I (c + 1)) h)
    (op20 : ∀ (c : Nat) (h : mH) (a1 a2 a3 : Int32), 7 * c + 7 ≤ L → I c h → Op2 mX11_contradict mX12_contradict 7 185 7 178 [some (.ref 0), some (.int a1), some (.int a2), some (.int a3), none, none] [some (.ref 153), some (.int a1), some (.int a2), some (.int a3), none] (I (c + 1)) h)
    (op21 : ∀ (c : Nat) (h : mH) (a1 : Int32), 7 * c + 7 ≤ L → I c h → Op2 mX11_stale mX12_stale 8 208 8 200 [some (.ref 0), some (.int a1), none, none] [some (.ref 153), some (.int a1), none, none] (I (c + 1)) h)
    (op22 : ∀ (c : Nat) (h : mH) (a1 a2 a3 a4 : Int32), 7 * c + 7 ≤ L → I c h → Op2 mX11_cut mX12_cut 6 146 8 198 [some (.ref 0), some (.int a1), some (.int a2), some (.int a3), some (.int a4)] [some (.ref 153), some (.int a1), some (.int a2), some (.int a3), some (.int a4)] (I (c + 1)) h)
    (op23 : ∀ (c : Nat) (h : mH) (a1 a2 : Int32), 7 * c + 7 ≤ L → I c h → Op2 mX11_by mX12_by 6 146 8 198 [some (.ref 0), some (.int a1), some (.int a2)] [some (.ref 153), some (.int a1), some (.int a2)] (I (c + 1)) h)
    (op24 : ∀ (c : Nat) (h : mH) (a1 a2 a3 : Int32), 7 * c + 7 ≤ L → I c h → Op2 mX11_letter mX12_letter 7 168 8 198 [some (.ref 0), some (.int a1), some (.int a2), some (.int a3)] [some (.ref 153), some (.int a1), some (.int a2), some (.int a3)] (I (c + 1)) h)
    (op25 : ∀ (c : Nat) (h : mH) (a1 a2 : Int32), 7 * c + 7 ≤ L → I c h → Op2 mX11_pattern mX12_pattern 3 63 2 43 [some (.ref 0), some (.int a1), some (.int a2), none] [some (.ref 153), some (.int a1), some (.int a2)] (I (c + 1)) h)
    (op26 : ∀ (c : Nat) (h : mH) (a1 a2 a3 a4 : Int32), 7 * c + 7 ≤ L → I c h → Op2 mX11_proposed mX12_proposed 9 233 10 246 [some (.ref 0), some (.int a1), some (.int a2), some (.int a3), some (.int a4), none] [some (.ref 153), some (.int a1), some (.int a2), some (.int a3), some (.int a4)] (I (c + 1)) h)
    (op27 : ∀ (c : Nat) (h : mH) (a1 a2 : Int32), 7 * c + 7 ≤ L → I c h → Op2 mX11_alike mX12_alike 7 168 8 198 [some (.ref 0), some (.int a1), some (.int a2), none, none] [some (.ref 153), some (.int a1), some (.int a2), none, none, none, none] (I (c + 1)) h)
    (op28 : ∀ (c : Nat) (h : mH) (a1 a2 : Int32), 7 * c + 7 ≤ L → I c h → Op2 mX11_drift mX12_drift 7 170 9 220 [some (.ref 0), some (.int a1), some (.int a2)] [some (.ref 153), some (.int a1), some (.int a2)] (I (c + 1)) h)
    (op29 : ∀ (c : Nat) (h : mH) (a1 : Int32), 7 * c + 7 ≤ L → I c h → Op2 mX11_strange mX12_strange 7 170 9 220 [some (.ref 0), some (.int a1), none, none, none] [some (.ref 153), some (.int a1), none, none] (I (c + 1)) h)
    (op30 : ∀ (c : Nat) (h : mH) (a1 a2 : Int32), 7 * c + 7 ≤ L → I c h → Op2 mX11_sturdy mX12_sturdy 7 168 8 198 [some (.ref 0), some (.int a1), some (.int a2), none, none, none, none] [some (.ref 153), some (.int a1), some (.int a2), none, none, none, none, none] (I (c + 1)) h)
    (op31 : ∀ (c : Nat) (h : mH) (a1 : Int32), 7 * c + 7 ≤ L → I c h → Op2 mX11_right mX12_right 5 119 6 151 [some (.ref 0), some (.int a1), none, none, none, none, none] [some (.ref 153), some (.int a1), none, none] (I (c + 1)) h)
    (op32 : ∀ (c : Nat) (h : mH) (a1 : Int32), 7 * c + 7 ≤ L → I c h → Op2 mX11_enough mX12_enough 7 185 7 178 [some (.ref 0), some (.int a1), none, none, none, none, none] [some (.ref 153), some (.int a1), none, none, none, none, none] (I (c + 1)) h)
    (op33 : ∀ (c : Nat) (h : mH) (a1 a2 a3 : Int32), 7 * c + 7 ≤ L → I c h → Op2 mX11_opinion mX12_opinion 8 210 9 222 [some (.ref 0), some (.int a1), some (.int a2), some (.int a3), none] [some (.ref 153), some (.int a1), some (.int a2), some (.int a3), none, none, none] (I (c + 1)) h)
    (op34 : ∀ (c : Nat) (h : mH) (a1 : Int32), 7 * c + 7 ≤ L → I c h → Op2 mX11_next mX12_next 8 210 9 222 [some (.ref 0), some (.int a1), none, none, none, none] [some (.ref 153), some (.int a1), none, none, none] (I (c + 1)) h)
    (op35 : ∀ (c : Nat) (h : mH) (a1 a2 : Int32), 7 * c + 7 ≤ L → I c h → Op2 mX11_without mX12_without 7 185 7 178 [some (.ref 0), some (.int a1), some (.int a2), none] [some (.ref 153), some (.int a1), some (.int a2), none] (I (c + 1)) h)
    (op36 : ∀ (c : Nat) (h : mH) (a1 : Int32), 7 * c + 7 ≤ L → I c h → Op2 mX11_image mX12_image 3 63 3 66 [some (.ref 0), some (.int a1), none] [some (.ref 153), some (.int a1), none] (I (c + 1)) h)
    (op37 : ∀ (c : Nat) (h : mH) (a1 : Int32), 7 * c + 7 ≤ L → I c h → Op2 mX11_back mX12_back 4 84 3 66 [some (.ref 0), some (.int a1)] [some (.ref 153), some (.int a1), none] (I (c + 1)) h)
    (op38 : ∀ (c : Nat) (h : mH) (a1 : Int32), 7 * c + 7 ≤ L → I c h → Op2 mX11_about mX12_about 3 63 5 108 [some (.ref 0), some (.int a1), none] [some (.ref 153), some (.int a1)] (I (c + 1)) h) :
    ∀ (n c : Nat) (h : mH), 7 * c ≤ L → L < 7 * c + n → I c h → Wp mLaw 13 554 18 [some (.ref scrA), some (.ref 0), some (.ref 153), some (.int (nI (7 * c)))] [] h (fun r h' => r = some (.int 1) ∧ hN h' ≤ 600000 ∧ hU h' ≤ 7302250) := by
  intro n
  induction n with
  | zero => intro c h h1 h2; omega
  | succ n ih =>
    intro c h h1 h2 hInv
    have hb := hbase c h hInv
    refine wp_iload_n dL_law_18 rfl rfl ?_
    refine wp_aload_n dL_law_19 rfl rfl ?_
    refine wp_slen dL_law_20 hb.2.2.1 ?_
    refine wp_bipush (v := (nI 7)) dL_law_21 (by decide +kernel) ?_
    refine wp_isub dL_law_23 ?_
    refine wp_icmp_gt dL_law_24 (fun c1 => ?_) (fun c1 => ?_)
    · refine wp_iconst (v := 1) dL_law_1509 (by decide +kernel) ?_
      exact wp_zreturn dL_law_1510 rfl (Or.inr rfl) ⟨rfl, hend c h h1 hInv⟩
    · have hc2 : 7 * c + 7 ≤ L := by
        have := fun q => c1 ((law_cmp hL h1).mpr q)
        exact Nat.le_of_not_lt this
      have hnext : ∀ h2, I (c + 1) h2 → Wp mLaw 13 554 1503 [some (.ref scrA), some (.ref 0), some (.ref 153), some (.int (nI (7 * c)))] [] h2 (fun r h' => r = some (.int 1) ∧ hN h' ≤ 600000 ∧ hU h' ≤ 7302250) := by
        intro h2 hI2
        refine wp_iinc (v := nI (7 * (c + 1))) (ls1 := [_, _, _, some _]) dL_law_1503 rfl (by rw [show (7 * (c + 1)) = 7 * c + 7 by omega, ← nI_add]; rfl) (by decide) rfl ?_
        refine wp_goto dL_law_1506 ?_
        exact ih (c + 1) h2 (by omega) (by omega) hI2
      refine wp_aload_n dL_law_27 rfl rfl ?_
      refine wp_iload_n dL_law_28 rfl rfl ?_
      refine wp_sldN dL_law_29 hb.2.2.1 rfl ⟨by omega, by omega⟩ ?_
      refine wp_bipush (v := (nI 63)) dL_law_30 (by decide +kernel) ?_
      refine wp_iand dL_law_32 ?_
      obtain ⟨j, hj, ej⟩ := pk_andE (hI h scrA (7 * c)) (m := nI 63) 6 (by decide +kernel)
      match j, hj, ej with
      | 0, _, ej => rw [ej]; exact wp_tableIn (off := 171) (t := 204) dL_law_33 (by decide +kernel) (by decide +kernel) (by decide +kernel) (by decide) (law_op0 hL hc2 hb.1 hb.2.2.1 (op0 c h _ _ _ _ _ hc2 hInv) hnext)
      | 1, _, ej => rw [ej]; exact wp_tableIn (off := 234) (t := 267) dL_law_33 (by decide +kernel) (by decide +kernel) (by decide +kernel) (by decide) (law_op1 hL hc2 hb.1 hb.2.2.1 (op1 c h _ hc2 hInv) hnext)
      | 2, _, ej => rw [ej]; exact wp_tableIn (off := 257) (t := 290) dL_law_33 (by decide +kernel) (by decide +kernel) (by decide +kernel) (by decide) (law_op2 hL hc2 hb.1 hb.2.2.1 (op2 c h hc2 hInv) hnext)
      | 3, _, ej => rw [ej]; exact wp_tableIn (off := 270) (t := 303) dL_law_33 (by decide +kernel) (by decide +kernel) (by decide +kernel) (by decide) (law_op3 hL hc2 hb.1 hb.2.2.1 (op3 c h hc2 hInv) hnext)
      | 4, _, ej => rw [ej]; exact wp_tableIn (off := 283) (t := 316) dL_law_33 (by decide +kernel) (by decide +kernel) (by decide +kernel) (by decide) (law_op4 hL hc2 hb.1 hb.2.2.1 (op4 c h _ hc2 hInv) hnext)
      | 5, _, ej => rw [ej]; exact wp_tableIn (off := 306) (t := 339) dL_law_33 (by decide +kernel) (by decide +kernel) (by decide +kernel) (by decide) (law_op5 hL hc2 hb.1 hb.2.2.1 (op5 c h _ _ hc2 hInv) hnext)
      | 6, _, ej => rw [ej]; exact wp_tableIn (off := 339) (t := 372) dL_law_33 (by decide +kernel) (by decide +kernel) (by decide +kernel) (by decide) (law_op6 hL hc2 hb.1 hb.2.2.1 (op6 c h _ hc2 hInv) hnext)
      | 7, _, ej => rw [ej]; exact wp_tableIn (off := 362) (t := 395) dL_law_33 (by decide +kernel) (by decide +kernel) (by decide +kernel) (by decide) (law_op7 hL hc2 hb.1 hb.2.2.1 (op7 c h _ _ _ hc2 hInv) hnext)
      | 8, _, ej => rw [ej]; exact wp_tableIn (off := 405) (t := 438) dL_law_33 (by decide +kernel) (by decide +kernel) (by decide +kernel) (by decide) (law_op8 hL hc2 hb.1 hb.2.2.1 (op8 c h _ _ _ _ hc2 hInv) hnext)
      | 9, _, ej => rw [ej]; exact wp_tableIn (off := 458) (t := 491) dL_law_33 (by decide +kernel) (by decide +kernel) (by decide +kernel) (by decide) (law_op9 hL hc2 hb.1 hb.2.2.1 (op9 c h _ _ hc2 hInv) hnext)
      | 10, _, ej => rw [ej]; exact wp_tableIn (off := 491) (t := 524) dL_law_33 (by decide +kernel) (by decide +kernel) (by decide +kernel) (by decide) (law_op10 hL hc2 hb.1 hb.2.2.1 (op10 c h _ hc2 hInv) hnext)
      | 11, _, ej => rw [ej]; exact wp_tableIn (off := 514) (t := 547) dL_law_33 (by decide +kernel) (by decide +kernel) (by decide +kernel) (by decide) (law_op11 hL hc2 hb.1 hb.2.2.1 (op11 c h _ _ hc2 hInv) hnext)
      | 12, _, ej => rw [ej]; exact wp_tableIn (off := 547) (t := 580) dL_law_33 (by decide +kernel) (by decide +kernel) (by decide +kernel) (by decide) (law_op12 hL hc2 hb.1 hb.2.2.1 (op12 c h hc2 hInv) hnext)
      | 13, _, ej => rw [ej]; exact wp_tableIn (off := 560) (t := 593) dL_law_33 (by decide +kernel) (by decide +kernel) (by decide +kernel) (by decide) (law_op13 hL hc2 hb.1 hb.2.2.1 (op13 c h hc2 hInv) hnext)
      | 14, _, ej => rw [ej]; exact wp_tableIn (off := 573) (t := 606) dL_law_33 (by decide +kernel) (by decide +kernel) (by decide +kernel) (by decide) (law_op14 hL hc2 hb.1 hb.2.2.1 (op14 c h _ _ _ _ hc2 hInv) hnext)
      | 15, _, ej => rw [ej]; exact wp_tableIn (off := 626) (t := 659) dL_law_33 (by decide +kernel) (by decide +kernel) (by decide +kernel) (by decide) (law_op15 hL hc2 hb.1 hb.2.2.1 (op15 c h _ _ _ hc2 hInv) hnext)
      | 16, _, ej => rw [ej]; exact wp_tableIn (off := 669) (t := 702) dL_law_33 (by decide +kernel) (by decide +kernel) (by decide +kernel) (by decide) (law_op16 hL hc2 hb.1 hb.2.2.1 (op16 c h _ _ _ _ _ _ hc2 hInv) hnext)
      | 17, _, ej => rw [ej]; exact wp_tableIn (off := 744) (t := 777) dL_law_33 (by decide +kernel) (by decide +kernel) (by decide +kernel) (by decide) (law_op17 hL hc2 hb.1 hb.2.2.1 (op17 c h _ _ hc2 hInv) hnext)
      | 18, _, ej => rw [ej]; exact wp_tableIn (off := 777) (t := 810) dL_law_33 (by decide +kernel) (by decide +kernel) (by decide +kernel) (by decide) (law_op18 hL hc2 hb.1 hb.2.2.1 (op18 c h _ _ hc2 hInv) hnext)
      | 19, _, ej => rw [ej]; exact wp_tableIn (off := 810) (t := 843) dL_law_33 (by decide +kernel) (by decide +kernel) (by decide +kernel) (by decide) (law_op19 hL hc2 hb.1 hb.2.2.1 (op19 c h _ _ _ hc2 hInv) hnext)
      | 20, _, ej => rw [ej]; exact wp_tableIn (off := 853) (t := 886) dL_law_33 (by decide +kernel) (by decide +kernel) (by decide +kernel) (by decide) (law_op20 hL hc2 hb.1 hb.2.2.1 (op20 c h _ _ _ hc2 hInv) hnext)
      | 21, _, ej => rw [ej]; exact wp_tableIn (off := 896) (t := 929) dL_law_33 (by decide +kernel) (by decide +kernel) (by decide +kernel) (by decide) (law_op21 hL hc2 hb.1 hb.2.2.1 (op21 c h _ hc2 hInv) hnext)
      | 22, _, ej => rw [ej]; exact wp_tableIn (off := 919) (t := 952) dL_law_33 (by decide +kernel) (by decide +kernel) (by decide +kernel) (by decide) (law_op22 hL hc2 hb.1 hb.2.2.1 (op22 c h _ _ _ _ hc2 hInv) hnext)
      | 23, _, ej => rw [ej]; exact wp_tableIn (off := 972) (t := 1005) dL_law_33 (by decide +kernel) (by decide +kernel) (by decide +kernel) (by decide) (law_op23 hL hc2 hb.1 hb.2.2.1 (op23 c h _ _ hc2 hInv) hnext)
      | 24, _, ej => rw [ej]; exact wp_tableIn (off := 1005) (t := 1038) dL_law_33 (by decide +kernel) (by decide +kernel) (by decide +kernel) (by decide) (law_op24 hL hc2 hb.1 hb.2.2.1 (op24 c h _ _ _ hc2 hInv) hnext)
      | 25, _, ej => rw [ej]; exact wp_tableIn (off := 1048) (t := 1081) dL_law_33 (by decide +kernel) (by decide +kernel) (by decide +kernel) (by decide) (law_op25 hL hc2 hb.1 hb.2.2.1 (op25 c h _ _ hc2 hInv) hnext)
      | 26, _, ej => rw [ej]; exact wp_tableIn (off := 1081) (t := 1114) dL_law_33 (by decide +kernel) (by decide +kernel) (by decide +kernel) (by decide) (law_op26 hL hc2 hb.1 hb.2.2.1 (op26 c h _ _ _ _ hc2 hInv) hnext)
      | 27, _, ej => rw [ej]; exact wp_tableIn (off := 1134) (t := 1167) dL_law_33 (by decide +kernel) (by decide +kernel) (by decide +kernel) (by decide) (law_op27 hL hc2 hb.1 hb.2.2.1 (op27 c h _ _ hc2 hInv) hnext)
      | 28, _, ej => rw [ej]; exact wp_tableIn (off := 1167) (t := 1200) dL_law_33 (by decide +kernel) (by decide +kernel) (by decide +kernel) (by decide) (law_op28 hL hc2 hb.1 hb.2.2.1 (op28 c h _ _ hc2 hInv) hnext)
      | 29, _, ej => rw [ej]; exact wp_tableIn (off := 1200) (t := 1233) dL_law_33 (by decide +kernel) (by decide +kernel) (by decide +kernel) (by decide) (law_op29 hL hc2 hb.1 hb.2.2.1 (op29 c h _ hc2 hInv) hnext)
      | 30, _, ej => rw [ej]; exact wp_tableIn (off := 1223) (t := 1256) dL_law_33 (by decide +kernel) (by decide +kernel) (by decide +kernel) (by decide) (law_op30 hL hc2 hb.1 hb.2.2.1 (op30 c h _ _ hc2 hInv) hnext)
      | 31, _, ej => rw [ej]; exact wp_tableIn (off := 1256) (t := 1289) dL_law_33 (by decide +kernel) (by decide +kernel) (by decide +kernel) (by decide) (law_op31 hL hc2 hb.1 hb.2.2.1 (op31 c h _ hc2 hInv) hnext)
      | 32, _, ej => rw [ej]; exact wp_tableIn (off := 1279) (t := 1312) dL_law_33 (by decide +kernel) (by decide +kernel) (by decide +kernel) (by decide) (law_op32 hL hc2 hb.1 hb.2.2.1 (op32 c h _ hc2 hInv) hnext)
      | 33, _, ej => rw [ej]; exact wp_tableIn (off := 1302) (t := 1335) dL_law_33 (by decide +kernel) (by decide +kernel) (by decide +kernel) (by decide) (law_op33 hL hc2 hb.1 hb.2.2.1 (op33 c h _ _ _ hc2 hInv) hnext)
      | 34, _, ej => rw [ej]; exact wp_tableIn (off := 1345) (t := 1378) dL_law_33 (by decide +kernel) (by decide +kernel) (by decide +kernel) (by decide) (law_op34 hL hc2 hb.1 hb.2.2.1 (op34 c h _ hc2 hInv) hnext)
      | 35, _, ej => rw [ej]; exact wp_tableIn (off := 1368) (t := 1401) dL_law_33 (by decide +kernel) (by decide +kernel) (by decide +kernel) (by decide) (law_op35 hL hc2 hb.1 hb.2.2.1 (op35 c h _ _ hc2 hInv) hnext)
      | 36, _, ej => rw [ej]; exact wp_tableIn (off := 1401) (t := 1434) dL_law_33 (by decide +kernel) (by decide +kernel) (by decide +kernel) (by decide) (law_op36 hL hc2 hb.1 hb.2.2.1 (op36 c h _ hc2 hInv) hnext)
      | 37, _, ej => rw [ej]; exact wp_tableIn (off := 1424) (t := 1457) dL_law_33 (by decide +kernel) (by decide +kernel) (by decide +kernel) (by decide) (law_op37 hL hc2 hb.1 hb.2.2.1 (op37 c h _ hc2 hInv) hnext)
      | 38, _, ej => rw [ej]; exact wp_tableIn (off := 1447) (t := 1480) dL_law_33 (by decide +kernel) (by decide +kernel) (by decide +kernel) (by decide) (law_op38 hL hc2 hb.1 hb.2.2.1 (op38 c h _ hc2 hInv) hnext)
      | j + 39, hj, ej =>
        rw [ej]
        refine wp_tableOut (t := 1503) dL_law_33 (Or.inr ?_) (by decide) (hnext h (hskip c h hc2 hInv))
        rw [nI_toInt (by omega)]
        omega
