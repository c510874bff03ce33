/-! the law's cases -/
theorem cif_J {N : Nat} {P : Prop} {x y : Int32 × Wo} (hx : JWo N x.2) (hy : JWo N y.2) : JWo N (cif P x y).2 := by
  unfold cif
  split
  · exact hx
  · exact hy
theorem sM_of {L L' : zL} {a m : Nat} (h : sM L m) (e : ∀ q, q ≠ a → L' q = L q) (ha : a < m) : sM L' m := by
  unfold sM at h ⊢
  rw [e m (by omega), e (m + 1) (by omega), e (m + 2) (by omega), e (m + 3) (by omega), e (m + 4) (by omega), e (m + 5) (by omega), e (m + 6) (by omega), e (m + 7) (by omega), e (m + 8) (by omega), e (m + 9) (by omega), e (m + 10) (by omega), e (m + 11) (by omega), e (m + 12) (by omega), e (m + 13) (by omega), e (m + 14) (by omega), e (m + 15) (by omega)]
  exact h

set_option maxHeartbeats 4000000 in
set_option maxRecDepth 100000 in
theorem law_0 {yb yl : Nat} {yx : Nat → Int32} {D : zD} {z0 : Nat} {nm : String} {cells slots nx : Nat} {L : zL} {V : zV} {a i N : Nat} {sw : Bool} {w : Wo} {P : zP} (hs : sLI L a sw) (h : LI V a sw w) (hm : sM L (a + 471)) (hw : MW V (a + 471) w) (hj : JWo N w) (hN : N < 600000) (hcs : cells ≤ 600000 ∧ slots ≤ 7302250) (hi : i + 5 < yl) (hn : yl < 2147483648) (K : ∀ (L' : zL) (V' : zV) (sw' : Bool) (w' : Wo), sLI L' a sw' → LI V' a sw' w' → sM L' (a + 471) → MW V' (a + 471) w' → JWo (N + 1) w' → YL yb yl yx D z0 11 600000 7302250 (mL nm) cells slots 1246 [some (.ref yb), some (.ref a), some (.ref (a + 471)), some (.int (nI i))] [] L' V' nx P) : YL yb yl yx D z0 11 600000 7302250 (mL nm) cells slots 184 [some (.ref yb), some (.ref a), some (.ref (a + 471)), some (.int (nI i))] [] L V nx P := by
  refine y_aload_n dL_law_184 rfl ?_
  refine y_arg (k := 1) dL_law_185 dL_law_186 dL_law_187 dL_law_188 dL_law_189 rfl (by omega) hn ?_
  refine y_callV (As := [.int (yx (i + 1))]) (st := []) dL_law_190 kX11_begin lL_13 hs.1 rfl (c_begin hs h ) rfl rfl (Nat.le_of_ble_eq_true rfl) (Nat.le_of_ble_eq_true rfl) hcs ?_
  rintro v L1 V1 n1 ⟨rfl, rfl, rfl, he, h1⟩
  have hw1 := hw.eq he (Or.inr (Nat.le_refl _))
  refine y_aload_n dL_law_193 rfl ?_
  refine y_arg (k := 1) dL_law_194 dL_law_195 dL_law_196 dL_law_197 dL_law_198 rfl (by omega) hn ?_
  refine y_callV (As := [.int (yx (i + 1))]) dL_law_199 kX12_begin lL_17 hm.1 rfl (m_begin hm hw1 hj.hcl) rfl rfl (Nat.le_of_ble_eq_true rfl) (Nat.le_of_ble_eq_true rfl) hcs ?_
  rintro v L2 V2 n2 ⟨rfl, rfl, rfl, he2, h2⟩
  refine y_icmp_eq (tgt := 1246) dL_law_202 (by decide) (fun _ => ?_) (fun c => absurd rfl c)
  exact K _ _ _ _ hs (h1.out he2 (Or.inl (Nat.le_refl _))) hm h2 (J_begin _ hj)

set_option maxHeartbeats 4000000 in
set_option maxRecDepth 100000 in
theorem law_1 {yb yl : Nat} {yx : Nat → Int32} {D : zD} {z0 : Nat} {nm : String} {cells slots nx : Nat} {L : zL} {V : zV} {a i N : Nat} {sw : Bool} {w : Wo} {P : zP} (hs : sLI L a sw) (h : LI V a sw w) (hm : sM L (a + 471)) (hw : MW V (a + 471) w) (hj : JWo N w) (hN : N < 600000) (hcs : cells ≤ 600000 ∧ slots ≤ 7302250) (hi : i + 5 < yl) (hn : yl < 2147483648) (K : ∀ (L' : zL) (V' : zV) (sw' : Bool) (w' : Wo), sLI L' a sw' → LI V' a sw' w' → sM L' (a + 471) → MW V' (a + 471) w' → JWo (N + 1) w' → YL yb yl yx D z0 11 600000 7302250 (mL nm) cells slots 1246 [some (.ref yb), some (.ref a), some (.ref (a + 471)), some (.int (nI i))] [] L' V' nx P) : YL yb yl yx D z0 11 600000 7302250 (mL nm) cells slots 207 [some (.ref yb), some (.ref a), some (.ref (a + 471)), some (.int (nI i))] [] L V nx P := by
  refine y_aload_n dL_law_207 rfl ?_
  refine y_arg (k := 1) dL_law_208 dL_law_209 dL_law_210 dL_law_211 dL_law_212 rfl (by omega) hn ?_
  refine y_arg (k := 2) dL_law_213 dL_law_214 dL_law_215 dL_law_216 dL_law_217 rfl (by omega) hn ?_
  refine y_arg (k := 3) dL_law_218 dL_law_219 dL_law_220 dL_law_221 dL_law_222 rfl (by omega) hn ?_
  refine y_arg (k := 4) dL_law_223 dL_law_224 dL_law_225 dL_law_226 dL_law_227 rfl (by omega) hn ?_
  refine y_arg (k := 5) dL_law_228 dL_law_229 dL_law_230 dL_law_231 dL_law_232 rfl (by omega) hn ?_
  refine y_callV (As := [.int (yx (i + 1)), .int (yx (i + 2)), .int (yx (i + 3)), .int (yx (i + 4)), .int (yx (i + 5))]) (st := []) dL_law_233 kX11_put lL_18 hs.1 rfl (c_put hs h ) rfl rfl (Nat.le_of_ble_eq_true rfl) (Nat.le_of_ble_eq_true rfl) hcs ?_
  rintro v L1 V1 n1 ⟨rfl, rfl, rfl, he, h1⟩
  have hw1 := hw.eq he (Or.inr (Nat.le_refl _))
  refine y_aload_n dL_law_236 rfl ?_
  refine y_arg (k := 1) dL_law_237 dL_law_238 dL_law_239 dL_law_240 dL_law_241 rfl (by omega) hn ?_
  refine y_arg (k := 2) dL_law_242 dL_law_243 dL_law_244 dL_law_245 dL_law_246 rfl (by omega) hn ?_
  refine y_arg (k := 3) dL_law_247 dL_law_248 dL_law_249 dL_law_250 dL_law_251 rfl (by omega) hn ?_
  refine y_arg (k := 4) dL_law_252 dL_law_253 dL_law_254 dL_law_255 dL_law_256 rfl (by omega) hn ?_
  refine y_arg (k := 5) dL_law_257 dL_law_258 dL_law_259 dL_law_260 dL_law_261 rfl (by omega) hn ?_
  refine y_callV (As := [.int (yx (i + 1)), .int (yx (i + 2)), .int (yx (i + 3)), .int (yx (i + 4)), .int (yx (i + 5))]) dL_law_262 kX12_put lL_22 hm.1 rfl (m_put hm hw1 ) rfl rfl (Nat.le_of_ble_eq_true rfl) (Nat.le_of_ble_eq_true rfl) hcs ?_
  rintro v L2 V2 n2 ⟨rfl, rfl, rfl, he2, h2⟩
  refine y_icmp_eq (tgt := 1246) dL_law_265 (by decide) (fun _ => ?_) (fun c => absurd rfl c)
  exact K _ _ _ _ hs (h1.out he2 (Or.inl (Nat.le_refl _))) hm h2 (J_put _ _ _ _ _ hj)

set_option maxHeartbeats 4000000 in
set_option maxRecDepth 100000 in
theorem law_2 {yb yl : Nat} {yx : Nat → Int32} {D : zD} {z0 : Nat} {nm : String} {cells slots nx : Nat} {L : zL} {V : zV} {a i N : Nat} {sw : Bool} {w : Wo} {P : zP} (hs : sLI L a sw) (h : LI V a sw w) (hm : sM L (a + 471)) (hw : MW V (a + 471) w) (hj : JWo N w) (hN : N < 600000) (hcs : cells ≤ 600000 ∧ slots ≤ 7302250) (hi : i + 5 < yl) (hn : yl < 2147483648) (K : ∀ (L' : zL) (V' : zV) (sw' : Bool) (w' : Wo), sLI L' a sw' → LI V' a sw' w' → sM L' (a + 471) → MW V' (a + 471) w' → JWo (N + 1) w' → YL yb yl yx D z0 11 600000 7302250 (mL nm) cells slots 1246 [some (.ref yb), some (.ref a), some (.ref (a + 471)), some (.int (nI i))] [] L' V' nx P) : YL yb yl yx D z0 11 600000 7302250 (mL nm) cells slots 270 [some (.ref yb), some (.ref a), some (.ref (a + 471)), some (.int (nI i))] [] L V nx P := by
  refine y_aload_n dL_law_270 rfl ?_
  refine y_arg (k := 1) dL_law_271 dL_law_272 dL_law_273 dL_law_274 dL_law_275 rfl (by omega) hn ?_
  refine y_arg (k := 2) dL_law_276 dL_law_277 dL_law_278 dL_law_279 dL_law_280 rfl (by omega) hn ?_
  refine y_callV (As := [.int (yx (i + 1)), .int (yx (i + 2))]) (st := []) dL_law_281 kX11_erase lL_23 hs.1 rfl (c_erase hs h ) rfl rfl (Nat.le_of_ble_eq_true rfl) (Nat.le_of_ble_eq_true rfl) hcs ?_
  rintro v L1 V1 n1 ⟨rfl, rfl, rfl, he, h1⟩
  have hw1 := hw.eq he (Or.inr (Nat.le_refl _))
  refine y_aload_n dL_law_284 rfl ?_
  refine y_arg (k := 1) dL_law_285 dL_law_286 dL_law_287 dL_law_288 dL_law_289 rfl (by omega) hn ?_
  refine y_arg (k := 2) dL_law_290 dL_law_291 dL_law_292 dL_law_293 dL_law_294 rfl (by omega) hn ?_
  refine y_callV (As := [.int (yx (i + 1)), .int (yx (i + 2))]) dL_law_295 kX12_erase lL_27 hm.1 rfl (m_erase hm hw1 hj.hfs) rfl rfl (Nat.le_of_ble_eq_true rfl) (Nat.le_of_ble_eq_true rfl) hcs ?_
  rintro v L2 V2 n2 ⟨rfl, rfl, rfl, he2, h2⟩
  refine y_icmp_eq (tgt := 1246) dL_law_298 (by decide) (fun _ => ?_) (fun c => absurd rfl c)
  exact K _ _ _ _ hs (h1.out he2 (Or.inl (Nat.le_refl _))) hm h2 (J_erase _ _ hj)

set_option maxHeartbeats 4000000 in
set_option maxRecDepth 100000 in
theorem law_3 {yb yl : Nat} {yx : Nat → Int32} {D : zD} {z0 : Nat} {nm : String} {cells slots nx : Nat} {L : zL} {V : zV} {a i N : Nat} {sw : Bool} {w : Wo} {P : zP} (hs : sLI L a sw) (h : LI V a sw w) (hm : sM L (a + 471)) (hw : MW V (a + 471) w) (hj : JWo N w) (hN : N < 600000) (hcs : cells ≤ 600000 ∧ slots ≤ 7302250) (hi : i + 5 < yl) (hn : yl < 2147483648) (K : ∀ (L' : zL) (V' : zV) (sw' : Bool) (w' : Wo), sLI L' a sw' → LI V' a sw' w' → sM L' (a + 471) → MW V' (a + 471) w' → JWo (N + 1) w' → YL yb yl yx D z0 11 600000 7302250 (mL nm) cells slots 1246 [some (.ref yb), some (.ref a), some (.ref (a + 471)), some (.int (nI i))] [] L' V' nx P) : YL yb yl yx D z0 11 600000 7302250 (mL nm) cells slots 303 [some (.ref yb), some (.ref a), some (.ref (a + 471)), some (.int (nI i))] [] L V nx P := by
  refine y_aload_n dL_law_303 rfl ?_
  refine y_arg (k := 1) dL_law_304 dL_law_305 dL_law_306 dL_law_307 dL_law_308 rfl (by omega) hn ?_
  refine y_callV (As := [.int (yx (i + 1))]) (st := []) dL_law_309 kX11_commit lL_28 hs.1 rfl (c_commit hs h (hj.hq (by omega))) rfl rfl (Nat.le_of_ble_eq_true rfl) (Nat.le_of_ble_eq_true rfl) hcs ?_
  rintro v L1 V1 n1 ⟨rfl, rfl, rfl, he, h1⟩
  have hw1 := hw.eq he (Or.inr (Nat.le_refl _))
  refine y_aload_n dL_law_312 rfl ?_
  refine y_arg (k := 1) dL_law_313 dL_law_314 dL_law_315 dL_law_316 dL_law_317 rfl (by omega) hn ?_
  refine y_callV (As := [.int (yx (i + 1))]) dL_law_318 kX12_commit lL_31 hm.1 rfl (m_commit hm hw1 (hj.hq (by omega)) hj.hal hj.hcap) rfl rfl (Nat.le_of_ble_eq_true rfl) (Nat.le_of_ble_eq_true rfl) hcs ?_
  rintro v L2 V2 n2 ⟨rfl, rfl, rfl, he2, h2⟩
  refine y_icmp_eq (tgt := 1246) dL_law_321 (by decide) (fun _ => ?_) (fun c => absurd rfl c)
  exact K _ _ _ _ hs (h1.out he2 (Or.inl (Nat.le_refl _))) hm h2 (J_commit _ hj)

set_option maxHeartbeats 4000000 in
set_option maxRecDepth 100000 in
theorem law_4 {yb yl : Nat} {yx : Nat → Int32} {D : zD} {z0 : Nat} {nm : String} {cells slots nx : Nat} {L : zL} {V : zV} {a i N : Nat} {sw : Bool} {w : Wo} {P : zP} (hs : sLI L a sw) (h : LI V a sw w) (hm : sM L (a + 471)) (hw : MW V (a + 471) w) (hj : JWo N w) (hN : N < 600000) (hcs : cells ≤ 600000 ∧ slots ≤ 7302250) (hi : i + 5 < yl) (hn : yl < 2147483648) (K : ∀ (L' : zL) (V' : zV) (sw' : Bool) (w' : Wo), sLI L' a sw' → LI V' a sw' w' → sM L' (a + 471) → MW V' (a + 471) w' → JWo (N + 1) w' → YL yb yl yx D z0 11 600000 7302250 (mL nm) cells slots 1246 [some (.ref yb), some (.ref a), some (.ref (a + 471)), some (.int (nI i))] [] L' V' nx P) : YL yb yl yx D z0 11 600000 7302250 (mL nm) cells slots 326 [some (.ref yb), some (.ref a), some (.ref (a + 471)), some (.int (nI i))] [] L V nx P := by
  refine y_aload_n dL_law_326 rfl ?_
  refine y_callV (As := []) (st := []) dL_law_327 kX11_why lL_32 hs.1 rfl (c_why hs h ) rfl rfl (Nat.le_of_ble_eq_true rfl) (Nat.le_of_ble_eq_true rfl) hcs ?_
  rintro v L1 V1 n1 ⟨rfl, rfl, rfl, he, h1⟩
  have hw1 := hw.eq he (Or.inr (Nat.le_refl _))
  refine y_aload_n dL_law_330 rfl ?_
  refine y_callV (As := []) dL_law_331 kX12_why lL_36 hm.1 rfl (m_why hm hw1 ) rfl rfl (Nat.le_of_ble_eq_true rfl) (Nat.le_of_ble_eq_true rfl) hcs ?_
  rintro v L2 V2 n2 ⟨rfl, rfl, rfl, he2, h2⟩
  refine y_icmp_eq (tgt := 1246) dL_law_334 (by decide) (fun _ => ?_) (fun c => absurd rfl c)
  have hj2 : JWo (N + 1) (o_why  w).2 := by first | exact hj.up | (unfold o_why; (repeat' (first | exact hj.up | refine cif_J ?_ ?_ | split)))
  exact K _ _ _ _ hs (h1.out he2 (Or.inl (Nat.le_refl _))) hm h2 hj2

set_option maxHeartbeats 4000000 in
set_option maxRecDepth 100000 in
theorem law_5 {yb yl : Nat} {yx : Nat → Int32} {D : zD} {z0 : Nat} {nm : String} {cells slots nx : Nat} {L : zL} {V : zV} {a i N : Nat} {sw : Bool} {w : Wo} {P : zP} (hs : sLI L a sw) (h : LI V a sw w) (hm : sM L (a + 471)) (hw : MW V (a + 471) w) (hj : JWo N w) (hN : N < 600000) (hcs : cells ≤ 600000 ∧ slots ≤ 7302250) (hi : i + 5 < yl) (hn : yl < 2147483648) (K : ∀ (L' : zL) (V' : zV) (sw' : Bool) (w' : Wo), sLI L' a sw' → LI V' a sw' w' → sM L' (a + 471) → MW V' (a + 471) w' → JWo (N + 1) w' → YL yb yl yx D z0 11 600000 7302250 (mL nm) cells slots 1246 [some (.ref yb), some (.ref a), some (.ref (a + 471)), some (.int (nI i))] [] L' V' nx P) : YL yb yl yx D z0 11 600000 7302250 (mL nm) cells slots 339 [some (.ref yb), some (.ref a), some (.ref (a + 471)), some (.int (nI i))] [] L V nx P := by
  refine y_aload_n dL_law_339 rfl ?_
  refine y_arg (k := 1) dL_law_340 dL_law_341 dL_law_342 dL_law_343 dL_law_344 rfl (by omega) hn ?_
  refine y_callV (As := [.int (yx (i + 1))]) (st := []) dL_law_345 kX11_roll lL_37 hs.1 rfl (c_roll hs h ) rfl rfl (Nat.le_of_ble_eq_true rfl) (Nat.le_of_ble_eq_true rfl) hcs ?_
  rintro v L1 V1 n1 ⟨rfl, rfl, rfl, he, h1⟩
  have hw1 := hw.eq he (Or.inr (Nat.le_refl _))
  refine y_aload_n dL_law_348 rfl ?_
  refine y_arg (k := 1) dL_law_349 dL_law_350 dL_law_351 dL_law_352 dL_law_353 rfl (by omega) hn ?_
  refine y_callV (As := [.int (yx (i + 1))]) dL_law_354 kX12_roll lL_40 hm.1 rfl (m_roll hm hw1 ) rfl rfl (Nat.le_of_ble_eq_true rfl) (Nat.le_of_ble_eq_true rfl) hcs ?_
  rintro v L2 V2 n2 ⟨rfl, rfl, rfl, he2, h2⟩
  refine y_icmp_eq (tgt := 1246) dL_law_357 (by decide) (fun _ => ?_) (fun c => absurd rfl c)
  exact K _ _ _ _ hs (h1.out he2 (Or.inl (Nat.le_refl _))) hm h2 (J_roll _ hj)

set_option maxHeartbeats 4000000 in
set_option maxRecDepth 100000 in
theorem law_6 {yb yl : Nat} {yx : Nat → Int32} {D : zD} {z0 : Nat} {nm : String} {cells slots nx : Nat} {L : zL} {V : zV} {a i N : Nat} {sw : Bool} {w : Wo} {P : zP} (hs : sLI L a sw) (h : LI V a sw w) (hm : sM L (a + 471)) (hw : MW V (a + 471) w) (hj : JWo N w) (hN : N < 600000) (hcs : cells ≤ 600000 ∧ slots ≤ 7302250) (hi : i + 5 < yl) (hn : yl < 2147483648) (K : ∀ (L' : zL) (V' : zV) (sw' : Bool) (w' : Wo), sLI L' a sw' → LI V' a sw' w' → sM L' (a + 471) → MW V' (a + 471) w' → JWo (N + 1) w' → YL yb yl yx D z0 11 600000 7302250 (mL nm) cells slots 1246 [some (.ref yb), some (.ref a), some (.ref (a + 471)), some (.int (nI i))] [] L' V' nx P) : YL yb yl yx D z0 11 600000 7302250 (mL nm) cells slots 362 [some (.ref yb), some (.ref a), some (.ref (a + 471)), some (.int (nI i))] [] L V nx P := by
  refine y_aload_n dL_law_362 rfl ?_
  refine y_arg (k := 1) dL_law_363 dL_law_364 dL_law_365 dL_law_366 dL_law_367 rfl (by omega) hn ?_
  refine y_arg (k := 2) dL_law_368 dL_law_369 dL_law_370 dL_law_371 dL_law_372 rfl (by omega) hn ?_
  refine y_arg (k := 3) dL_law_373 dL_law_374 dL_law_375 dL_law_376 dL_law_377 rfl (by omega) hn ?_
  refine y_callV (As := [.int (yx (i + 1)), .int (yx (i + 2)), .int (yx (i + 3))]) (st := []) dL_law_378 kX11_see lL_41 hs.1 rfl (c_see hs h ) rfl rfl (Nat.le_of_ble_eq_true rfl) (Nat.le_of_ble_eq_true rfl) hcs ?_
  rintro v L1 V1 n1 ⟨rfl, rfl, rfl, he, h1⟩
  have hw1 := hw.eq he (Or.inr (Nat.le_refl _))
  refine y_aload_n dL_law_381 rfl ?_
  refine y_arg (k := 1) dL_law_382 dL_law_383 dL_law_384 dL_law_385 dL_law_386 rfl (by omega) hn ?_
  refine y_arg (k := 2) dL_law_387 dL_law_388 dL_law_389 dL_law_390 dL_law_391 rfl (by omega) hn ?_
  refine y_arg (k := 3) dL_law_392 dL_law_393 dL_law_394 dL_law_395 dL_law_396 rfl (by omega) hn ?_
  refine y_callV (As := [.int (yx (i + 1)), .int (yx (i + 2)), .int (yx (i + 3))]) dL_law_397 kX12_see lL_45 hm.1 rfl (m_see hm hw1 hj.hfs) rfl rfl (Nat.le_of_ble_eq_true rfl) (Nat.le_of_ble_eq_true rfl) hcs ?_
  rintro v L2 V2 n2 ⟨rfl, rfl, rfl, he2, h2⟩
  refine y_icmp_eq (tgt := 1246) dL_law_400 (by decide) (fun _ => ?_) (fun c => absurd rfl c)
  have hj2 : JWo (N + 1) (o_see (yx (i + 1)) (yx (i + 2)) (yx (i + 3)) w).2 := by first | exact hj.up | (unfold o_see; (repeat' (first | exact hj.up | refine cif_J ?_ ?_ | split)))
  exact K _ _ _ _ hs (h1.out he2 (Or.inl (Nat.le_refl _))) hm h2 hj2

set_option maxHeartbeats 4000000 in
set_option maxRecDepth 100000 in
theorem law_7 {yb yl : Nat} {yx : Nat → Int32} {D : zD} {z0 : Nat} {nm : String} {cells slots nx : Nat} {L : zL} {V : zV} {a i N : Nat} {sw : Bool} {w : Wo} {P : zP} (hs : sLI L a sw) (h : LI V a sw w) (hm : sM L (a + 471)) (hw : MW V (a + 471) w) (hj : JWo N w) (hN : N < 600000) (hcs : cells ≤ 600000 ∧ slots ≤ 7302250) (hi : i + 5 < yl) (hn : yl < 2147483648) (K : ∀ (L' : zL) (V' : zV) (sw' : Bool) (w' : Wo), sLI L' a sw' → LI V' a sw' w' → sM L' (a + 471) → MW V' (a + 471) w' → JWo (N + 1) w' → YL yb yl yx D z0 11 600000 7302250 (mL nm) cells slots 1246 [some (.ref yb), some (.ref a), some (.ref (a + 471)), some (.int (nI i))] [] L' V' nx P) : YL yb yl yx D z0 11 600000 7302250 (mL nm) cells slots 405 [some (.ref yb), some (.ref a), some (.ref (a + 471)), some (.int (nI i))] [] L V nx P := by
  refine y_aload_n dL_law_405 rfl ?_
  refine y_callV (As := []) (st := []) dL_law_406 kX11_sweep lL_46 hs.1 rfl (c_sweep hs h (hj.hkl (by omega))) rfl rfl (Nat.le_of_ble_eq_true rfl) (Nat.le_of_ble_eq_true rfl) hcs ?_
  rintro v L1 V1 n1 ⟨rfl, rfl, rfl, he, h1⟩
  have hw1 := hw.eq he (Or.inr (Nat.le_refl _))
  refine y_aload_n dL_law_409 rfl ?_
  refine y_callV (As := []) dL_law_410 kX12_sweep lL_49 hm.1 rfl (m_sweep hm hw1 (hj.hkl (by omega)) (hj.hsw (by omega))) rfl rfl (Nat.le_of_ble_eq_true rfl) (Nat.le_of_ble_eq_true rfl) hcs ?_
  rintro v L2 V2 n2 ⟨rfl, rfl, rfl, he2, h2⟩
  refine y_icmp_eq (tgt := 1246) dL_law_413 (by decide) (fun _ => ?_) (fun c => absurd rfl c)
  exact K _ _ _ _ hs (h1.out he2 (Or.inl (Nat.le_refl _))) hm h2 (J_sweep hj (by omega))

set_option maxHeartbeats 4000000 in
set_option maxRecDepth 100000 in
theorem law_8 {yb yl : Nat} {yx : Nat → Int32} {D : zD} {z0 : Nat} {nm : String} {cells slots nx : Nat} {L : zL} {V : zV} {a i N : Nat} {sw : Bool} {w : Wo} {P : zP} (hs : sLI L a sw) (h : LI V a sw w) (hm : sM L (a + 471)) (hw : MW V (a + 471) w) (hj : JWo N w) (hN : N < 600000) (hcs : cells ≤ 600000 ∧ slots ≤ 7302250) (hi : i + 5 < yl) (hn : yl < 2147483648) (K : ∀ (L' : zL) (V' : zV) (sw' : Bool) (w' : Wo), sLI L' a sw' → LI V' a sw' w' → sM L' (a + 471) → MW V' (a + 471) w' → JWo (N + 1) w' → YL yb yl yx D z0 11 600000 7302250 (mL nm) cells slots 1246 [some (.ref yb), some (.ref a), some (.ref (a + 471)), some (.int (nI i))] [] L' V' nx P) : YL yb yl yx D z0 11 600000 7302250 (mL nm) cells slots 418 [some (.ref yb), some (.ref a), some (.ref (a + 471)), some (.int (nI i))] [] L V nx P := by
  refine y_aload_n dL_law_418 rfl ?_
  refine y_arg (k := 1) dL_law_419 dL_law_420 dL_law_421 dL_law_422 dL_law_423 rfl (by omega) hn ?_
  refine y_arg (k := 2) dL_law_424 dL_law_425 dL_law_426 dL_law_427 dL_law_428 rfl (by omega) hn ?_
  refine y_arg (k := 3) dL_law_429 dL_law_430 dL_law_431 dL_law_432 dL_law_433 rfl (by omega) hn ?_
  refine y_arg (k := 4) dL_law_434 dL_law_435 dL_law_436 dL_law_437 dL_law_438 rfl (by omega) hn ?_
  refine y_arg (k := 5) dL_law_439 dL_law_440 dL_law_441 dL_law_442 dL_law_443 rfl (by omega) hn ?_
  refine y_callV (As := [.int (yx (i + 1)), .int (yx (i + 2)), .int (yx (i + 3)), .int (yx (i + 4)), .int (yx (i + 5))]) (st := []) dL_law_444 kX11_feed lL_50 hs.1 rfl (c_feed hs h ) rfl rfl (Nat.le_of_ble_eq_true rfl) (Nat.le_of_ble_eq_true rfl) hcs ?_
  rintro v L1 V1 n1 ⟨rfl, rfl, rfl, he, h1⟩
  have hw1 := hw.eq he (Or.inr (Nat.le_refl _))
  refine y_aload_n dL_law_447 rfl ?_
  refine y_arg (k := 1) dL_law_448 dL_law_449 dL_law_450 dL_law_451 dL_law_452 rfl (by omega) hn ?_
  refine y_arg (k := 2) dL_law_453 dL_law_454 dL_law_455 dL_law_456 dL_law_457 rfl (by omega) hn ?_
  refine y_arg (k := 3) dL_law_458 dL_law_459 dL_law_460 dL_law_461 dL_law_462 rfl (by omega) hn ?_
  refine y_arg (k := 4) dL_law_463 dL_law_464 dL_law_465 dL_law_466 dL_law_467 rfl (by omega) hn ?_
  refine y_arg (k := 5) dL_law_468 dL_law_469 dL_law_470 dL_law_471 dL_law_472 rfl (by omega) hn ?_
  refine y_callV (As := [.int (yx (i + 1)), .int (yx (i + 2)), .int (yx (i + 3)), .int (yx (i + 4)), .int (yx (i + 5))]) dL_law_473 kX12_feed lL_53 hm.1 rfl (m_feed hm hw1 ) rfl rfl (Nat.le_of_ble_eq_true rfl) (Nat.le_of_ble_eq_true rfl) hcs ?_
  rintro v L2 V2 n2 ⟨rfl, rfl, rfl, he2, h2⟩
  refine y_icmp_eq (tgt := 1246) dL_law_476 (by decide) (fun _ => ?_) (fun c => absurd rfl c)
  exact K _ _ _ _ hs (h1.out he2 (Or.inl (Nat.le_refl _))) hm h2 (J_feed _ _ _ _ _ hj)

set_option maxHeartbeats 4000000 in
set_option maxRecDepth 100000 in
theorem law_9 {yb yl : Nat} {yx : Nat → Int32} {D : zD} {z0 : Nat} {nm : String} {cells slots nx : Nat} {L : zL} {V : zV} {a i N : Nat} {sw : Bool} {w : Wo} {P : zP} (hs : sLI L a sw) (h : LI V a sw w) (hm : sM L (a + 471)) (hw : MW V (a + 471) w) (hj : JWo N w) (hN : N < 600000) (hcs : cells ≤ 600000 ∧ slots ≤ 7302250) (hi : i + 5 < yl) (hn : yl < 2147483648) (K : ∀ (L' : zL) (V' : zV) (sw' : Bool) (w' : Wo), sLI L' a sw' → LI V' a sw' w' → sM L' (a + 471) → MW V' (a + 471) w' → JWo (N + 1) w' → YL yb yl yx D z0 11 600000 7302250 (mL nm) cells slots 1246 [some (.ref yb), some (.ref a), some (.ref (a + 471)), some (.int (nI i))] [] L' V' nx P) : YL yb yl yx D z0 11 600000 7302250 (mL nm) cells slots 481 [some (.ref yb), some (.ref a), some (.ref (a + 471)), some (.int (nI i))] [] L V nx P := by
  refine y_aload_n dL_law_481 rfl ?_
  refine y_arg (k := 1) dL_law_482 dL_law_483 dL_law_484 dL_law_485 dL_law_486 rfl (by omega) hn ?_
  refine y_arg (k := 2) dL_law_487 dL_law_488 dL_law_489 dL_law_490 dL_law_491 rfl (by omega) hn ?_
  refine y_callV (As := [.int (yx (i + 1)), .int (yx (i + 2))]) (st := []) dL_law_492 kX11_build lL_54 hs.1 rfl (c_build hs h ) rfl rfl (Nat.le_of_ble_eq_true rfl) (Nat.le_of_ble_eq_true rfl) hcs ?_
  rintro v L1 V1 n1 ⟨rfl, rfl, rfl, he, h1⟩
  have hw1 := hw.eq he (Or.inr (Nat.le_refl _))
  refine y_aload_n dL_law_495 rfl ?_
  refine y_arg (k := 1) dL_law_496 dL_law_497 dL_law_498 dL_law_499 dL_law_500 rfl (by omega) hn ?_
  refine y_arg (k := 2) dL_law_501 dL_law_502 dL_law_503 dL_law_504 dL_law_505 rfl (by omega) hn ?_
  refine y_callV (As := [.int (yx (i + 1)), .int (yx (i + 2))]) dL_law_506 kX12_build lL_57 hm.1 rfl (m_build hm hw1 ) rfl rfl (Nat.le_of_ble_eq_true rfl) (Nat.le_of_ble_eq_true rfl) hcs ?_
  rintro v L2 V2 n2 ⟨rfl, rfl, rfl, he2, h2⟩
  refine y_icmp_eq (tgt := 1246) dL_law_509 (by decide) (fun _ => ?_) (fun c => absurd rfl c)
  exact K _ _ _ _ hs (h1.out he2 (Or.inl (Nat.le_refl _))) hm h2 (J_build _ _ hj)

set_option maxHeartbeats 4000000 in
set_option maxRecDepth 100000 in
theorem law_10 {yb yl : Nat} {yx : Nat → Int32} {D : zD} {z0 : Nat} {nm : String} {cells slots nx : Nat} {L : zL} {V : zV} {a i N : Nat} {sw : Bool} {w : Wo} {P : zP} (hs : sLI L a sw) (h : LI V a sw w) (hm : sM L (a + 471)) (hw : MW V (a + 471) w) (hj : JWo N w) (hN : N < 600000) (hcs : cells ≤ 600000 ∧ slots ≤ 7302250) (hi : i + 5 < yl) (hn : yl < 2147483648) (K : ∀ (L' : zL) (V' : zV) (sw' : Bool) (w' : Wo), sLI L' a sw' → LI V' a sw' w' → sM L' (a + 471) → MW V' (a + 471) w' → JWo (N + 1) w' → YL yb yl yx D z0 11 600000 7302250 (mL nm) cells slots 1246 [some (.ref yb), some (.ref a), some (.ref (a + 471)), some (.int (nI i))] [] L' V' nx P) : YL yb yl yx D z0 11 600000 7302250 (mL nm) cells slots 514 [some (.ref yb), some (.ref a), some (.ref (a + 471)), some (.int (nI i))] [] L V nx P := by
  refine y_aload_n dL_law_514 rfl ?_
  refine y_arg (k := 1) dL_law_515 dL_law_516 dL_law_517 dL_law_518 dL_law_519 rfl (by omega) hn ?_
  refine y_callV (As := [.int (yx (i + 1))]) (st := []) dL_law_520 kX11_fault lL_58 hs.1 rfl (c_fault hs h ) rfl rfl (Nat.le_of_ble_eq_true rfl) (Nat.le_of_ble_eq_true rfl) hcs ?_
  rintro v L1 V1 n1 ⟨rfl, rfl, rfl, he, h1⟩
  have hw1 := hw.eq he (Or.inr (Nat.le_refl _))
  refine y_aload_n dL_law_523 rfl ?_
  refine y_arg (k := 1) dL_law_524 dL_law_525 dL_law_526 dL_law_527 dL_law_528 rfl (by omega) hn ?_
  refine y_callV (As := [.int (yx (i + 1))]) dL_law_529 kX12_fault lL_61 hm.1 rfl (m_fault hm hw1 ) rfl rfl (Nat.le_of_ble_eq_true rfl) (Nat.le_of_ble_eq_true rfl) hcs ?_
  rintro v L2 V2 n2 ⟨rfl, rfl, rfl, he2, h2⟩
  refine y_icmp_eq (tgt := 1246) dL_law_532 (by decide) (fun _ => ?_) (fun c => absurd rfl c)
  have hj2 : JWo (N + 1) (o_fault (yx (i + 1)) w).2 := by first | exact hj.up | (unfold o_fault; (repeat' (first | exact hj.up | refine cif_J ?_ ?_ | split)))
  exact K _ _ _ _ hs (h1.out he2 (Or.inl (Nat.le_refl _))) hm h2 hj2

set_option maxHeartbeats 4000000 in
set_option maxRecDepth 100000 in
theorem law_11 {yb yl : Nat} {yx : Nat → Int32} {D : zD} {z0 : Nat} {nm : String} {cells slots nx : Nat} {L : zL} {V : zV} {a i N : Nat} {sw : Bool} {w : Wo} {P : zP} (hs : sLI L a sw) (h : LI V a sw w) (hm : sM L (a + 471)) (hw : MW V (a + 471) w) (hj : JWo N w) (hN : N < 600000) (hcs : cells ≤ 600000 ∧ slots ≤ 7302250) (hi : i + 5 < yl) (hn : yl < 2147483648) (K : ∀ (L' : zL) (V' : zV) (sw' : Bool) (w' : Wo), sLI L' a sw' → LI V' a sw' w' → sM L' (a + 471) → MW V' (a + 471) w' → JWo (N + 1) w' → YL yb yl yx D z0 11 600000 7302250 (mL nm) cells slots 1246 [some (.ref yb), some (.ref a), some (.ref (a + 471)), some (.int (nI i))] [] L' V' nx P) : YL yb yl yx D z0 11 600000 7302250 (mL nm) cells slots 537 [some (.ref yb), some (.ref a), some (.ref (a + 471)), some (.int (nI i))] [] L V nx P := by
  refine y_aload_n dL_law_537 rfl ?_
  refine y_arg (k := 1) dL_law_538 dL_law_539 dL_law_540 dL_law_541 dL_law_542 rfl (by omega) hn ?_
  refine y_arg (k := 2) dL_law_543 dL_law_544 dL_law_545 dL_law_546 dL_law_547 rfl (by omega) hn ?_
  refine y_callV (As := [.int (yx (i + 1)), .int (yx (i + 2))]) (st := []) dL_law_548 kX11_work lL_62 hs.1 rfl (c_work hs h (hj.hnr (by omega))) rfl rfl (Nat.le_of_ble_eq_true rfl) (Nat.le_of_ble_eq_true rfl) hcs ?_
  rintro v L1 V1 n1 ⟨rfl, rfl, rfl, he, h1⟩
  have hw1 := hw.eq he (Or.inr (Nat.le_refl _))
  refine y_aload_n dL_law_551 rfl ?_
  refine y_arg (k := 1) dL_law_552 dL_law_553 dL_law_554 dL_law_555 dL_law_556 rfl (by omega) hn ?_
  refine y_arg (k := 2) dL_law_557 dL_law_558 dL_law_559 dL_law_560 dL_law_561 rfl (by omega) hn ?_
  refine y_callV (As := [.int (yx (i + 1)), .int (yx (i + 2))]) dL_law_562 kX12_work lL_65 hm.1 rfl (m_work hm hw1 (hj.hU (by omega))) rfl rfl (Nat.le_of_ble_eq_true rfl) (Nat.le_of_ble_eq_true rfl) hcs ?_
  rintro v L2 V2 n2 ⟨rfl, rfl, rfl, he2, h2⟩
  refine y_icmp_eq (tgt := 1246) dL_law_565 (by decide) (fun _ => ?_) (fun c => absurd rfl c)
  exact K _ _ _ _ hs (h1.out he2 (Or.inl (Nat.le_refl _))) hm h2 (J_work _ _ hj)

set_option maxHeartbeats 4000000 in
set_option maxRecDepth 100000 in
theorem law_12 {yb yl : Nat} {yx : Nat → Int32} {D : zD} {z0 : Nat} {nm : String} {cells slots nx : Nat} {L : zL} {V : zV} {a i N : Nat} {sw : Bool} {w : Wo} {P : zP} (hs : sLI L a sw) (h : LI V a sw w) (hm : sM L (a + 471)) (hw : MW V (a + 471) w) (hj : JWo N w) (hN : N < 600000) (hcs : cells ≤ 600000 ∧ slots ≤ 7302250) (hi : i + 5 < yl) (hn : yl < 2147483648) (K : ∀ (L' : zL) (V' : zV) (sw' : Bool) (w' : Wo), sLI L' a sw' → LI V' a sw' w' → sM L' (a + 471) → MW V' (a + 471) w' → JWo (N + 1) w' → YL yb yl yx D z0 11 600000 7302250 (mL nm) cells slots 1246 [some (.ref yb), some (.ref a), some (.ref (a + 471)), some (.int (nI i))] [] L' V' nx P) : YL yb yl yx D z0 11 600000 7302250 (mL nm) cells slots 570 [some (.ref yb), some (.ref a), some (.ref (a + 471)), some (.int (nI i))] [] L V nx P := by
  refine y_aload_n dL_law_570 rfl ?_
  refine y_arg (k := 1) dL_law_571 dL_law_572 dL_law_573 dL_law_574 dL_law_575 rfl (by omega) hn ?_
  refine y_callV (As := [.int (yx (i + 1))]) (st := []) dL_law_576 kX11_takeUp lL_66 hs.1 rfl (c_takeUp hs h (hj.hnr (by omega))) rfl rfl (Nat.le_of_ble_eq_true rfl) (Nat.le_of_ble_eq_true rfl) hcs ?_
  rintro v L1 V1 n1 ⟨rfl, rfl, rfl, he, h1⟩
  have hw1 := hw.eq he (Or.inr (Nat.le_refl _))
  refine y_aload_n dL_law_579 rfl ?_
  refine y_arg (k := 1) dL_law_580 dL_law_581 dL_law_582 dL_law_583 dL_law_584 rfl (by omega) hn ?_
  refine y_callV (As := [.int (yx (i + 1))]) dL_law_585 kX12_takeUp lL_69 hm.1 rfl (m_takeUp hm hw1 (fun i hi => by have := hj.hrd (by omega) i hi; omega)) rfl rfl (Nat.le_of_ble_eq_true rfl) (Nat.le_of_ble_eq_true rfl) hcs ?_
  rintro v L2 V2 n2 ⟨rfl, rfl, rfl, he2, h2⟩
  refine y_icmp_eq (tgt := 1246) dL_law_588 (by decide) (fun _ => ?_) (fun c => absurd rfl c)
  exact K _ _ _ _ hs (h1.out he2 (Or.inl (Nat.le_refl _))) hm h2 (J_takeUp _ hj)

set_option maxHeartbeats 4000000 in
set_option maxRecDepth 100000 in
theorem law_13 {yb yl : Nat} {yx : Nat → Int32} {D : zD} {z0 : Nat} {nm : String} {cells slots nx : Nat} {L : zL} {V : zV} {a i N : Nat} {sw : Bool} {w : Wo} {P : zP} (hs : sLI L a sw) (h : LI V a sw w) (hm : sM L (a + 471)) (hw : MW V (a + 471) w) (hj : JWo N w) (hN : N < 600000) (hcs : cells ≤ 600000 ∧ slots ≤ 7302250) (hi : i + 5 < yl) (hn : yl < 2147483648) (K : ∀ (L' : zL) (V' : zV) (sw' : Bool) (w' : Wo), sLI L' a sw' → LI V' a sw' w' → sM L' (a + 471) → MW V' (a + 471) w' → JWo (N + 1) w' → YL yb yl yx D z0 11 600000 7302250 (mL nm) cells slots 1246 [some (.ref yb), some (.ref a), some (.ref (a + 471)), some (.int (nI i))] [] L' V' nx P) : YL yb yl yx D z0 11 600000 7302250 (mL nm) cells slots 593 [some (.ref yb), some (.ref a), some (.ref (a + 471)), some (.int (nI i))] [] L V nx P := by
  refine y_aload_n dL_law_593 rfl ?_
  refine y_arg (k := 1) dL_law_594 dL_law_595 dL_law_596 dL_law_597 dL_law_598 rfl (by omega) hn ?_
  refine y_callV (As := [.int (yx (i + 1))]) (st := []) dL_law_599 kX11_giveUp lL_70 hs.1 rfl (c_giveUp hs h ) rfl rfl (Nat.le_of_ble_eq_true rfl) (Nat.le_of_ble_eq_true rfl) hcs ?_
  rintro v L1 V1 n1 ⟨rfl, rfl, rfl, he, h1⟩
  have hw1 := hw.eq he (Or.inr (Nat.le_refl _))
  refine y_aload_n dL_law_602 rfl ?_
  refine y_arg (k := 1) dL_law_603 dL_law_604 dL_law_605 dL_law_606 dL_law_607 rfl (by omega) hn ?_
  refine y_callV (As := [.int (yx (i + 1))]) dL_law_608 kX12_giveUp lL_73 hm.1 rfl (m_giveUp hm hw1 ) rfl rfl (Nat.le_of_ble_eq_true rfl) (Nat.le_of_ble_eq_true rfl) hcs ?_
  rintro v L2 V2 n2 ⟨rfl, rfl, rfl, he2, h2⟩
  refine y_icmp_eq (tgt := 1246) dL_law_611 (by decide) (fun _ => ?_) (fun c => absurd rfl c)
  exact K _ _ _ _ hs (h1.out he2 (Or.inl (Nat.le_refl _))) hm h2 (J_giveUp _ hj)

set_option maxHeartbeats 4000000 in
set_option maxRecDepth 100000 in
theorem law_14 {yb yl : Nat} {yx : Nat → Int32} {D : zD} {z0 : Nat} {nm : String} {cells slots nx : Nat} {L : zL} {V : zV} {a i N : Nat} {sw : Bool} {w : Wo} {P : zP} (hs : sLI L a sw) (h : LI V a sw w) (hm : sM L (a + 471)) (hw : MW V (a + 471) w) (hj : JWo N w) (hN : N < 600000) (hcs : cells ≤ 600000 ∧ slots ≤ 7302250) (hi : i + 5 < yl) (hn : yl < 2147483648) (K : ∀ (L' : zL) (V' : zV) (sw' : Bool) (w' : Wo), sLI L' a sw' → LI V' a sw' w' → sM L' (a + 471) → MW V' (a + 471) w' → JWo (N + 1) w' → YL yb yl yx D z0 11 600000 7302250 (mL nm) cells slots 1246 [some (.ref yb), some (.ref a), some (.ref (a + 471)), some (.int (nI i))] [] L' V' nx P) : YL yb yl yx D z0 11 600000 7302250 (mL nm) cells slots 616 [some (.ref yb), some (.ref a), some (.ref (a + 471)), some (.int (nI i))] [] L V nx P := by
  refine y_aload_n dL_law_616 rfl ?_
  refine y_arg (k := 1) dL_law_617 dL_law_618 dL_law_619 dL_law_620 dL_law_621 rfl (by omega) hn ?_
  refine y_arg (k := 2) dL_law_622 dL_law_623 dL_law_624 dL_law_625 dL_law_626 rfl (by omega) hn ?_
  refine y_callV (As := [.int (yx (i + 1)), .int (yx (i + 2))]) (st := []) dL_law_627 kX11_terms lL_74 hs.1 rfl (c_terms hs h ) rfl rfl (Nat.le_of_ble_eq_true rfl) (Nat.le_of_ble_eq_true rfl) hcs ?_
  rintro v L1 V1 n1 ⟨rfl, rfl, rfl, he, h1⟩
  have hw1 := hw.eq he (Or.inr (Nat.le_refl _))
  refine y_aload_n dL_law_630 rfl ?_
  refine y_arg (k := 1) dL_law_631 dL_law_632 dL_law_633 dL_law_634 dL_law_635 rfl (by omega) hn ?_
  refine y_arg (k := 2) dL_law_636 dL_law_637 dL_law_638 dL_law_639 dL_law_640 rfl (by omega) hn ?_
  refine y_callV (As := [.int (yx (i + 1)), .int (yx (i + 2))]) dL_law_641 kX12_terms lL_77 hm.1 rfl (m_terms hm hw1 ) rfl rfl (Nat.le_of_ble_eq_true rfl) (Nat.le_of_ble_eq_true rfl) hcs ?_
  rintro v L2 V2 n2 ⟨rfl, rfl, rfl, he2, h2⟩
  refine y_icmp_eq (tgt := 1246) dL_law_644 (by decide) (fun _ => ?_) (fun c => absurd rfl c)
  exact K _ _ _ _ hs (h1.out he2 (Or.inl (Nat.le_refl _))) hm h2 (J_terms _ _ hj)

set_option maxHeartbeats 4000000 in
set_option maxRecDepth 100000 in
theorem law_15 {yb yl : Nat} {yx : Nat → Int32} {D : zD} {z0 : Nat} {nm : String} {cells slots nx : Nat} {L : zL} {V : zV} {a i N : Nat} {sw : Bool} {w : Wo} {P : zP} (hs : sLI L a sw) (h : LI V a sw w) (hm : sM L (a + 471)) (hw : MW V (a + 471) w) (hj : JWo N w) (hN : N < 600000) (hcs : cells ≤ 600000 ∧ slots ≤ 7302250) (hi : i + 5 < yl) (hn : yl < 2147483648) (K : ∀ (L' : zL) (V' : zV) (sw' : Bool) (w' : Wo), sLI L' a sw' → LI V' a sw' w' → sM L' (a + 471) → MW V' (a + 471) w' → JWo (N + 1) w' → YL yb yl yx D z0 11 600000 7302250 (mL nm) cells slots 1246 [some (.ref yb), some (.ref a), some (.ref (a + 471)), some (.int (nI i))] [] L' V' nx P) : YL yb yl yx D z0 11 600000 7302250 (mL nm) cells slots 649 [some (.ref yb), some (.ref a), some (.ref (a + 471)), some (.int (nI i))] [] L V nx P := by
  refine y_aload_n dL_law_649 rfl ?_
  refine y_arg (k := 1) dL_law_650 dL_law_651 dL_law_652 dL_law_653 dL_law_654 rfl (by omega) hn ?_
  refine y_arg (k := 2) dL_law_655 dL_law_656 dL_law_657 dL_law_658 dL_law_659 rfl (by omega) hn ?_
  refine y_callV (As := [.int (yx (i + 1)), .int (yx (i + 2))]) (st := []) dL_law_660 kX11_index lL_78 hs.1 rfl (c_index hs h ) rfl rfl (Nat.le_of_ble_eq_true rfl) (Nat.le_of_ble_eq_true rfl) hcs ?_
  rintro v L1 V1 n1 ⟨rfl, rfl, rfl, he, h1⟩
  have hw1 := hw.eq he (Or.inr (Nat.le_refl _))
  refine y_aload_n dL_law_663 rfl ?_
  refine y_arg (k := 1) dL_law_664 dL_law_665 dL_law_666 dL_law_667 dL_law_668 rfl (by omega) hn ?_
  refine y_arg (k := 2) dL_law_669 dL_law_670 dL_law_671 dL_law_672 dL_law_673 rfl (by omega) hn ?_
  refine y_callV (As := [.int (yx (i + 1)), .int (yx (i + 2))]) dL_law_674 kX12_index lL_81 hm.1 rfl (m_index hm hw1 ) rfl rfl (Nat.le_of_ble_eq_true rfl) (Nat.le_of_ble_eq_true rfl) hcs ?_
  rintro v L2 V2 n2 ⟨rfl, rfl, rfl, he2, h2⟩
  refine y_icmp_eq (tgt := 1246) dL_law_677 (by decide) (fun _ => ?_) (fun c => absurd rfl c)
  have hj2 : JWo (N + 1) (o_index (yx (i + 1)) (yx (i + 2)) w).2 := by first | exact hj.up | (unfold o_index; (repeat' (first | exact hj.up | refine cif_J ?_ ?_ | split)))
  exact K _ _ _ _ hs (h1.out he2 (Or.inl (Nat.le_refl _))) hm h2 hj2

set_option maxHeartbeats 4000000 in
set_option maxRecDepth 100000 in
theorem law_16 {yb yl : Nat} {yx : Nat → Int32} {D : zD} {z0 : Nat} {nm : String} {cells slots nx : Nat} {L : zL} {V : zV} {a i N : Nat} {sw : Bool} {w : Wo} {P : zP} (hs : sLI L a sw) (h : LI V a sw w) (hm : sM L (a + 471)) (hw : MW V (a + 471) w) (hj : JWo N w) (hN : N < 600000) (hcs : cells ≤ 600000 ∧ slots ≤ 7302250) (hi : i + 5 < yl) (hn : yl < 2147483648) (K : ∀ (L' : zL) (V' : zV) (sw' : Bool) (w' : Wo), sLI L' a sw' → LI V' a sw' w' → sM L' (a + 471) → MW V' (a + 471) w' → JWo (N + 1) w' → YL yb yl yx D z0 11 600000 7302250 (mL nm) cells slots 1246 [some (.ref yb), some (.ref a), some (.ref (a + 471)), some (.int (nI i))] [] L' V' nx P) : YL yb yl yx D z0 11 600000 7302250 (mL nm) cells slots 682 [some (.ref yb), some (.ref a), some (.ref (a + 471)), some (.int (nI i))] [] L V nx P := by
  refine y_aload_n dL_law_682 rfl ?_
  refine y_arg (k := 1) dL_law_683 dL_law_684 dL_law_685 dL_law_686 dL_law_687 rfl (by omega) hn ?_
  refine y_arg (k := 2) dL_law_688 dL_law_689 dL_law_690 dL_law_691 dL_law_692 rfl (by omega) hn ?_
  refine y_arg (k := 3) dL_law_693 dL_law_694 dL_law_695 dL_law_696 dL_law_697 rfl (by omega) hn ?_
  refine y_callV (As := [.int (yx (i + 1)), .int (yx (i + 2)), .int (yx (i + 3))]) (st := []) dL_law_698 kX11_entry lL_82 hs.1 rfl (c_entry hs h hw.hcd) rfl rfl (Nat.le_of_ble_eq_true rfl) (Nat.le_of_ble_eq_true rfl) hcs ?_
  rintro v L1 V1 n1 ⟨rfl, rfl, rfl, he, h1⟩
  have hw1 := hw.eq he (Or.inr (Nat.le_refl _))
  refine y_aload_n dL_law_701 rfl ?_
  refine y_arg (k := 1) dL_law_702 dL_law_703 dL_law_704 dL_law_705 dL_law_706 rfl (by omega) hn ?_
  refine y_arg (k := 2) dL_law_707 dL_law_708 dL_law_709 dL_law_710 dL_law_711 rfl (by omega) hn ?_
  refine y_arg (k := 3) dL_law_712 dL_law_713 dL_law_714 dL_law_715 dL_law_716 rfl (by omega) hn ?_
  refine y_callV (As := [.int (yx (i + 1)), .int (yx (i + 2)), .int (yx (i + 3))]) dL_law_717 kX12_entry lL_85 hm.1 rfl (m_entry hm hw1 ) rfl rfl (Nat.le_of_ble_eq_true rfl) (Nat.le_of_ble_eq_true rfl) hcs ?_
  rintro v L2 V2 n2 ⟨rfl, rfl, rfl, he2, h2⟩
  refine y_icmp_eq (tgt := 1246) dL_law_720 (by decide) (fun _ => ?_) (fun c => absurd rfl c)
  have hj2 : JWo (N + 1) (o_entry (yx (i + 1)) (yx (i + 2)) (yx (i + 3)) w).2 := by first | exact hj.up | (unfold o_entry; (repeat' (first | exact hj.up | refine cif_J ?_ ?_ | split)))
  exact K _ _ _ _ hs (h1.out he2 (Or.inl (Nat.le_refl _))) hm h2 hj2

set_option maxHeartbeats 4000000 in
set_option maxRecDepth 100000 in
theorem law_17 {yb yl : Nat} {yx : Nat → Int32} {D : zD} {z0 : Nat} {nm : String} {cells slots nx : Nat} {L : zL} {V : zV} {a i N : Nat} {sw : Bool} {w : Wo} {P : zP} (hs : sLI L a sw) (h : LI V a sw w) (hm : sM L (a + 471)) (hw : MW V (a + 471) w) (hj : JWo N w) (hN : N < 600000) (hcs : cells ≤ 600000 ∧ slots ≤ 7302250) (hi : i + 5 < yl) (hn : yl < 2147483648) (K : ∀ (L' : zL) (V' : zV) (sw' : Bool) (w' : Wo), sLI L' a sw' → LI V' a sw' w' → sM L' (a + 471) → MW V' (a + 471) w' → JWo (N + 1) w' → YL yb yl yx D z0 11 600000 7302250 (mL nm) cells slots 1246 [some (.ref yb), some (.ref a), some (.ref (a + 471)), some (.int (nI i))] [] L' V' nx P) : YL yb yl yx D z0 11 600000 7302250 (mL nm) cells slots 725 [some (.ref yb), some (.ref a), some (.ref (a + 471)), some (.int (nI i))] [] L V nx P := by
  refine y_aload_n dL_law_725 rfl ?_
  refine y_arg (k := 1) dL_law_726 dL_law_727 dL_law_728 dL_law_729 dL_law_730 rfl (by omega) hn ?_
  refine y_arg (k := 2) dL_law_731 dL_law_732 dL_law_733 dL_law_734 dL_law_735 rfl (by omega) hn ?_
  refine y_arg (k := 3) dL_law_736 dL_law_737 dL_law_738 dL_law_739 dL_law_740 rfl (by omega) hn ?_
  refine y_arg (k := 4) dL_law_741 dL_law_742 dL_law_743 dL_law_744 dL_law_745 rfl (by omega) hn ?_
  refine y_callV (As := [.int (yx (i + 1)), .int (yx (i + 2)), .int (yx (i + 3)), .int (yx (i + 4))]) (st := []) dL_law_746 kX11_logged lL_86 hs.1 rfl (c_logged hs h hw.hcd) rfl rfl (Nat.le_of_ble_eq_true rfl) (Nat.le_of_ble_eq_true rfl) hcs ?_
  rintro v L1 V1 n1 ⟨rfl, rfl, rfl, he, h1⟩
  have hw1 := hw.eq he (Or.inr (Nat.le_refl _))
  refine y_aload_n dL_law_749 rfl ?_
  refine y_arg (k := 1) dL_law_750 dL_law_751 dL_law_752 dL_law_753 dL_law_754 rfl (by omega) hn ?_
  refine y_arg (k := 2) dL_law_755 dL_law_756 dL_law_757 dL_law_758 dL_law_759 rfl (by omega) hn ?_
  refine y_arg (k := 3) dL_law_760 dL_law_761 dL_law_762 dL_law_763 dL_law_764 rfl (by omega) hn ?_
  refine y_arg (k := 4) dL_law_765 dL_law_766 dL_law_767 dL_law_768 dL_law_769 rfl (by omega) hn ?_
  refine y_callV (As := [.int (yx (i + 1)), .int (yx (i + 2)), .int (yx (i + 3)), .int (yx (i + 4))]) dL_law_770 kX12_logged lL_90 hm.1 rfl (m_logged hm hw1 ) rfl rfl (Nat.le_of_ble_eq_true rfl) (Nat.le_of_ble_eq_true rfl) hcs ?_
  rintro v L2 V2 n2 ⟨rfl, rfl, rfl, he2, h2⟩
  refine y_icmp_eq (tgt := 1246) dL_law_773 (by decide) (fun _ => ?_) (fun c => absurd rfl c)
  have hj2 : JWo (N + 1) (o_logged (yx (i + 1)) (yx (i + 2)) (yx (i + 3)) (yx (i + 4)) w).2 := by first | exact hj.up | (unfold o_logged; (repeat' (first | exact hj.up | refine cif_J ?_ ?_ | split)))
  exact K _ _ _ _ hs (h1.out he2 (Or.inl (Nat.le_refl _))) hm h2 hj2

set_option maxHeartbeats 4000000 in
set_option maxRecDepth 100000 in
theorem law_18 {yb yl : Nat} {yx : Nat → Int32} {D : zD} {z0 : Nat} {nm : String} {cells slots nx : Nat} {L : zL} {V : zV} {a i N : Nat} {sw : Bool} {w : Wo} {P : zP} (hs : sLI L a sw) (h : LI V a sw w) (hm : sM L (a + 471)) (hw : MW V (a + 471) w) (hj : JWo N w) (hN : N < 600000) (hcs : cells ≤ 600000 ∧ slots ≤ 7302250) (hi : i + 5 < yl) (hn : yl < 2147483648) (K : ∀ (L' : zL) (V' : zV) (sw' : Bool) (w' : Wo), sLI L' a sw' → LI V' a sw' w' → sM L' (a + 471) → MW V' (a + 471) w' → JWo (N + 1) w' → YL yb yl yx D z0 11 600000 7302250 (mL nm) cells slots 1246 [some (.ref yb), some (.ref a), some (.ref (a + 471)), some (.int (nI i))] [] L' V' nx P) : YL yb yl yx D z0 11 600000 7302250 (mL nm) cells slots 778 [some (.ref yb), some (.ref a), some (.ref (a + 471)), some (.int (nI i))] [] L V nx P := by
  refine y_aload_n dL_law_778 rfl ?_
  refine y_arg (k := 1) dL_law_779 dL_law_780 dL_law_781 dL_law_782 dL_law_783 rfl (by omega) hn ?_
  refine y_arg (k := 2) dL_law_784 dL_law_785 dL_law_786 dL_law_787 dL_law_788 rfl (by omega) hn ?_
  refine y_arg (k := 3) dL_law_789 dL_law_790 dL_law_791 dL_law_792 dL_law_793 rfl (by omega) hn ?_
  refine y_arg (k := 4) dL_law_794 dL_law_795 dL_law_796 dL_law_797 dL_law_798 rfl (by omega) hn ?_
  refine y_callV (As := [.int (yx (i + 1)), .int (yx (i + 2)), .int (yx (i + 3)), .int (yx (i + 4))]) (st := []) dL_law_799 kX11_ahead lL_91 hs.1 rfl (c_ahead hs h ) rfl rfl (Nat.le_of_ble_eq_true rfl) (Nat.le_of_ble_eq_true rfl) hcs ?_
  rintro v L1 V1 n1 ⟨rfl, rfl, rfl, he, h1⟩
  have hw1 := hw.eq he (Or.inr (Nat.le_refl _))
  refine y_aload_n dL_law_802 rfl ?_
  refine y_arg (k := 1) dL_law_803 dL_law_804 dL_law_805 dL_law_806 dL_law_807 rfl (by omega) hn ?_
  refine y_arg (k := 2) dL_law_808 dL_law_809 dL_law_810 dL_law_811 dL_law_812 rfl (by omega) hn ?_
  refine y_arg (k := 3) dL_law_813 dL_law_814 dL_law_815 dL_law_816 dL_law_817 rfl (by omega) hn ?_
  refine y_arg (k := 4) dL_law_818 dL_law_819 dL_law_820 dL_law_821 dL_law_822 rfl (by omega) hn ?_
  refine y_callV (As := [.int (yx (i + 1)), .int (yx (i + 2)), .int (yx (i + 3)), .int (yx (i + 4))]) dL_law_823 kX12_ahead lL_94 hm.1 rfl (m_ahead hm hw1 hj.hso) rfl rfl (Nat.le_of_ble_eq_true rfl) (Nat.le_of_ble_eq_true rfl) hcs ?_
  rintro v L2 V2 n2 ⟨rfl, rfl, rfl, he2, h2⟩
  refine y_icmp_eq (tgt := 1246) dL_law_826 (by decide) (fun _ => ?_) (fun c => absurd rfl c)
  have hj2 : JWo (N + 1) (o_ahead (yx (i + 1)) (yx (i + 2)) (yx (i + 3)) (yx (i + 4)) w).2 := by first | exact hj.up | (unfold o_ahead; (repeat' (first | exact hj.up | refine cif_J ?_ ?_ | split)))
  exact K _ _ _ _ hs (h1.out he2 (Or.inl (Nat.le_refl _))) hm h2 hj2

set_option maxHeartbeats 4000000 in
set_option maxRecDepth 100000 in
theorem law_19 {yb yl : Nat} {yx : Nat → Int32} {D : zD} {z0 : Nat} {nm : String} {cells slots nx : Nat} {L : zL} {V : zV} {a i N : Nat} {sw : Bool} {w : Wo} {P : zP} (hs : sLI L a sw) (h : LI V a sw w) (hm : sM L (a + 471)) (hw : MW V (a + 471) w) (hj : JWo N w) (hN : N < 600000) (hcs : cells ≤ 600000 ∧ slots ≤ 7302250) (hi : i + 5 < yl) (hn : yl < 2147483648) (K : ∀ (L' : zL) (V' : zV) (sw' : Bool) (w' : Wo), sLI L' a sw' → LI V' a sw' w' → sM L' (a + 471) → MW V' (a + 471) w' → JWo (N + 1) w' → YL yb yl yx D z0 11 600000 7302250 (mL nm) cells slots 1246 [some (.ref yb), some (.ref a), some (.ref (a + 471)), some (.int (nI i))] [] L' V' nx P) : YL yb yl yx D z0 11 600000 7302250 (mL nm) cells slots 831 [some (.ref yb), some (.ref a), some (.ref (a + 471)), some (.int (nI i))] [] L V nx P := by
  refine y_aload_n dL_law_831 rfl ?_
  refine y_arg (k := 1) dL_law_832 dL_law_833 dL_law_834 dL_law_835 dL_law_836 rfl (by omega) hn ?_
  refine y_arg (k := 2) dL_law_837 dL_law_838 dL_law_839 dL_law_840 dL_law_841 rfl (by omega) hn ?_
  refine y_arg (k := 3) dL_law_842 dL_law_843 dL_law_844 dL_law_845 dL_law_846 rfl (by omega) hn ?_
  refine y_arg (k := 4) dL_law_847 dL_law_848 dL_law_849 dL_law_850 dL_law_851 rfl (by omega) hn ?_
  refine y_callV (As := [.int (yx (i + 1)), .int (yx (i + 2)), .int (yx (i + 3)), .int (yx (i + 4))]) (st := []) dL_law_852 kX11_same lL_95 hs.1 rfl (c_same hs h ) rfl rfl (Nat.le_of_ble_eq_true rfl) (Nat.le_of_ble_eq_true rfl) hcs ?_
  rintro v L1 V1 n1 ⟨rfl, rfl, rfl, he, h1⟩
  have hw1 := hw.eq he (Or.inr (Nat.le_refl _))
  refine y_aload_n dL_law_855 rfl ?_
  refine y_arg (k := 1) dL_law_856 dL_law_857 dL_law_858 dL_law_859 dL_law_860 rfl (by omega) hn ?_
  refine y_arg (k := 2) dL_law_861 dL_law_862 dL_law_863 dL_law_864 dL_law_865 rfl (by omega) hn ?_
  refine y_arg (k := 3) dL_law_866 dL_law_867 dL_law_868 dL_law_869 dL_law_870 rfl (by omega) hn ?_
  refine y_arg (k := 4) dL_law_871 dL_law_872 dL_law_873 dL_law_874 dL_law_875 rfl (by omega) hn ?_
  refine y_callV (As := [.int (yx (i + 1)), .int (yx (i + 2)), .int (yx (i + 3)), .int (yx (i + 4))]) dL_law_876 kX12_same lL_98 hm.1 rfl (m_same hm hw1 hj.hso) rfl rfl (Nat.le_of_ble_eq_true rfl) (Nat.le_of_ble_eq_true rfl) hcs ?_
  rintro v L2 V2 n2 ⟨rfl, rfl, rfl, he2, h2⟩
  refine y_icmp_eq (tgt := 1246) dL_law_879 (by decide) (fun _ => ?_) (fun c => absurd rfl c)
  have hj2 : JWo (N + 1) (o_same (yx (i + 1)) (yx (i + 2)) (yx (i + 3)) (yx (i + 4)) w).2 := by first | exact hj.up | (unfold o_same; (repeat' (first | exact hj.up | refine cif_J ?_ ?_ | split)))
  exact K _ _ _ _ hs (h1.out he2 (Or.inl (Nat.le_refl _))) hm h2 hj2

set_option maxHeartbeats 4000000 in
set_option maxRecDepth 100000 in
theorem law_20 {yb yl : Nat} {yx : Nat → Int32} {D : zD} {z0 : Nat} {nm : String} {cells slots nx : Nat} {L : zL} {V : zV} {a i N : Nat} {sw : Bool} {w : Wo} {P : zP} (hs : sLI L a sw) (h : LI V a sw w) (hm : sM L (a + 471)) (hw : MW V (a + 471) w) (hj : JWo N w) (hN : N < 600000) (hcs : cells ≤ 600000 ∧ slots ≤ 7302250) (hi : i + 5 < yl) (hn : yl < 2147483648) (K : ∀ (L' : zL) (V' : zV) (sw' : Bool) (w' : Wo), sLI L' a sw' → LI V' a sw' w' → sM L' (a + 471) → MW V' (a + 471) w' → JWo (N + 1) w' → YL yb yl yx D z0 11 600000 7302250 (mL nm) cells slots 1246 [some (.ref yb), some (.ref a), some (.ref (a + 471)), some (.int (nI i))] [] L' V' nx P) : YL yb yl yx D z0 11 600000 7302250 (mL nm) cells slots 884 [some (.ref yb), some (.ref a), some (.ref (a + 471)), some (.int (nI i))] [] L V nx P := by
  refine y_aload_n dL_law_884 rfl ?_
  refine y_arg (k := 1) dL_law_885 dL_law_886 dL_law_887 dL_law_888 dL_law_889 rfl (by omega) hn ?_
  refine y_arg (k := 2) dL_law_890 dL_law_891 dL_law_892 dL_law_893 dL_law_894 rfl (by omega) hn ?_
  refine y_callV (As := [.int (yx (i + 1)), .int (yx (i + 2))]) (st := []) dL_law_895 kX11_reads lL_99 hs.1 rfl (c_reads hs h hj.hol hw.hcd) rfl rfl (Nat.le_of_ble_eq_true rfl) (Nat.le_of_ble_eq_true rfl) hcs ?_
  rintro v L1 V1 n1 ⟨rfl, rfl, rfl, he, h1⟩
  have hw1 := hw.eq he (Or.inr (Nat.le_refl _))
  refine y_aload_n dL_law_898 rfl ?_
  refine y_arg (k := 1) dL_law_899 dL_law_900 dL_law_901 dL_law_902 dL_law_903 rfl (by omega) hn ?_
  refine y_arg (k := 2) dL_law_904 dL_law_905 dL_law_906 dL_law_907 dL_law_908 rfl (by omega) hn ?_
  refine y_callV (As := [.int (yx (i + 1)), .int (yx (i + 2))]) dL_law_909 kX12_reads lL_102 hm.1 rfl (m_reads hm hw1 hj.hol) rfl rfl (Nat.le_of_ble_eq_true rfl) (Nat.le_of_ble_eq_true rfl) hcs ?_
  rintro v L2 V2 n2 ⟨rfl, rfl, rfl, he2, h2⟩
  refine y_icmp_eq (tgt := 1246) dL_law_912 (by decide) (fun _ => ?_) (fun c => absurd rfl c)
  have hj2 : JWo (N + 1) (o_reads (yx (i + 1)) (yx (i + 2)) w).2 := by first | exact hj.up | (unfold o_reads; (repeat' (first | exact hj.up | refine cif_J ?_ ?_ | split)))
  exact K _ _ _ _ hs (h1.out he2 (Or.inl (Nat.le_refl _))) hm h2 hj2

set_option maxHeartbeats 4000000 in
set_option maxRecDepth 100000 in
theorem law_21 {yb yl : Nat} {yx : Nat → Int32} {D : zD} {z0 : Nat} {nm : String} {cells slots nx : Nat} {L : zL} {V : zV} {a i N : Nat} {sw : Bool} {w : Wo} {P : zP} (hs : sLI L a sw) (h : LI V a sw w) (hm : sM L (a + 471)) (hw : MW V (a + 471) w) (hj : JWo N w) (hN : N < 600000) (hcs : cells ≤ 600000 ∧ slots ≤ 7302250) (hi : i + 5 < yl) (hn : yl < 2147483648) (K : ∀ (L' : zL) (V' : zV) (sw' : Bool) (w' : Wo), sLI L' a sw' → LI V' a sw' w' → sM L' (a + 471) → MW V' (a + 471) w' → JWo (N + 1) w' → YL yb yl yx D z0 11 600000 7302250 (mL nm) cells slots 1246 [some (.ref yb), some (.ref a), some (.ref (a + 471)), some (.int (nI i))] [] L' V' nx P) : YL yb yl yx D z0 11 600000 7302250 (mL nm) cells slots 917 [some (.ref yb), some (.ref a), some (.ref (a + 471)), some (.int (nI i))] [] L V nx P := by
  refine y_aload_n dL_law_917 rfl ?_
  refine y_arg (k := 1) dL_law_918 dL_law_919 dL_law_920 dL_law_921 dL_law_922 rfl (by omega) hn ?_
  refine y_callV (As := [.int (yx (i + 1))]) (st := []) dL_law_923 kX11_by lL_103 hs.1 rfl (c_by hs h hj.hol) rfl rfl (Nat.le_of_ble_eq_true rfl) (Nat.le_of_ble_eq_true rfl) hcs ?_
  rintro v L1 V1 n1 ⟨rfl, rfl, rfl, he, h1⟩
  have hw1 := hw.eq he (Or.inr (Nat.le_refl _))
  refine y_aload_n dL_law_926 rfl ?_
  refine y_arg (k := 1) dL_law_927 dL_law_928 dL_law_929 dL_law_930 dL_law_931 rfl (by omega) hn ?_
  refine y_callV (As := [.int (yx (i + 1))]) dL_law_932 kX12_by lL_106 hm.1 rfl (m_by hm hw1 hj.hol) rfl rfl (Nat.le_of_ble_eq_true rfl) (Nat.le_of_ble_eq_true rfl) hcs ?_
  rintro v L2 V2 n2 ⟨rfl, rfl, rfl, he2, h2⟩
  refine y_icmp_eq (tgt := 1246) dL_law_935 (by decide) (fun _ => ?_) (fun c => absurd rfl c)
  have hj2 : JWo (N + 1) (o_by (yx (i + 1)) w).2 := by first | exact hj.up | (unfold o_by; (repeat' (first | exact hj.up | refine cif_J ?_ ?_ | split)))
  exact K _ _ _ _ hs (h1.out he2 (Or.inl (Nat.le_refl _))) hm h2 hj2

set_option maxHeartbeats 4000000 in
set_option maxRecDepth 100000 in
theorem law_22 {yb yl : Nat} {yx : Nat → Int32} {D : zD} {z0 : Nat} {nm : String} {cells slots nx : Nat} {L : zL} {V : zV} {a i N : Nat} {sw : Bool} {w : Wo} {P : zP} (hs : sLI L a sw) (h : LI V a sw w) (hm : sM L (a + 471)) (hw : MW V (a + 471) w) (hj : JWo N w) (hN : N < 600000) (hcs : cells ≤ 600000 ∧ slots ≤ 7302250) (hi : i + 5 < yl) (hn : yl < 2147483648) (K : ∀ (L' : zL) (V' : zV) (sw' : Bool) (w' : Wo), sLI L' a sw' → LI V' a sw' w' → sM L' (a + 471) → MW V' (a + 471) w' → JWo (N + 1) w' → YL yb yl yx D z0 11 600000 7302250 (mL nm) cells slots 1246 [some (.ref yb), some (.ref a), some (.ref (a + 471)), some (.int (nI i))] [] L' V' nx P) : YL yb yl yx D z0 11 600000 7302250 (mL nm) cells slots 940 [some (.ref yb), some (.ref a), some (.ref (a + 471)), some (.int (nI i))] [] L V nx P := by
  refine y_aload_n dL_law_940 rfl ?_
  refine y_arg (k := 1) dL_law_941 dL_law_942 dL_law_943 dL_law_944 dL_law_945 rfl (by omega) hn ?_
  refine y_callV (As := [.int (yx (i + 1))]) (st := []) dL_law_946 kX11_query lL_107 hs.1 rfl (c_query hs h ) rfl rfl (Nat.le_of_ble_eq_true rfl) (Nat.le_of_ble_eq_true rfl) hcs ?_
  rintro v L1 V1 n1 ⟨rfl, rfl, hL1, sw2, hs2, he, h1⟩
  have hm1 := sM_of hm hL1 (by omega)
  have hw1 := hw.eq he (Or.inr (Nat.le_refl _))
  refine y_aload_n dL_law_949 rfl ?_
  refine y_arg (k := 1) dL_law_950 dL_law_951 dL_law_952 dL_law_953 dL_law_954 rfl (by omega) hn ?_
  refine y_callV (As := [.int (yx (i + 1))]) dL_law_955 kX12_query lL_110 hm1.1 rfl (m_query hm1 hw1 ) rfl rfl (Nat.le_of_ble_eq_true rfl) (Nat.le_of_ble_eq_true rfl) hcs ?_
  rintro v L2 V2 n2 ⟨rfl, rfl, rfl, he2, h2⟩
  refine y_icmp_eq (tgt := 1246) dL_law_958 (by decide) (fun _ => ?_) (fun c => absurd rfl c)
  exact K _ _ _ _ hs2 (h1.out he2 (Or.inl (Nat.le_refl _))) hm1 h2 (J_query _ hj)

set_option maxHeartbeats 4000000 in
set_option maxRecDepth 100000 in
theorem law_23 {yb yl : Nat} {yx : Nat → Int32} {D : zD} {z0 : Nat} {nm : String} {cells slots nx : Nat} {L : zL} {V : zV} {a i N : Nat} {sw : Bool} {w : Wo} {P : zP} (hs : sLI L a sw) (h : LI V a sw w) (hm : sM L (a + 471)) (hw : MW V (a + 471) w) (hj : JWo N w) (hN : N < 600000) (hcs : cells ≤ 600000 ∧ slots ≤ 7302250) (hi : i + 5 < yl) (hn : yl < 2147483648) (K : ∀ (L' : zL) (V' : zV) (sw' : Bool) (w' : Wo), sLI L' a sw' → LI V' a sw' w' → sM L' (a + 471) → MW V' (a + 471) w' → JWo (N + 1) w' → YL yb yl yx D z0 11 600000 7302250 (mL nm) cells slots 1246 [some (.ref yb), some (.ref a), some (.ref (a + 471)), some (.int (nI i))] [] L' V' nx P) : YL yb yl yx D z0 11 600000 7302250 (mL nm) cells slots 963 [some (.ref yb), some (.ref a), some (.ref (a + 471)), some (.int (nI i))] [] L V nx P := by
  refine y_aload_n dL_law_963 rfl ?_
  refine y_arg (k := 1) dL_law_964 dL_law_965 dL_law_966 dL_law_967 dL_law_968 rfl (by omega) hn ?_
  refine y_callV (As := [.int (yx (i + 1))]) (st := []) dL_law_969 kX11_find lL_111 hs.1 rfl (c_find hs h ) rfl rfl (Nat.le_of_ble_eq_true rfl) (Nat.le_of_ble_eq_true rfl) hcs ?_
  rintro v L1 V1 n1 ⟨rfl, rfl, rfl, he, h1⟩
  have hw1 := hw.eq he (Or.inr (Nat.le_refl _))
  refine y_aload_n dL_law_972 rfl ?_
  refine y_arg (k := 1) dL_law_973 dL_law_974 dL_law_975 dL_law_976 dL_law_977 rfl (by omega) hn ?_
  refine y_callV (As := [.int (yx (i + 1))]) dL_law_978 kX12_find lL_114 hm.1 rfl (m_find hm hw1 hj.hfs) rfl rfl (Nat.le_of_ble_eq_true rfl) (Nat.le_of_ble_eq_true rfl) hcs ?_
  rintro v L2 V2 n2 ⟨rfl, rfl, rfl, he2, h2⟩
  refine y_icmp_eq (tgt := 1246) dL_law_981 (by decide) (fun _ => ?_) (fun c => absurd rfl c)
  have hj2 : JWo (N + 1) (o_find (yx (i + 1)) w).2 := by first | exact hj.up | (unfold o_find; (repeat' (first | exact hj.up | refine cif_J ?_ ?_ | split)))
  exact K _ _ _ _ hs (h1.out he2 (Or.inl (Nat.le_refl _))) hm h2 hj2

set_option maxHeartbeats 4000000 in
set_option maxRecDepth 100000 in
theorem law_24 {yb yl : Nat} {yx : Nat → Int32} {D : zD} {z0 : Nat} {nm : String} {cells slots nx : Nat} {L : zL} {V : zV} {a i N : Nat} {sw : Bool} {w : Wo} {P : zP} (hs : sLI L a sw) (h : LI V a sw w) (hm : sM L (a + 471)) (hw : MW V (a + 471) w) (hj : JWo N w) (hN : N < 600000) (hcs : cells ≤ 600000 ∧ slots ≤ 7302250) (hi : i + 5 < yl) (hn : yl < 2147483648) (K : ∀ (L' : zL) (V' : zV) (sw' : Bool) (w' : Wo), sLI L' a sw' → LI V' a sw' w' → sM L' (a + 471) → MW V' (a + 471) w' → JWo (N + 1) w' → YL yb yl yx D z0 11 600000 7302250 (mL nm) cells slots 1246 [some (.ref yb), some (.ref a), some (.ref (a + 471)), some (.int (nI i))] [] L' V' nx P) : YL yb yl yx D z0 11 600000 7302250 (mL nm) cells slots 986 [some (.ref yb), some (.ref a), some (.ref (a + 471)), some (.int (nI i))] [] L V nx P := by
  refine y_aload_n dL_law_986 rfl ?_
  refine y_arg (k := 1) dL_law_987 dL_law_988 dL_law_989 dL_law_990 dL_law_991 rfl (by omega) hn ?_
  refine y_arg (k := 2) dL_law_992 dL_law_993 dL_law_994 dL_law_995 dL_law_996 rfl (by omega) hn ?_
  refine y_callV (As := [.int (yx (i + 1)), .int (yx (i + 2))]) (st := []) dL_law_997 kX11_found lL_115 hs.1 rfl (c_found hs h ) rfl rfl (Nat.le_of_ble_eq_true rfl) (Nat.le_of_ble_eq_true rfl) hcs ?_
  rintro v L1 V1 n1 ⟨rfl, rfl, rfl, he, h1⟩
  have hw1 := hw.eq he (Or.inr (Nat.le_refl _))
  refine y_aload_n dL_law_1000 rfl ?_
  refine y_arg (k := 1) dL_law_1001 dL_law_1002 dL_law_1003 dL_law_1004 dL_law_1005 rfl (by omega) hn ?_
  refine y_arg (k := 2) dL_law_1006 dL_law_1007 dL_law_1008 dL_law_1009 dL_law_1010 rfl (by omega) hn ?_
  refine y_callV (As := [.int (yx (i + 1)), .int (yx (i + 2))]) dL_law_1011 kX12_found lL_118 hm.1 rfl (m_found hm hw1 hj.hfs) rfl rfl (Nat.le_of_ble_eq_true rfl) (Nat.le_of_ble_eq_true rfl) hcs ?_
  rintro v L2 V2 n2 ⟨rfl, rfl, rfl, he2, h2⟩
  refine y_icmp_eq (tgt := 1246) dL_law_1014 (by decide) (fun _ => ?_) (fun c => absurd rfl c)
  have hj2 : JWo (N + 1) (o_found (yx (i + 1)) (yx (i + 2)) w).2 := by first | exact hj.up | (unfold o_found; (repeat' (first | exact hj.up | refine cif_J ?_ ?_ | split)))
  exact K _ _ _ _ hs (h1.out he2 (Or.inl (Nat.le_refl _))) hm h2 hj2

set_option maxHeartbeats 4000000 in
set_option maxRecDepth 100000 in
theorem law_25 {yb yl : Nat} {yx : Nat → Int32} {D : zD} {z0 : Nat} {nm : String} {cells slots nx : Nat} {L : zL} {V : zV} {a i N : Nat} {sw : Bool} {w : Wo} {P : zP} (hs : sLI L a sw) (h : LI V a sw w) (hm : sM L (a + 471)) (hw : MW V (a + 471) w) (hj : JWo N w) (hN : N < 600000) (hcs : cells ≤ 600000 ∧ slots ≤ 7302250) (hi : i + 5 < yl) (hn : yl < 2147483648) (K : ∀ (L' : zL) (V' : zV) (sw' : Bool) (w' : Wo), sLI L' a sw' → LI V' a sw' w' → sM L' (a + 471) → MW V' (a + 471) w' → JWo (N + 1) w' → YL yb yl yx D z0 11 600000 7302250 (mL nm) cells slots 1246 [some (.ref yb), some (.ref a), some (.ref (a + 471)), some (.int (nI i))] [] L' V' nx P) : YL yb yl yx D z0 11 600000 7302250 (mL nm) cells slots 1019 [some (.ref yb), some (.ref a), some (.ref (a + 471)), some (.int (nI i))] [] L V nx P := by
  refine y_aload_n dL_law_1019 rfl ?_
  refine y_arg (k := 1) dL_law_1020 dL_law_1021 dL_law_1022 dL_law_1023 dL_law_1024 rfl (by omega) hn ?_
  refine y_callV (As := [.int (yx (i + 1))]) (st := []) dL_law_1025 kX11_plan lL_119 hs.1 rfl (c_plan hs h hw.hcd) rfl rfl (Nat.le_of_ble_eq_true rfl) (Nat.le_of_ble_eq_true rfl) hcs ?_
  rintro v L1 V1 n1 ⟨rfl, rfl, rfl, he, h1⟩
  have hw1 := hw.eq he (Or.inr (Nat.le_refl _))
  refine y_aload_n dL_law_1028 rfl ?_
  refine y_arg (k := 1) dL_law_1029 dL_law_1030 dL_law_1031 dL_law_1032 dL_law_1033 rfl (by omega) hn ?_
  refine y_callV (As := [.int (yx (i + 1))]) dL_law_1034 kX12_plan lL_122 hm.1 rfl (m_plan hm hw1 hj.hol hj.hnd) rfl rfl (Nat.le_of_ble_eq_true rfl) (Nat.le_of_ble_eq_true rfl) hcs ?_
  rintro v L2 V2 n2 ⟨rfl, rfl, rfl, he2, h2⟩
  refine y_icmp_eq (tgt := 1246) dL_law_1037 (by decide) (fun _ => ?_) (fun c => absurd rfl c)
  have hj2 : JWo (N + 1) (o_plan (yx (i + 1)) w).2 := by first | exact hj.up | (unfold o_plan; (repeat' (first | exact hj.up | refine cif_J ?_ ?_ | split)))
  exact K _ _ _ _ hs (h1.out he2 (Or.inl (Nat.le_refl _))) hm h2 hj2

set_option maxHeartbeats 4000000 in
set_option maxRecDepth 100000 in
theorem law_26 {yb yl : Nat} {yx : Nat → Int32} {D : zD} {z0 : Nat} {nm : String} {cells slots nx : Nat} {L : zL} {V : zV} {a i N : Nat} {sw : Bool} {w : Wo} {P : zP} (hs : sLI L a sw) (h : LI V a sw w) (hm : sM L (a + 471)) (hw : MW V (a + 471) w) (hj : JWo N w) (hN : N < 600000) (hcs : cells ≤ 600000 ∧ slots ≤ 7302250) (hi : i + 5 < yl) (hn : yl < 2147483648) (K : ∀ (L' : zL) (V' : zV) (sw' : Bool) (w' : Wo), sLI L' a sw' → LI V' a sw' w' → sM L' (a + 471) → MW V' (a + 471) w' → JWo (N + 1) w' → YL yb yl yx D z0 11 600000 7302250 (mL nm) cells slots 1246 [some (.ref yb), some (.ref a), some (.ref (a + 471)), some (.int (nI i))] [] L' V' nx P) : YL yb yl yx D z0 11 600000 7302250 (mL nm) cells slots 1042 [some (.ref yb), some (.ref a), some (.ref (a + 471)), some (.int (nI i))] [] L V nx P := by
  refine y_aload_n dL_law_1042 rfl ?_
  refine y_arg (k := 1) dL_law_1043 dL_law_1044 dL_law_1045 dL_law_1046 dL_law_1047 rfl (by omega) hn ?_
  refine y_callV (As := [.int (yx (i + 1))]) (st := []) dL_law_1048 kX11_far lL_123 hs.1 rfl (c_far hs h hj.hfr) rfl rfl (Nat.le_of_ble_eq_true rfl) (Nat.le_of_ble_eq_true rfl) hcs ?_
  rintro v L1 V1 n1 ⟨rfl, rfl, rfl, he, h1⟩
  have hw1 := hw.eq he (Or.inr (Nat.le_refl _))
  refine y_aload_n dL_law_1051 rfl ?_
  refine y_arg (k := 1) dL_law_1052 dL_law_1053 dL_law_1054 dL_law_1055 dL_law_1056 rfl (by omega) hn ?_
  refine y_callV (As := [.int (yx (i + 1))]) dL_law_1057 kX12_far lL_126 hm.1 rfl (m_far hm hw1 hj.hpw) rfl rfl (Nat.le_of_ble_eq_true rfl) (Nat.le_of_ble_eq_true rfl) hcs ?_
  rintro v L2 V2 n2 ⟨rfl, rfl, rfl, he2, h2⟩
  refine y_icmp_eq (tgt := 1246) dL_law_1060 (by decide) (fun _ => ?_) (fun c => absurd rfl c)
  have hj2 : JWo (N + 1) (o_far (yx (i + 1)) w).2 := by first | exact hj.up | (unfold o_far; (repeat' (first | exact hj.up | refine cif_J ?_ ?_ | split)))
  exact K _ _ _ _ hs (h1.out he2 (Or.inl (Nat.le_refl _))) hm h2 hj2

set_option maxHeartbeats 4000000 in
set_option maxRecDepth 100000 in
theorem law_27 {yb yl : Nat} {yx : Nat → Int32} {D : zD} {z0 : Nat} {nm : String} {cells slots nx : Nat} {L : zL} {V : zV} {a i N : Nat} {sw : Bool} {w : Wo} {P : zP} (hs : sLI L a sw) (h : LI V a sw w) (hm : sM L (a + 471)) (hw : MW V (a + 471) w) (hj : JWo N w) (hN : N < 600000) (hcs : cells ≤ 600000 ∧ slots ≤ 7302250) (hi : i + 5 < yl) (hn : yl < 2147483648) (K : ∀ (L' : zL) (V' : zV) (sw' : Bool) (w' : Wo), sLI L' a sw' → LI V' a sw' w' → sM L' (a + 471) → MW V' (a + 471) w' → JWo (N + 1) w' → YL yb yl yx D z0 11 600000 7302250 (mL nm) cells slots 1246 [some (.ref yb), some (.ref a), some (.ref (a + 471)), some (.int (nI i))] [] L' V' nx P) : YL yb yl yx D z0 11 600000 7302250 (mL nm) cells slots 1065 [some (.ref yb), some (.ref a), some (.ref (a + 471)), some (.int (nI i))] [] L V nx P := by
  refine y_aload_n dL_law_1065 rfl ?_
  refine y_arg (k := 1) dL_law_1066 dL_law_1067 dL_law_1068 dL_law_1069 dL_law_1070 rfl (by omega) hn ?_
  refine y_arg (k := 2) dL_law_1071 dL_law_1072 dL_law_1073 dL_law_1074 dL_law_1075 rfl (by omega) hn ?_
  refine y_arg (k := 3) dL_law_1076 dL_law_1077 dL_law_1078 dL_law_1079 dL_law_1080 rfl (by omega) hn ?_
  refine y_callV (As := [.int (yx (i + 1)), .int (yx (i + 2)), .int (yx (i + 3))]) (st := []) dL_law_1081 kX11_alike lL_127 hs.1 rfl (c_alike hs h ) rfl rfl (Nat.le_of_ble_eq_true rfl) (Nat.le_of_ble_eq_true rfl) hcs ?_
  rintro v L1 V1 n1 ⟨rfl, rfl, rfl, he, h1⟩
  have hw1 := hw.eq he (Or.inr (Nat.le_refl _))
  refine y_aload_n dL_law_1084 rfl ?_
  refine y_arg (k := 1) dL_law_1085 dL_law_1086 dL_law_1087 dL_law_1088 dL_law_1089 rfl (by omega) hn ?_
  refine y_arg (k := 2) dL_law_1090 dL_law_1091 dL_law_1092 dL_law_1093 dL_law_1094 rfl (by omega) hn ?_
  refine y_arg (k := 3) dL_law_1095 dL_law_1096 dL_law_1097 dL_law_1098 dL_law_1099 rfl (by omega) hn ?_
  refine y_callV (As := [.int (yx (i + 1)), .int (yx (i + 2)), .int (yx (i + 3))]) dL_law_1100 kX12_alike lL_130 hm.1 rfl (m_alike hm hw1 ) rfl rfl (Nat.le_of_ble_eq_true rfl) (Nat.le_of_ble_eq_true rfl) hcs ?_
  rintro v L2 V2 n2 ⟨rfl, rfl, rfl, he2, h2⟩
  refine y_icmp_eq (tgt := 1246) dL_law_1103 (by decide) (fun _ => ?_) (fun c => absurd rfl c)
  have hj2 : JWo (N + 1) (o_alike (yx (i + 1)) (yx (i + 2)) (yx (i + 3)) w).2 := by first | exact hj.up | (unfold o_alike; (repeat' (first | exact hj.up | refine cif_J ?_ ?_ | split)))
  exact K _ _ _ _ hs (h1.out he2 (Or.inl (Nat.le_refl _))) hm h2 hj2

set_option maxHeartbeats 4000000 in
set_option maxRecDepth 100000 in
theorem law_28 {yb yl : Nat} {yx : Nat → Int32} {D : zD} {z0 : Nat} {nm : String} {cells slots nx : Nat} {L : zL} {V : zV} {a i N : Nat} {sw : Bool} {w : Wo} {P : zP} (hs : sLI L a sw) (h : LI V a sw w) (hm : sM L (a + 471)) (hw : MW V (a + 471) w) (hj : JWo N w) (hN : N < 600000) (hcs : cells ≤ 600000 ∧ slots ≤ 7302250) (hi : i + 5 < yl) (hn : yl < 2147483648) (K : ∀ (L' : zL) (V' : zV) (sw' : Bool) (w' : Wo), sLI L' a sw' → LI V' a sw' w' → sM L' (a + 471) → MW V' (a + 471) w' → JWo (N + 1) w' → YL yb yl yx D z0 11 600000 7302250 (mL nm) cells slots 1246 [some (.ref yb), some (.ref a), some (.ref (a + 471)), some (.int (nI i))] [] L' V' nx P) : YL yb yl yx D z0 11 600000 7302250 (mL nm) cells slots 1108 [some (.ref yb), some (.ref a), some (.ref (a + 471)), some (.int (nI i))] [] L V nx P := by
  refine y_aload_n dL_law_1108 rfl ?_
  refine y_arg (k := 1) dL_law_1109 dL_law_1110 dL_law_1111 dL_law_1112 dL_law_1113 rfl (by omega) hn ?_
  refine y_arg (k := 2) dL_law_1114 dL_law_1115 dL_law_1116 dL_law_1117 dL_law_1118 rfl (by omega) hn ?_
  refine y_callV (As := [.int (yx (i + 1)), .int (yx (i + 2))]) (st := []) dL_law_1119 kX11_units lL_131 hs.1 rfl (c_units hs h (hj.hrd (by omega))) rfl rfl (Nat.le_of_ble_eq_true rfl) (Nat.le_of_ble_eq_true rfl) hcs ?_
  rintro v L1 V1 n1 ⟨rfl, rfl, rfl, he, h1⟩
  have hw1 := hw.eq he (Or.inr (Nat.le_refl _))
  refine y_aload_n dL_law_1122 rfl ?_
  refine y_arg (k := 1) dL_law_1123 dL_law_1124 dL_law_1125 dL_law_1126 dL_law_1127 rfl (by omega) hn ?_
  refine y_arg (k := 2) dL_law_1128 dL_law_1129 dL_law_1130 dL_law_1131 dL_law_1132 rfl (by omega) hn ?_
  refine y_callV (As := [.int (yx (i + 1)), .int (yx (i + 2))]) dL_law_1133 kX12_units lL_134 hm.1 rfl (m_units hm hw1 hj.hU0 (hj.hrd (by omega))) rfl rfl (Nat.le_of_ble_eq_true rfl) (Nat.le_of_ble_eq_true rfl) hcs ?_
  rintro v L2 V2 n2 ⟨rfl, rfl, rfl, he2, h2⟩
  refine y_icmp_eq (tgt := 1246) dL_law_1136 (by decide) (fun _ => ?_) (fun c => absurd rfl c)
  have hj2 : JWo (N + 1) (o_units (yx (i + 1)) (yx (i + 2)) w).2 := by first | exact hj.up | (unfold o_units; (repeat' (first | exact hj.up | refine cif_J ?_ ?_ | split)))
  exact K _ _ _ _ hs (h1.out he2 (Or.inl (Nat.le_refl _))) hm h2 hj2

set_option maxHeartbeats 4000000 in
set_option maxRecDepth 100000 in
theorem law_29 {yb yl : Nat} {yx : Nat → Int32} {D : zD} {z0 : Nat} {nm : String} {cells slots nx : Nat} {L : zL} {V : zV} {a i N : Nat} {sw : Bool} {w : Wo} {P : zP} (hs : sLI L a sw) (h : LI V a sw w) (hm : sM L (a + 471)) (hw : MW V (a + 471) w) (hj : JWo N w) (hN : N < 600000) (hcs : cells ≤ 600000 ∧ slots ≤ 7302250) (hi : i + 5 < yl) (hn : yl < 2147483648) (K : ∀ (L' : zL) (V' : zV) (sw' : Bool) (w' : Wo), sLI L' a sw' → LI V' a sw' w' → sM L' (a + 471) → MW V' (a + 471) w' → JWo (N + 1) w' → YL yb yl yx D z0 11 600000 7302250 (mL nm) cells slots 1246 [some (.ref yb), some (.ref a), some (.ref (a + 471)), some (.int (nI i))] [] L' V' nx P) : YL yb yl yx D z0 11 600000 7302250 (mL nm) cells slots 1141 [some (.ref yb), some (.ref a), some (.ref (a + 471)), some (.int (nI i))] [] L V nx P := by
  refine y_aload_n dL_law_1141 rfl ?_
  refine y_callV (As := []) (st := []) dL_law_1142 kX11_free lL_135 hs.1 rfl (c_free hs h ) rfl rfl (Nat.le_of_ble_eq_true rfl) (Nat.le_of_ble_eq_true rfl) hcs ?_
  rintro v L1 V1 n1 ⟨rfl, rfl, rfl, he, h1⟩
  have hw1 := hw.eq he (Or.inr (Nat.le_refl _))
  refine y_aload_n dL_law_1145 rfl ?_
  refine y_callV (As := []) dL_law_1146 kX12_free lL_138 hm.1 rfl (m_free hm hw1 hj.hcl) rfl rfl (Nat.le_of_ble_eq_true rfl) (Nat.le_of_ble_eq_true rfl) hcs ?_
  rintro v L2 V2 n2 ⟨rfl, rfl, rfl, he2, h2⟩
  refine y_icmp_eq (tgt := 1246) dL_law_1149 (by decide) (fun _ => ?_) (fun c => absurd rfl c)
  have hj2 : JWo (N + 1) (o_free  w).2 := by first | exact hj.up | (unfold o_free; (repeat' (first | exact hj.up | refine cif_J ?_ ?_ | split)))
  exact K _ _ _ _ hs (h1.out he2 (Or.inl (Nat.le_refl _))) hm h2 hj2

set_option maxHeartbeats 4000000 in
set_option maxRecDepth 100000 in
theorem law_30 {yb yl : Nat} {yx : Nat → Int32} {D : zD} {z0 : Nat} {nm : String} {cells slots nx : Nat} {L : zL} {V : zV} {a i N : Nat} {sw : Bool} {w : Wo} {P : zP} (hs : sLI L a sw) (h : LI V a sw w) (hm : sM L (a + 471)) (hw : MW V (a + 471) w) (hj : JWo N w) (hN : N < 600000) (hcs : cells ≤ 600000 ∧ slots ≤ 7302250) (hi : i + 5 < yl) (hn : yl < 2147483648) (K : ∀ (L' : zL) (V' : zV) (sw' : Bool) (w' : Wo), sLI L' a sw' → LI V' a sw' w' → sM L' (a + 471) → MW V' (a + 471) w' → JWo (N + 1) w' → YL yb yl yx D z0 11 600000 7302250 (mL nm) cells slots 1246 [some (.ref yb), some (.ref a), some (.ref (a + 471)), some (.int (nI i))] [] L' V' nx P) : YL yb yl yx D z0 11 600000 7302250 (mL nm) cells slots 1154 [some (.ref yb), some (.ref a), some (.ref (a + 471)), some (.int (nI i))] [] L V nx P := by
  refine y_aload_n dL_law_1154 rfl ?_
  refine y_arg (k := 1) dL_law_1155 dL_law_1156 dL_law_1157 dL_law_1158 dL_law_1159 rfl (by omega) hn ?_
  refine y_callV (As := [.int (yx (i + 1))]) (st := []) dL_law_1160 kX11_undo lL_139 hs.1 rfl (c_undo hs h ) rfl rfl (Nat.le_of_ble_eq_true rfl) (Nat.le_of_ble_eq_true rfl) hcs ?_
  rintro v L1 V1 n1 ⟨rfl, rfl, rfl, he, h1⟩
  have hw1 := hw.eq he (Or.inr (Nat.le_refl _))
  refine y_aload_n dL_law_1163 rfl ?_
  refine y_arg (k := 1) dL_law_1164 dL_law_1165 dL_law_1166 dL_law_1167 dL_law_1168 rfl (by omega) hn ?_
  refine y_callV (As := [.int (yx (i + 1))]) dL_law_1169 kX12_undo lL_142 hm.1 rfl (m_undo hm hw1 ) rfl rfl (Nat.le_of_ble_eq_true rfl) (Nat.le_of_ble_eq_true rfl) hcs ?_
  rintro v L2 V2 n2 ⟨rfl, rfl, rfl, he2, h2⟩
  refine y_icmp_eq (tgt := 1246) dL_law_1172 (by decide) (fun _ => ?_) (fun c => absurd rfl c)
  exact K _ _ _ _ hs (h1.out he2 (Or.inl (Nat.le_refl _))) hm h2 (J_undo _ hj h.2.1.1)

set_option maxHeartbeats 4000000 in
set_option maxRecDepth 100000 in
theorem law_31 {yb yl : Nat} {yx : Nat → Int32} {D : zD} {z0 : Nat} {nm : String} {cells slots nx : Nat} {L : zL} {V : zV} {a i N : Nat} {sw : Bool} {w : Wo} {P : zP} (hs : sLI L a sw) (h : LI V a sw w) (hm : sM L (a + 471)) (hw : MW V (a + 471) w) (hj : JWo N w) (hN : N < 600000) (hcs : cells ≤ 600000 ∧ slots ≤ 7302250) (hi : i + 5 < yl) (hn : yl < 2147483648) (K : ∀ (L' : zL) (V' : zV) (sw' : Bool) (w' : Wo), sLI L' a sw' → LI V' a sw' w' → sM L' (a + 471) → MW V' (a + 471) w' → JWo (N + 1) w' → YL yb yl yx D z0 11 600000 7302250 (mL nm) cells slots 1246 [some (.ref yb), some (.ref a), some (.ref (a + 471)), some (.int (nI i))] [] L' V' nx P) : YL yb yl yx D z0 11 600000 7302250 (mL nm) cells slots 1177 [some (.ref yb), some (.ref a), some (.ref (a + 471)), some (.int (nI i))] [] L V nx P := by
  refine y_aload_n dL_law_1177 rfl ?_
  refine y_arg (k := 1) dL_law_1178 dL_law_1179 dL_law_1180 dL_law_1181 dL_law_1182 rfl (by omega) hn ?_
  refine y_callV (As := [.int (yx (i + 1))]) (st := []) dL_law_1183 kX11_image lL_143 hs.1 rfl (c_image hs h ) rfl rfl (Nat.le_of_ble_eq_true rfl) (Nat.le_of_ble_eq_true rfl) hcs ?_
  rintro v L1 V1 n1 ⟨rfl, rfl, rfl, he, h1⟩
  have hw1 := hw.eq he (Or.inr (Nat.le_refl _))
  refine y_aload_n dL_law_1186 rfl ?_
  refine y_arg (k := 1) dL_law_1187 dL_law_1188 dL_law_1189 dL_law_1190 dL_law_1191 rfl (by omega) hn ?_
  refine y_callV (As := [.int (yx (i + 1))]) dL_law_1192 kX12_image lL_146 hm.1 rfl (m_image hm hw1 ) rfl rfl (Nat.le_of_ble_eq_true rfl) (Nat.le_of_ble_eq_true rfl) hcs ?_
  rintro v L2 V2 n2 ⟨rfl, rfl, rfl, he2, h2⟩
  refine y_icmp_eq (tgt := 1246) dL_law_1195 (by decide) (fun _ => ?_) (fun c => absurd rfl c)
  exact K _ _ _ _ hs (h1.out he2 (Or.inl (Nat.le_refl _))) hm h2 (J_image _ hj)

set_option maxHeartbeats 4000000 in
set_option maxRecDepth 100000 in
theorem law_32 {yb yl : Nat} {yx : Nat → Int32} {D : zD} {z0 : Nat} {nm : String} {cells slots nx : Nat} {L : zL} {V : zV} {a i N : Nat} {sw : Bool} {w : Wo} {P : zP} (hs : sLI L a sw) (h : LI V a sw w) (hm : sM L (a + 471)) (hw : MW V (a + 471) w) (hj : JWo N w) (hN : N < 600000) (hcs : cells ≤ 600000 ∧ slots ≤ 7302250) (hi : i + 5 < yl) (hn : yl < 2147483648) (K : ∀ (L' : zL) (V' : zV) (sw' : Bool) (w' : Wo), sLI L' a sw' → LI V' a sw' w' → sM L' (a + 471) → MW V' (a + 471) w' → JWo (N + 1) w' → YL yb yl yx D z0 11 600000 7302250 (mL nm) cells slots 1246 [some (.ref yb), some (.ref a), some (.ref (a + 471)), some (.int (nI i))] [] L' V' nx P) : YL yb yl yx D z0 11 600000 7302250 (mL nm) cells slots 1200 [some (.ref yb), some (.ref a), some (.ref (a + 471)), some (.int (nI i))] [] L V nx P := by
  refine y_aload_n dL_law_1200 rfl ?_
  refine y_arg (k := 1) dL_law_1201 dL_law_1202 dL_law_1203 dL_law_1204 dL_law_1205 rfl (by omega) hn ?_
  refine y_callV (As := [.int (yx (i + 1))]) (st := []) dL_law_1206 kX11_restore lL_147 hs.1 rfl (c_restore hs h ) rfl rfl (Nat.le_of_ble_eq_true rfl) (Nat.le_of_ble_eq_true rfl) hcs ?_
  rintro v L1 V1 n1 ⟨rfl, rfl, rfl, he, h1⟩
  have hw1 := hw.eq he (Or.inr (Nat.le_refl _))
  refine y_aload_n dL_law_1209 rfl ?_
  refine y_arg (k := 1) dL_law_1210 dL_law_1211 dL_law_1212 dL_law_1213 dL_law_1214 rfl (by omega) hn ?_
  refine y_callV (As := [.int (yx (i + 1))]) dL_law_1215 kX12_restore lL_150 hm.1 rfl (m_restore hm hw1 ) rfl rfl (Nat.le_of_ble_eq_true rfl) (Nat.le_of_ble_eq_true rfl) hcs ?_
  rintro v L2 V2 n2 ⟨rfl, rfl, rfl, he2, h2⟩
  refine y_icmp_eq (tgt := 1246) dL_law_1218 (by decide) (fun _ => ?_) (fun c => absurd rfl c)
  exact K _ _ _ _ hs (h1.out he2 (Or.inl (Nat.le_refl _))) hm h2 (J_restore _ hj)

set_option maxHeartbeats 4000000 in
set_option maxRecDepth 100000 in
theorem law_33 {yb yl : Nat} {yx : Nat → Int32} {D : zD} {z0 : Nat} {nm : String} {cells slots nx : Nat} {L : zL} {V : zV} {a i N : Nat} {sw : Bool} {w : Wo} {P : zP} (hs : sLI L a sw) (h : LI V a sw w) (hm : sM L (a + 471)) (hw : MW V (a + 471) w) (hj : JWo N w) (hN : N < 600000) (hcs : cells ≤ 600000 ∧ slots ≤ 7302250) (hi : i + 5 < yl) (hn : yl < 2147483648) (K : ∀ (L' : zL) (V' : zV) (sw' : Bool) (w' : Wo), sLI L' a sw' → LI V' a sw' w' → sM L' (a + 471) → MW V' (a + 471) w' → JWo (N + 1) w' → YL yb yl yx D z0 11 600000 7302250 (mL nm) cells slots 1246 [some (.ref yb), some (.ref a), some (.ref (a + 471)), some (.int (nI i))] [] L' V' nx P) : YL yb yl yx D z0 11 600000 7302250 (mL nm) cells slots 1223 [some (.ref yb), some (.ref a), some (.ref (a + 471)), some (.int (nI i))] [] L V nx P := by
  refine y_aload_n dL_law_1223 rfl ?_
  refine y_arg (k := 1) dL_law_1224 dL_law_1225 dL_law_1226 dL_law_1227 dL_law_1228 rfl (by omega) hn ?_
  refine y_callV (As := [.int (yx (i + 1))]) (st := []) dL_law_1229 kX11_count lL_151 hs.1 rfl (c_count hs h ) rfl rfl (Nat.le_of_ble_eq_true rfl) (Nat.le_of_ble_eq_true rfl) hcs ?_
  rintro v L1 V1 n1 ⟨rfl, rfl, rfl, he, h1⟩
  have hw1 := hw.eq he (Or.inr (Nat.le_refl _))
  refine y_aload_n dL_law_1232 rfl ?_
  refine y_arg (k := 1) dL_law_1233 dL_law_1234 dL_law_1235 dL_law_1236 dL_law_1237 rfl (by omega) hn ?_
  refine y_callV (As := [.int (yx (i + 1))]) dL_law_1238 kX12_count lL_154 hm.1 rfl (m_count hm hw1 ) rfl rfl (Nat.le_of_ble_eq_true rfl) (Nat.le_of_ble_eq_true rfl) hcs ?_
  rintro v L2 V2 n2 ⟨rfl, rfl, rfl, he2, h2⟩
  refine y_icmp_eq (tgt := 1246) dL_law_1241 (by decide) (fun _ => ?_) (fun c => absurd rfl c)
  have hj2 : JWo (N + 1) (o_count (yx (i + 1)) w).2 := by first | exact hj.up | (unfold o_count; (repeat' (first | exact hj.up | refine cif_J ?_ ?_ | split)))
  exact K _ _ _ _ hs (h1.out he2 (Or.inl (Nat.le_refl _))) hm h2 hj2

