section
-- 88.la
/-! the law: both sides together -/
theorem cE_lo {I I' : IM} (h : ∀ k, k < 59 → I' k = I k) : cE I' = cE I := by
  funext a
  have e29 : cSc I' = cSc I := by
    funext j
    unfold cSc
    rw [h 1 (by decide), h 4 (by decide), h 13 (by decide), h 18 (by decide), h 30 (by decide), h 23 (by decide), h 45 (by decide), h 46 (by decide), h 49 (by decide)]
  unfold cE
  rw [e29, h 2 (by decide), h 3 (by decide), h 4 (by decide), h 5 (by decide), h 6 (by decide), h 7 (by decide), h 8 (by decide), h 9 (by decide), h 10 (by decide), h 11 (by decide), h 12 (by decide), h 14 (by decide), h 15 (by decide), h 16 (by decide), h 17 (by decide), h 18 (by decide), h 19 (by decide), h 20 (by decide), h 21 (by decide), h 22 (by decide), h 23 (by decide), h 24 (by decide), h 30 (by decide), h 31 (by decide), h 32 (by decide), h 45 (by decide), h 47 (by decide), h 48 (by decide), h 49 (by decide), h 50 (by decide), h 51 (by decide), h 52 (by decide), h 53 (by decide), h 54 (by decide), h 56 (by decide), h 57 (by decide), h 58 (by decide)]
theorem rE_hi {I I' : IM} (h : ∀ k, 59 ≤ k → I' k = I k) : rE I' = rE I := by
  funext a
  have e29 : rSc I' = rSc I := by
    funext j
    unfold rSc
    rw [h 59 (by decide)]
  unfold rE
  rw [e29, h 59 (by decide), h 60 (by decide), h 61 (by decide), h 62 (by decide), h 63 (by decide), h 64 (by decide), h 65 (by decide), h 66 (by decide), h 67 (by decide), h 68 (by decide), h 69 (by decide), h 70 (by decide), h 71 (by decide), h 72 (by decide), h 73 (by decide), h 74 (by decide), h 75 (by decide), h 76 (by decide), h 77 (by decide), h 78 (by decide), h 79 (by decide), h 80 (by decide), h 81 (by decide), h 82 (by decide), h 83 (by decide), h 84 (by decide), h 85 (by decide), h 86 (by decide), h 87 (by decide), h 88 (by decide), h 89 (by decide), h 90 (by decide)]
/-- both sides hold the same -/
def Rel (I : IM) : Prop := cE I = rE I ∧ Inv (rE I) ∧ rOwn I
theorem Rel.c {I : IM} (h : Rel I) : cOk I := by
  unfold cOk
  rw [h.1]
  exact h.2.1
theorem Rel.mid {I I1 : IM} (h : Rel I) (k1 : ∀ k, 59 ≤ k → I1 k = I k) : rE I1 = cE I ∧ rOk I1 := by
  have e : rE I1 = rE I := rE_hi k1
  refine ⟨e.trans h.1.symm, ?_, ?_⟩
  · rw [e]
    exact h.2.1
  · obtain ⟨a1, a2, a3⟩ := h.2.2
    unfold rOwn
    rw [k1 59 (by decide), k1 92 (by decide)]
    exact ⟨a1, a2, a3⟩
theorem Rel.step {I I1 I2 : IM} (h : Rel I) (u : IM → IM) (k1 : ∀ k, 59 ≤ k → I1 k = I k) (e1 : cE I1 = u (cE I)) (k2 : ∀ k, k < 59 → I2 k = I1 k) (own : rOwn I2) (e2 : rE I2 = u (rE I1)) (hi : Inv (u (cE I))) : Rel I2 := by
  have e3 : rE I2 = u (cE I) := by rw [e2, (h.mid k1).1]
  refine ⟨?_, ?_, own⟩
  · rw [cE_lo k2, e1, e3]
  · rw [e3]
    exact hi
/-- the law's locals: the script, both objects, the place -/
abbrev lc (i : Nat) : List Value := [.ref (1000000 + 200), .ref 0, .ref 59, .int (nI i)]
section ARGS
variable {G : WG} {r : Nat × Nat × Nat} {S : Shp} {I : IM} {L : LM} {pc : Nat} {rest : List Value} {Post : PostT} {i : Nat}
theorem x_arg {k : Nat} {q : Int} (h0 : decode (mcc mLaw_law) pc = .ok (.aload_n 0, 1)) (h1 : decode (mcc mLaw_law) (pc + 1) = .ok (.iload_n 3, 1)) (h2 : decode (mcc mLaw_law) (pc + 2) = .ok (.iconst q, 1)) (hq : Int32.ofInt q = nI k) (h3 : decode (mcc mLaw_law) (pc + 3) = .ok (.iadd, 1)) (h4 : decode (mcc mLaw_law) (pc + 4) = .ok (.iaload, 1)) (hk : i + k < gL G) (hL : gL G ≤ 448)
    (kk : X mLaw_law G r S I L (pc + 5) (lc i) (.int (gx G (i + k)) :: rest) Post) : X mLaw_law G r S I L pc (lc i) rest Post := by
  refine x_aload_n h0 rfl ?_
  refine x_iload_n h1 rfl ?_
  refine x_iconst h2 hq ?_
  refine x_iadd h3 ?_
  rw [nI_add]
  refine x_ialdS h4 (vp_in_nI hk (by omega)) ?_
  rw [nI_clamp (n := i + k) (by omega)]
  exact kk
theorem x_arg6 {k : Nat} {q : Int} (h0 : decode (mcc mLaw_law) pc = .ok (.aload_n 0, 1)) (h1 : decode (mcc mLaw_law) (pc + 1) = .ok (.iload_n 3, 1)) (h2 : decode (mcc mLaw_law) (pc + 2) = .ok (.bipush q, 2)) (hq : (Int8.ofInt q).toInt32 = nI k) (h3 : decode (mcc mLaw_law) (pc + 4) = .ok (.iadd, 1)) (h4 : decode (mcc mLaw_law) (pc + 5) = .ok (.iaload, 1)) (hk : i + k < gL G) (hL : gL G ≤ 448)
    (kk : X mLaw_law G r S I L (pc + 6) (lc i) (.int (gx G (i + k)) :: rest) Post) : X mLaw_law G r S I L pc (lc i) rest Post := by
  refine x_aload_n h0 rfl ?_
  refine x_iload_n h1 rfl ?_
  refine x_bipush h2 hq ?_
  refine x_iadd h3 ?_
  rw [nI_add]
  refine x_ialdS h4 (vp_in_nI hk (by omega)) ?_
  rw [nI_clamp (n := i + k) (by omega)]
  exact kk
end ARGS
theorem and63 (x : Int32) : ∃ n, n < 64 ∧ x &&& 63 = nI n := by
  have h1 : (x &&& 63).toBitVec.toNat < 64 := by
    show (x.toBitVec &&& (63 : Int32).toBitVec).toNat < 64
    rw [BitVec.toNat_and]
    exact Nat.lt_of_le_of_lt Nat.and_le_right (by decide)
  refine ⟨(x &&& 63).toBitVec.toNat, h1, ?_⟩
  apply Int32.toBitVec_inj.mp
  show (x &&& 63).toBitVec = (Int32.ofNat (x &&& 63).toBitVec.toNat).toBitVec
  simp
theorem Inv_E0 : Inv E0 := by
  have p0 : pN E0 = 0 := rfl
  have q0 : qN E0 = 0 := rfl
  have s0 : sN E0 = 0 := rfl
  have t0 : tN E0 = 1 := rfl
  have w0 : wN E0 = 0 := rfl
  have z0 : zN E0 = 0 := rfl
  have a0 : sA E0 0 0 = 0 := rfl
  have a1 : sA E0 0 1 = 13 := rfl
  have a2 : sA E0 0 2 = 14 := rfl
  have a3 : sA E0 0 3 = 17 := rfl
  refine ⟨⟨by rw [p0]; rfl, by omega, fun p hp => by omega⟩, ⟨by rw [q0]; rfl, by omega, fun q hq => by omega⟩, ⟨by rw [s0]; rfl, by omega, fun s hs => by omega⟩, ⟨by rw [t0]; rfl, by omega, by omega, fun t ht => ?_⟩, ⟨by rw [w0]; rfl, by omega⟩, ⟨by rw [z0]; rfl, by omega, fun i hi => by omega⟩, ⟨Or.inl rfl, ⟨0, by omega, rfl, fun p hp => by omega⟩, ⟨0, by omega, rfl, fun s hs => by omega⟩, ⟨0, by omega, rfl⟩⟩, fun s hs => ?_, fun j => ⟨fun hj => ?_, fun hj => ?_⟩⟩
  · obtain rfl : t = 0 := by omega
    refine ⟨fun j hj => ?_, a0, by omega, by omega, by omega, by omega, fun j hj => ?_⟩
    · rcases (show j = 0 ∨ j = 1 ∨ j = 2 ∨ j = 3 by omega) with rfl | rfl | rfl | rfl <;> rfl
    · rcases (show j = 0 ∨ j = 1 ∨ j = 2 by omega) with rfl | rfl | rfl
      · rw [a0, a1]
        decide +kernel
      · rw [a1, a2]
        decide +kernel
      · rw [a2, a3]
        decide +kernel
  · refine ⟨Or.inl ?_, ⟨0, by omega, rfl⟩, fun _ => rfl⟩
    rcases (show s = 0 ∨ s = 1 ∨ s = 2 ∨ s = 3 by omega) with rfl | rfl | rfl | rfl <;> rfl
  · have e : fa0 j = 0 := if_neg (by omega)
    exact ⟨e, e⟩
  · exact ⟨rfl, rfl⟩
theorem wRef_E0 (s : Int32) : ¬ wRef E0 s = 0 := by
  unfold wRef
  by_cases c : inR s 0 3
  · rw [if_neg (not_not_intro c)]
    obtain ⟨k, hk, rfl⟩ := inR_of (n := 3) (by decide) c
    have e : E0 26 (cl (nI k)) = -1 := by
      rw [cl_nI (by omega)]
      rcases (show k = 0 ∨ k = 1 ∨ k = 2 ∨ k = 3 by omega) with rfl | rfl | rfl | rfl <;> rfl
    rw [if_pos e]
    decide
  · rw [if_pos c]
    decide
theorem alBad_E0 (p s : Int32) : ¬ alBad E0 p s = 0 := by
  unfold alBad
  by_cases c : ¬ inR p 0 (E0 29 1 - 1)
  · rw [if_pos c]
    decide
  · rw [if_neg c]
    exact wRef_E0 s
end
section
-- 89.lb
/-! the law's cases -/
theorem cmp_refl (x : Int64) : lg_cmp x x = 0 := by
  unfold lg_cmp
  rw [if_neg (by simp), if_pos rfl]
set_option maxHeartbeats 4000000 in
set_option maxRecDepth 100000 in
theorem law_far {G : WG} {I : IM} {L : LM} {Post : PostT} {i : Nat} (hi : i + 7 ≤ gL G) (hL : gL G ≤ 448) (hR : Rel I) (h : ∀ (I' : IM) (L' : LM), Rel I' → X mLaw_law G (83, 0, 0) S1 I' L' 1719 (lc i) [] Post) : X mLaw_law G (83, 0, 0) S1 I L 236 (lc i) [] Post := by
  refine x_aload_n dLaw_law_236 rfl ?_
  refine x_arg (k := 1) dLaw_law_237 dLaw_law_238 dLaw_law_239 rfl dLaw_law_240 dLaw_law_241 (by omega) hL ?_
  refine x_arg (k := 2) dLaw_law_242 dLaw_law_243 dLaw_law_244 rfl dLaw_law_245 dLaw_law_246 (by omega) hL ?_
  refine x_arg (k := 3) dLaw_law_247 dLaw_law_248 dLaw_law_249 rfl dLaw_law_250 dLaw_law_251 (by omega) hL ?_
  refine x_callV_3 c_W_far ok_W_far ml_Law_13 dLaw_law_252 rfl rfl rfl rfl rfl ?_
  refine ⟨_, _, _, rfl, rfl, hR.c, fun I1 k1 e1 => ?_⟩
  obtain ⟨m1, m2⟩ := hR.mid k1
  refine x_pop dLaw_law_255 rfl ?_
  refine x_aload_n dLaw_law_256 rfl ?_
  refine x_arg (k := 1) dLaw_law_257 dLaw_law_258 dLaw_law_259 rfl dLaw_law_260 dLaw_law_261 (by omega) hL ?_
  refine x_arg (k := 2) dLaw_law_262 dLaw_law_263 dLaw_law_264 rfl dLaw_law_265 dLaw_law_266 (by omega) hL ?_
  refine x_arg (k := 3) dLaw_law_267 dLaw_law_268 dLaw_law_269 rfl dLaw_law_270 dLaw_law_271 (by omega) hL ?_
  refine x_callV_3 c_R_far ok_R_far ml_Law_17 dLaw_law_272 rfl rfl rfl rfl rfl ?_
  refine ⟨_, _, _, rfl, rfl, m2, fun I2 L2 k2 own e2 => ?_⟩
  refine x_pop dLaw_law_275 rfl ?_
  refine x_goto (tgt := 1719) dLaw_law_276 (by decide) ?_
  exact h I2 L2 (hR.step (fun E => farU E (gx G (i + 1)) (gx G (i + 2)) (gx G (i + 3))) k1 e1 k2 own e2 (Inv_far hR.c _ _ _))
set_option maxHeartbeats 4000000 in
set_option maxRecDepth 100000 in
theorem law_hush {G : WG} {I : IM} {L : LM} {Post : PostT} {i : Nat} (hi : i + 7 ≤ gL G) (hL : gL G ≤ 448) (hR : Rel I) (h : ∀ (I' : IM) (L' : LM), Rel I' → X mLaw_law G (83, 0, 0) S1 I' L' 1719 (lc i) [] Post) : X mLaw_law G (83, 0, 0) S1 I L 279 (lc i) [] Post := by
  refine x_aload_n dLaw_law_279 rfl ?_
  refine x_arg (k := 1) dLaw_law_280 dLaw_law_281 dLaw_law_282 rfl dLaw_law_283 dLaw_law_284 (by omega) hL ?_
  refine x_arg (k := 2) dLaw_law_285 dLaw_law_286 dLaw_law_287 rfl dLaw_law_288 dLaw_law_289 (by omega) hL ?_
  refine x_callV_2 c_W_hush ok_W_hush ml_Law_18 dLaw_law_290 rfl rfl rfl rfl rfl ?_
  refine ⟨_, _, rfl, rfl, hR.c, fun I1 k1 e1 => ?_⟩
  obtain ⟨m1, m2⟩ := hR.mid k1
  refine x_pop dLaw_law_293 rfl ?_
  refine x_aload_n dLaw_law_294 rfl ?_
  refine x_arg (k := 1) dLaw_law_295 dLaw_law_296 dLaw_law_297 rfl dLaw_law_298 dLaw_law_299 (by omega) hL ?_
  refine x_arg (k := 2) dLaw_law_300 dLaw_law_301 dLaw_law_302 rfl dLaw_law_303 dLaw_law_304 (by omega) hL ?_
  refine x_callV_2 c_R_hush ok_R_hush ml_Law_22 dLaw_law_305 rfl rfl rfl rfl rfl ?_
  refine ⟨_, _, rfl, rfl, m2, fun I2 L2 k2 own e2 => ?_⟩
  refine x_pop dLaw_law_308 rfl ?_
  refine x_goto (tgt := 1719) dLaw_law_309 (by decide) ?_
  exact h I2 L2 (hR.step (fun E => hushU E (gx G (i + 1)) (gx G (i + 2))) k1 e1 k2 own e2 (Inv_hush hR.c _ _))
set_option maxHeartbeats 4000000 in
set_option maxRecDepth 100000 in
theorem law_stride {G : WG} {I : IM} {L : LM} {Post : PostT} {i : Nat} (hi : i + 7 ≤ gL G) (hL : gL G ≤ 448) (hR : Rel I) (h : ∀ (I' : IM) (L' : LM), Rel I' → X mLaw_law G (83, 0, 0) S1 I' L' 1719 (lc i) [] Post) : X mLaw_law G (83, 0, 0) S1 I L 312 (lc i) [] Post := by
  refine x_aload_n dLaw_law_312 rfl ?_
  refine x_arg (k := 1) dLaw_law_313 dLaw_law_314 dLaw_law_315 rfl dLaw_law_316 dLaw_law_317 (by omega) hL ?_
  refine x_callV_1 c_W_stride ok_W_stride ml_Law_23 dLaw_law_318 rfl rfl rfl rfl rfl ?_
  refine ⟨_, rfl, rfl, hR.c, fun I1 k1 e1 => ?_⟩
  obtain ⟨m1, m2⟩ := hR.mid k1
  refine x_pop dLaw_law_321 rfl ?_
  refine x_aload_n dLaw_law_322 rfl ?_
  refine x_arg (k := 1) dLaw_law_323 dLaw_law_324 dLaw_law_325 rfl dLaw_law_326 dLaw_law_327 (by omega) hL ?_
  refine x_callV_1 c_R_stride ok_R_stride ml_Law_27 dLaw_law_328 rfl rfl rfl rfl rfl ?_
  refine ⟨_, rfl, rfl, m2, fun I2 L2 k2 own e2 => ?_⟩
  refine x_pop dLaw_law_331 rfl ?_
  refine x_goto (tgt := 1719) dLaw_law_332 (by decide) ?_
  exact h I2 L2 (hR.step (fun E => strideU E (gx G (i + 1))) k1 e1 k2 own e2 (Inv_stride hR.c _))
set_option maxHeartbeats 4000000 in
set_option maxRecDepth 100000 in
theorem law_count {G : WG} {I : IM} {L : LM} {Post : PostT} {i : Nat} (hi : i + 7 ≤ gL G) (hL : gL G ≤ 448) (hR : Rel I) (h : ∀ (I' : IM) (L' : LM), Rel I' → X mLaw_law G (83, 0, 0) S1 I' L' 1719 (lc i) [] Post) : X mLaw_law G (83, 0, 0) S1 I L 335 (lc i) [] Post := by
  refine x_aload_n dLaw_law_335 rfl ?_
  refine x_arg (k := 1) dLaw_law_336 dLaw_law_337 dLaw_law_338 rfl dLaw_law_339 dLaw_law_340 (by omega) hL ?_
  refine x_callV_1 c_W_count ok_W_count ml_Law_28 dLaw_law_341 rfl rfl rfl rfl rfl ?_
  refine ⟨_, rfl, rfl, hR.c, fun I1 k1 e1 => ?_⟩
  obtain ⟨m1, m2⟩ := hR.mid k1
  refine x_pop dLaw_law_344 rfl ?_
  refine x_aload_n dLaw_law_345 rfl ?_
  refine x_arg (k := 1) dLaw_law_346 dLaw_law_347 dLaw_law_348 rfl dLaw_law_349 dLaw_law_350 (by omega) hL ?_
  refine x_callV_1 c_R_count ok_R_count ml_Law_31 dLaw_law_351 rfl rfl rfl rfl rfl ?_
  refine ⟨_, rfl, rfl, m2, fun I2 L2 k2 own e2 => ?_⟩
  refine x_pop dLaw_law_354 rfl ?_
  refine x_goto (tgt := 1719) dLaw_law_355 (by decide) ?_
  exact h I2 L2 (hR.step (fun E => E) k1 e1 k2 own e2 (hR.c))
set_option maxHeartbeats 4000000 in
set_option maxRecDepth 100000 in
theorem law_feed {G : WG} {I : IM} {L : LM} {Post : PostT} {i : Nat} (hi : i + 7 ≤ gL G) (hL : gL G ≤ 448) (hR : Rel I) (h : ∀ (I' : IM) (L' : LM), Rel I' → X mLaw_law G (83, 0, 0) S1 I' L' 1719 (lc i) [] Post) : X mLaw_law G (83, 0, 0) S1 I L 358 (lc i) [] Post := by
  refine x_aload_n dLaw_law_358 rfl ?_
  refine x_arg (k := 1) dLaw_law_359 dLaw_law_360 dLaw_law_361 rfl dLaw_law_362 dLaw_law_363 (by omega) hL ?_
  refine x_arg (k := 2) dLaw_law_364 dLaw_law_365 dLaw_law_366 rfl dLaw_law_367 dLaw_law_368 (by omega) hL ?_
  refine x_arg (k := 3) dLaw_law_369 dLaw_law_370 dLaw_law_371 rfl dLaw_law_372 dLaw_law_373 (by omega) hL ?_
  refine x_arg (k := 4) dLaw_law_374 dLaw_law_375 dLaw_law_376 rfl dLaw_law_377 dLaw_law_378 (by omega) hL ?_
  refine x_arg (k := 5) dLaw_law_379 dLaw_law_380 dLaw_law_381 rfl dLaw_law_382 dLaw_law_383 (by omega) hL ?_
  refine x_arg6 (k := 6) dLaw_law_384 dLaw_law_385 dLaw_law_386 rfl dLaw_law_388 dLaw_law_389 (by omega) hL ?_
  refine x_callV_6 c_W_feed ok_W_feed ml_Law_32 dLaw_law_390 rfl rfl rfl rfl rfl ?_
  refine ⟨_, _, _, _, _, _, rfl, rfl, hR.c, fun I1 k1 e1 => ?_⟩
  obtain ⟨m1, m2⟩ := hR.mid k1
  refine x_pop dLaw_law_393 rfl ?_
  refine x_aload_n dLaw_law_394 rfl ?_
  refine x_arg (k := 1) dLaw_law_395 dLaw_law_396 dLaw_law_397 rfl dLaw_law_398 dLaw_law_399 (by omega) hL ?_
  refine x_arg (k := 2) dLaw_law_400 dLaw_law_401 dLaw_law_402 rfl dLaw_law_403 dLaw_law_404 (by omega) hL ?_
  refine x_arg (k := 3) dLaw_law_405 dLaw_law_406 dLaw_law_407 rfl dLaw_law_408 dLaw_law_409 (by omega) hL ?_
  refine x_arg (k := 4) dLaw_law_410 dLaw_law_411 dLaw_law_412 rfl dLaw_law_413 dLaw_law_414 (by omega) hL ?_
  refine x_arg (k := 5) dLaw_law_415 dLaw_law_416 dLaw_law_417 rfl dLaw_law_418 dLaw_law_419 (by omega) hL ?_
  refine x_arg6 (k := 6) dLaw_law_420 dLaw_law_421 dLaw_law_422 rfl dLaw_law_424 dLaw_law_425 (by omega) hL ?_
  refine x_callV_6 c_R_feed ok_R_feed ml_Law_36 dLaw_law_426 rfl rfl rfl rfl rfl ?_
  refine ⟨_, _, _, _, _, _, rfl, rfl, m2, fun I2 L2 k2 own e2 => ?_⟩
  refine x_pop dLaw_law_429 rfl ?_
  refine x_goto (tgt := 1719) dLaw_law_430 (by decide) ?_
  exact h I2 L2 (hR.step (fun E => feedU E (gx G (i + 1)) (gx G (i + 2)) (gx G (i + 3)) (gx G (i + 4)) (gx G (i + 5)) (gx G (i + 6))) k1 e1 k2 own e2 (Inv_feed hR.c _ _ _ _ _ _))
set_option maxHeartbeats 4000000 in
set_option maxRecDepth 100000 in
theorem law_text {G : WG} {I : IM} {L : LM} {Post : PostT} {i : Nat} (hi : i + 7 ≤ gL G) (hL : gL G ≤ 448) (hR : Rel I) (h : ∀ (I' : IM) (L' : LM), Rel I' → X mLaw_law G (83, 0, 0) S1 I' L' 1719 (lc i) [] Post) : X mLaw_law G (83, 0, 0) S1 I L 433 (lc i) [] Post := by
  refine x_aload_n dLaw_law_433 rfl ?_
  refine x_callV_0 c_W_text ok_W_text ml_Law_37 dLaw_law_434 rfl rfl rfl rfl rfl ?_
  refine ⟨rfl, rfl, hR.c, fun I1 k1 e1 hInv => ?_⟩
  obtain ⟨m1, m2⟩ := hR.mid k1
  refine x_pop dLaw_law_437 rfl ?_
  refine x_aload_n dLaw_law_438 rfl ?_
  refine x_callV_0 c_R_text ok_R_text ml_Law_41 dLaw_law_439 rfl rfl rfl rfl rfl ?_
  refine ⟨rfl, rfl, rTx.of m2.1, m2.2, fun I2 L2 k2 own e2 => ?_⟩
  refine x_pop dLaw_law_442 rfl ?_
  refine x_goto (tgt := 1719) dLaw_law_443 (by decide) ?_
  exact h I2 L2 (hR.step textU k1 e1 k2 own e2 hInv)
set_option maxHeartbeats 4000000 in
set_option maxRecDepth 100000 in
theorem law_force {G : WG} {I : IM} {L : LM} {Post : PostT} {i : Nat} (hi : i + 7 ≤ gL G) (hL : gL G ≤ 448) (hR : Rel I) (h : ∀ (I' : IM) (L' : LM), Rel I' → X mLaw_law G (83, 0, 0) S1 I' L' 1719 (lc i) [] Post) : X mLaw_law G (83, 0, 0) S1 I L 446 (lc i) [] Post := by
  refine x_aload_n dLaw_law_446 rfl ?_
  refine x_arg (k := 1) dLaw_law_447 dLaw_law_448 dLaw_law_449 rfl dLaw_law_450 dLaw_law_451 (by omega) hL ?_
  refine x_callV_1 c_W_force ok_W_force ml_Law_42 dLaw_law_452 rfl rfl rfl rfl rfl ?_
  refine ⟨_, rfl, rfl, hR.c, fun I1 k1 e1 => ?_⟩
  obtain ⟨m1, m2⟩ := hR.mid k1
  refine x_pop dLaw_law_455 rfl ?_
  refine x_aload_n dLaw_law_456 rfl ?_
  refine x_arg (k := 1) dLaw_law_457 dLaw_law_458 dLaw_law_459 rfl dLaw_law_460 dLaw_law_461 (by omega) hL ?_
  refine x_callV_1 c_R_force ok_R_force ml_Law_45 dLaw_law_462 rfl rfl rfl rfl rfl ?_
  refine ⟨_, rfl, rfl, m2, fun I2 L2 k2 own e2 => ?_⟩
  refine x_pop dLaw_law_465 rfl ?_
  refine x_goto (tgt := 1719) dLaw_law_466 (by decide) ?_
  exact h I2 L2 (hR.step (fun E => forceU E (gx G (i + 1))) k1 e1 k2 own e2 (Inv_force hR.c _))
set_option maxHeartbeats 4000000 in
set_option maxRecDepth 100000 in
theorem law_person {G : WG} {I : IM} {L : LM} {Post : PostT} {i : Nat} (hi : i + 7 ≤ gL G) (hL : gL G ≤ 448) (hR : Rel I) (h : ∀ (I' : IM) (L' : LM), Rel I' → X mLaw_law G (83, 0, 0) S1 I' L' 1719 (lc i) [] Post) : X mLaw_law G (83, 0, 0) S1 I L 469 (lc i) [] Post := by
  refine x_aload_n dLaw_law_469 rfl ?_
  refine x_arg (k := 1) dLaw_law_470 dLaw_law_471 dLaw_law_472 rfl dLaw_law_473 dLaw_law_474 (by omega) hL ?_
  refine x_arg (k := 2) dLaw_law_475 dLaw_law_476 dLaw_law_477 rfl dLaw_law_478 dLaw_law_479 (by omega) hL ?_
  refine x_arg (k := 3) dLaw_law_480 dLaw_law_481 dLaw_law_482 rfl dLaw_law_483 dLaw_law_484 (by omega) hL ?_
  refine x_arg (k := 4) dLaw_law_485 dLaw_law_486 dLaw_law_487 rfl dLaw_law_488 dLaw_law_489 (by omega) hL ?_
  refine x_callV_4 c_W_person ok_W_person ml_Law_46 dLaw_law_490 rfl rfl rfl rfl rfl ?_
  refine ⟨_, _, _, _, rfl, rfl, hR.c, fun I1 k1 e1 => ?_⟩
  obtain ⟨m1, m2⟩ := hR.mid k1
  refine x_pop dLaw_law_493 rfl ?_
  refine x_aload_n dLaw_law_494 rfl ?_
  refine x_arg (k := 1) dLaw_law_495 dLaw_law_496 dLaw_law_497 rfl dLaw_law_498 dLaw_law_499 (by omega) hL ?_
  refine x_arg (k := 2) dLaw_law_500 dLaw_law_501 dLaw_law_502 rfl dLaw_law_503 dLaw_law_504 (by omega) hL ?_
  refine x_arg (k := 3) dLaw_law_505 dLaw_law_506 dLaw_law_507 rfl dLaw_law_508 dLaw_law_509 (by omega) hL ?_
  refine x_arg (k := 4) dLaw_law_510 dLaw_law_511 dLaw_law_512 rfl dLaw_law_513 dLaw_law_514 (by omega) hL ?_
  refine x_callV_4 c_R_person ok_R_person ml_Law_50 dLaw_law_515 rfl rfl rfl rfl rfl ?_
  refine ⟨_, _, _, _, rfl, rfl, m2, fun I2 L2 k2 own e2 => ?_⟩
  refine x_pop dLaw_law_518 rfl ?_
  refine x_goto (tgt := 1719) dLaw_law_519 (by decide) ?_
  exact h I2 L2 (hR.step (fun E => personU E (gx G (i + 1)) (gx G (i + 2)) (gx G (i + 3)) (gx G (i + 4))) k1 e1 k2 own e2 (Inv_person hR.c _ _ _ _))
set_option maxHeartbeats 4000000 in
set_option maxRecDepth 100000 in
theorem law_move {G : WG} {I : IM} {L : LM} {Post : PostT} {i : Nat} (hi : i + 7 ≤ gL G) (hL : gL G ≤ 448) (hR : Rel I) (h : ∀ (I' : IM) (L' : LM), Rel I' → X mLaw_law G (83, 0, 0) S1 I' L' 1719 (lc i) [] Post) : X mLaw_law G (83, 0, 0) S1 I L 522 (lc i) [] Post := by
  refine x_aload_n dLaw_law_522 rfl ?_
  refine x_arg (k := 1) dLaw_law_523 dLaw_law_524 dLaw_law_525 rfl dLaw_law_526 dLaw_law_527 (by omega) hL ?_
  refine x_arg (k := 2) dLaw_law_528 dLaw_law_529 dLaw_law_530 rfl dLaw_law_531 dLaw_law_532 (by omega) hL ?_
  refine x_callV_2 c_W_move ok_W_move ml_Law_51 dLaw_law_533 rfl rfl rfl rfl rfl ?_
  refine ⟨_, _, rfl, rfl, hR.c, fun I1 k1 e1 => ?_⟩
  obtain ⟨m1, m2⟩ := hR.mid k1
  refine x_pop dLaw_law_536 rfl ?_
  refine x_aload_n dLaw_law_537 rfl ?_
  refine x_arg (k := 1) dLaw_law_538 dLaw_law_539 dLaw_law_540 rfl dLaw_law_541 dLaw_law_542 (by omega) hL ?_
  refine x_arg (k := 2) dLaw_law_543 dLaw_law_544 dLaw_law_545 rfl dLaw_law_546 dLaw_law_547 (by omega) hL ?_
  refine x_callV_2 c_R_move ok_R_move ml_Law_54 dLaw_law_548 rfl rfl rfl rfl rfl ?_
  refine ⟨_, _, rfl, rfl, m2, fun I2 L2 k2 own e2 => ?_⟩
  refine x_pop dLaw_law_551 rfl ?_
  refine x_goto (tgt := 1719) dLaw_law_552 (by decide) ?_
  exact h I2 L2 (hR.step (fun E => moveU E (gx G (i + 1)) (gx G (i + 2))) k1 e1 k2 own e2 (Inv_move hR.c _ _))
set_option maxHeartbeats 4000000 in
set_option maxRecDepth 100000 in
theorem law_told {G : WG} {I : IM} {L : LM} {Post : PostT} {i : Nat} (hi : i + 7 ≤ gL G) (hL : gL G ≤ 448) (hR : Rel I) (h : ∀ (I' : IM) (L' : LM), Rel I' → X mLaw_law G (83, 0, 0) S1 I' L' 1719 (lc i) [] Post) : X mLaw_law G (83, 0, 0) S1 I L 555 (lc i) [] Post := by
  refine x_aload_n dLaw_law_555 rfl ?_
  refine x_arg (k := 1) dLaw_law_556 dLaw_law_557 dLaw_law_558 rfl dLaw_law_559 dLaw_law_560 (by omega) hL ?_
  refine x_arg (k := 2) dLaw_law_561 dLaw_law_562 dLaw_law_563 rfl dLaw_law_564 dLaw_law_565 (by omega) hL ?_
  refine x_callV_2 c_W_told ok_W_told ml_Law_55 dLaw_law_566 rfl rfl rfl rfl rfl ?_
  refine ⟨_, _, rfl, rfl, hR.c, fun I1 k1 e1 => ?_⟩
  obtain ⟨m1, m2⟩ := hR.mid k1
  refine x_pop dLaw_law_569 rfl ?_
  refine x_aload_n dLaw_law_570 rfl ?_
  refine x_arg (k := 1) dLaw_law_571 dLaw_law_572 dLaw_law_573 rfl dLaw_law_574 dLaw_law_575 (by omega) hL ?_
  refine x_arg (k := 2) dLaw_law_576 dLaw_law_577 dLaw_law_578 rfl dLaw_law_579 dLaw_law_580 (by omega) hL ?_
  refine x_callV_2 c_R_told ok_R_told ml_Law_58 dLaw_law_581 rfl rfl rfl rfl rfl ?_
  refine ⟨_, _, rfl, rfl, m2, fun I2 L2 k2 own e2 => ?_⟩
  refine x_pop dLaw_law_584 rfl ?_
  refine x_goto (tgt := 1719) dLaw_law_585 (by decide) ?_
  exact h I2 L2 (hR.step (fun E => E) k1 e1 k2 own e2 (hR.c))
set_option maxHeartbeats 4000000 in
set_option maxRecDepth 100000 in
theorem law_promise {G : WG} {I : IM} {L : LM} {Post : PostT} {i : Nat} (hi : i + 7 ≤ gL G) (hL : gL G ≤ 448) (hR : Rel I) (h : ∀ (I' : IM) (L' : LM), Rel I' → X mLaw_law G (83, 0, 0) S1 I' L' 1719 (lc i) [] Post) : X mLaw_law G (83, 0, 0) S1 I L 588 (lc i) [] Post := by
  refine x_aload_n dLaw_law_588 rfl ?_
  refine x_arg (k := 1) dLaw_law_589 dLaw_law_590 dLaw_law_591 rfl dLaw_law_592 dLaw_law_593 (by omega) hL ?_
  refine x_arg (k := 2) dLaw_law_594 dLaw_law_595 dLaw_law_596 rfl dLaw_law_597 dLaw_law_598 (by omega) hL ?_
  refine x_arg (k := 3) dLaw_law_599 dLaw_law_600 dLaw_law_601 rfl dLaw_law_602 dLaw_law_603 (by omega) hL ?_
  refine x_arg (k := 4) dLaw_law_604 dLaw_law_605 dLaw_law_606 rfl dLaw_law_607 dLaw_law_608 (by omega) hL ?_
  refine x_callV_4 c_W_promise ok_W_promise ml_Law_59 dLaw_law_609 rfl rfl rfl rfl rfl ?_
  refine ⟨_, _, _, _, rfl, rfl, hR.c, fun I1 k1 e1 => ?_⟩
  obtain ⟨m1, m2⟩ := hR.mid k1
  refine x_pop dLaw_law_612 rfl ?_
  refine x_aload_n dLaw_law_613 rfl ?_
  refine x_arg (k := 1) dLaw_law_614 dLaw_law_615 dLaw_law_616 rfl dLaw_law_617 dLaw_law_618 (by omega) hL ?_
  refine x_arg (k := 2) dLaw_law_619 dLaw_law_620 dLaw_law_621 rfl dLaw_law_622 dLaw_law_623 (by omega) hL ?_
  refine x_arg (k := 3) dLaw_law_624 dLaw_law_625 dLaw_law_626 rfl dLaw_law_627 dLaw_law_628 (by omega) hL ?_
  refine x_arg (k := 4) dLaw_law_629 dLaw_law_630 dLaw_law_631 rfl dLaw_law_632 dLaw_law_633 (by omega) hL ?_
  refine x_callV_4 c_R_promise ok_R_promise ml_Law_62 dLaw_law_634 rfl rfl rfl rfl rfl ?_
  refine ⟨_, _, _, _, rfl, rfl, m2, fun I2 L2 k2 own e2 => ?_⟩
  refine x_pop dLaw_law_637 rfl ?_
  refine x_goto (tgt := 1719) dLaw_law_638 (by decide) ?_
  exact h I2 L2 (hR.step (fun E => promiseU E (gx G (i + 1)) (gx G (i + 2)) (gx G (i + 3)) (gx G (i + 4))) k1 e1 k2 own e2 (Inv_promise hR.c _ _ _ _))
set_option maxHeartbeats 4000000 in
set_option maxRecDepth 100000 in
theorem law_promised {G : WG} {I : IM} {L : LM} {Post : PostT} {i : Nat} (hi : i + 7 ≤ gL G) (hL : gL G ≤ 448) (hR : Rel I) (h : ∀ (I' : IM) (L' : LM), Rel I' → X mLaw_law G (83, 0, 0) S1 I' L' 1719 (lc i) [] Post) : X mLaw_law G (83, 0, 0) S1 I L 641 (lc i) [] Post := by
  refine x_aload_n dLaw_law_641 rfl ?_
  refine x_arg (k := 1) dLaw_law_642 dLaw_law_643 dLaw_law_644 rfl dLaw_law_645 dLaw_law_646 (by omega) hL ?_
  refine x_arg (k := 2) dLaw_law_647 dLaw_law_648 dLaw_law_649 rfl dLaw_law_650 dLaw_law_651 (by omega) hL ?_
  refine x_callV_2 c_W_promised ok_W_promised ml_Law_63 dLaw_law_652 rfl rfl rfl rfl rfl ?_
  refine ⟨_, _, rfl, rfl, hR.c, fun I1 k1 e1 => ?_⟩
  obtain ⟨m1, m2⟩ := hR.mid k1
  refine x_pop dLaw_law_655 rfl ?_
  refine x_aload_n dLaw_law_656 rfl ?_
  refine x_arg (k := 1) dLaw_law_657 dLaw_law_658 dLaw_law_659 rfl dLaw_law_660 dLaw_law_661 (by omega) hL ?_
  refine x_arg (k := 2) dLaw_law_662 dLaw_law_663 dLaw_law_664 rfl dLaw_law_665 dLaw_law_666 (by omega) hL ?_
  refine x_callV_2 c_R_promised ok_R_promised ml_Law_66 dLaw_law_667 rfl rfl rfl rfl rfl ?_
  refine ⟨_, _, rfl, rfl, m2, fun I2 L2 k2 own e2 => ?_⟩
  refine x_pop dLaw_law_670 rfl ?_
  refine x_goto (tgt := 1719) dLaw_law_671 (by decide) ?_
  exact h I2 L2 (hR.step (fun E => E) k1 e1 k2 own e2 (hR.c))
set_option maxHeartbeats 4000000 in
set_option maxRecDepth 100000 in
theorem law_say {G : WG} {I : IM} {L : LM} {Post : PostT} {i : Nat} (hi : i + 7 ≤ gL G) (hL : gL G ≤ 448) (hR : Rel I) (h : ∀ (I' : IM) (L' : LM), Rel I' → X mLaw_law G (83, 0, 0) S1 I' L' 1719 (lc i) [] Post) : X mLaw_law G (83, 0, 0) S1 I L 674 (lc i) [] Post := by
  refine x_aload_n dLaw_law_674 rfl ?_
  refine x_arg (k := 1) dLaw_law_675 dLaw_law_676 dLaw_law_677 rfl dLaw_law_678 dLaw_law_679 (by omega) hL ?_
  refine x_arg (k := 2) dLaw_law_680 dLaw_law_681 dLaw_law_682 rfl dLaw_law_683 dLaw_law_684 (by omega) hL ?_
  refine x_callV_2 c_W_say ok_W_say ml_Law_67 dLaw_law_685 rfl rfl rfl rfl rfl ?_
  refine ⟨_, _, rfl, rfl, hR.c, fun I1 k1 e1 => ?_⟩
  obtain ⟨m1, m2⟩ := hR.mid k1
  refine x_pop dLaw_law_688 rfl ?_
  refine x_aload_n dLaw_law_689 rfl ?_
  refine x_arg (k := 1) dLaw_law_690 dLaw_law_691 dLaw_law_692 rfl dLaw_law_693 dLaw_law_694 (by omega) hL ?_
  refine x_arg (k := 2) dLaw_law_695 dLaw_law_696 dLaw_law_697 rfl dLaw_law_698 dLaw_law_699 (by omega) hL ?_
  refine x_callV_2 c_R_say ok_R_say ml_Law_70 dLaw_law_700 rfl rfl rfl rfl rfl ?_
  refine ⟨_, _, rfl, rfl, m2, fun I2 L2 k2 own e2 => ?_⟩
  refine x_pop dLaw_law_703 rfl ?_
  refine x_goto (tgt := 1719) dLaw_law_704 (by decide) ?_
  exact h I2 L2 (hR.step (fun E => sayU E (gx G (i + 1)) (gx G (i + 2))) k1 e1 k2 own e2 (Inv_say hR.c _ _))
set_option maxHeartbeats 4000000 in
set_option maxRecDepth 100000 in
theorem law_unsay {G : WG} {I : IM} {L : LM} {Post : PostT} {i : Nat} (hi : i + 7 ≤ gL G) (hL : gL G ≤ 448) (hR : Rel I) (h : ∀ (I' : IM) (L' : LM), Rel I' → X mLaw_law G (83, 0, 0) S1 I' L' 1719 (lc i) [] Post) : X mLaw_law G (83, 0, 0) S1 I L 707 (lc i) [] Post := by
  refine x_aload_n dLaw_law_707 rfl ?_
  refine x_callV_0 c_W_unsay ok_W_unsay ml_Law_71 dLaw_law_708 rfl rfl rfl rfl rfl ?_
  refine ⟨rfl, rfl, hR.c, fun I1 k1 e1 => ?_⟩
  obtain ⟨m1, m2⟩ := hR.mid k1
  refine x_pop dLaw_law_711 rfl ?_
  refine x_aload_n dLaw_law_712 rfl ?_
  refine x_callV_0 c_R_unsay ok_R_unsay ml_Law_74 dLaw_law_713 rfl rfl rfl rfl rfl ?_
  refine ⟨rfl, rfl, m2, fun I2 L2 k2 own e2 => ?_⟩
  refine x_pop dLaw_law_716 rfl ?_
  refine x_goto (tgt := 1719) dLaw_law_717 (by decide) ?_
  exact h I2 L2 (hR.step (fun E => unsayU E) k1 e1 k2 own e2 (Inv_unsay hR.c ))
set_option maxHeartbeats 4000000 in
set_option maxRecDepth 100000 in
theorem law_said {G : WG} {I : IM} {L : LM} {Post : PostT} {i : Nat} (hi : i + 7 ≤ gL G) (hL : gL G ≤ 448) (hR : Rel I) (h : ∀ (I' : IM) (L' : LM), Rel I' → X mLaw_law G (83, 0, 0) S1 I' L' 1719 (lc i) [] Post) : X mLaw_law G (83, 0, 0) S1 I L 720 (lc i) [] Post := by
  refine x_aload_n dLaw_law_720 rfl ?_
  refine x_arg (k := 1) dLaw_law_721 dLaw_law_722 dLaw_law_723 rfl dLaw_law_724 dLaw_law_725 (by omega) hL ?_
  refine x_arg (k := 2) dLaw_law_726 dLaw_law_727 dLaw_law_728 rfl dLaw_law_729 dLaw_law_730 (by omega) hL ?_
  refine x_callV_2 c_W_said ok_W_said ml_Law_75 dLaw_law_731 rfl rfl rfl rfl rfl ?_
  refine ⟨_, _, rfl, rfl, hR.c, fun I1 k1 e1 => ?_⟩
  obtain ⟨m1, m2⟩ := hR.mid k1
  refine x_pop dLaw_law_734 rfl ?_
  refine x_aload_n dLaw_law_735 rfl ?_
  refine x_arg (k := 1) dLaw_law_736 dLaw_law_737 dLaw_law_738 rfl dLaw_law_739 dLaw_law_740 (by omega) hL ?_
  refine x_arg (k := 2) dLaw_law_741 dLaw_law_742 dLaw_law_743 rfl dLaw_law_744 dLaw_law_745 (by omega) hL ?_
  refine x_callV_2 c_R_said ok_R_said ml_Law_78 dLaw_law_746 rfl rfl rfl rfl rfl ?_
  refine ⟨_, _, rfl, rfl, m2, fun I2 L2 k2 own e2 => ?_⟩
  refine x_pop dLaw_law_749 rfl ?_
  refine x_goto (tgt := 1719) dLaw_law_750 (by decide) ?_
  exact h I2 L2 (hR.step (fun E => E) k1 e1 k2 own e2 (hR.c))
set_option maxHeartbeats 4000000 in
set_option maxRecDepth 100000 in
theorem law_hears {G : WG} {I : IM} {L : LM} {Post : PostT} {i : Nat} (hi : i + 7 ≤ gL G) (hL : gL G ≤ 448) (hR : Rel I) (h : ∀ (I' : IM) (L' : LM), Rel I' → X mLaw_law G (83, 0, 0) S1 I' L' 1719 (lc i) [] Post) : X mLaw_law G (83, 0, 0) S1 I L 753 (lc i) [] Post := by
  refine x_aload_n dLaw_law_753 rfl ?_
  refine x_arg (k := 1) dLaw_law_754 dLaw_law_755 dLaw_law_756 rfl dLaw_law_757 dLaw_law_758 (by omega) hL ?_
  refine x_arg (k := 2) dLaw_law_759 dLaw_law_760 dLaw_law_761 rfl dLaw_law_762 dLaw_law_763 (by omega) hL ?_
  refine x_callV_2 c_W_hears ok_W_hears ml_Law_79 dLaw_law_764 rfl rfl rfl rfl rfl ?_
  refine ⟨_, _, rfl, rfl, hR.c, fun I1 k1 e1 => ?_⟩
  obtain ⟨m1, m2⟩ := hR.mid k1
  refine x_pop dLaw_law_767 rfl ?_
  refine x_aload_n dLaw_law_768 rfl ?_
  refine x_arg (k := 1) dLaw_law_769 dLaw_law_770 dLaw_law_771 rfl dLaw_law_772 dLaw_law_773 (by omega) hL ?_
  refine x_arg (k := 2) dLaw_law_774 dLaw_law_775 dLaw_law_776 rfl dLaw_law_777 dLaw_law_778 (by omega) hL ?_
  refine x_callV_2 c_R_hears ok_R_hears ml_Law_82 dLaw_law_779 rfl rfl rfl rfl rfl ?_
  refine ⟨_, _, rfl, rfl, m2, fun I2 L2 k2 own e2 => ?_⟩
  refine x_pop dLaw_law_782 rfl ?_
  refine x_goto (tgt := 1719) dLaw_law_783 (by decide) ?_
  exact h I2 L2 (hR.step (fun E => E) k1 e1 k2 own e2 (hR.c))
set_option maxHeartbeats 4000000 in
set_option maxRecDepth 100000 in
theorem law_heard {G : WG} {I : IM} {L : LM} {Post : PostT} {i : Nat} (hi : i + 7 ≤ gL G) (hL : gL G ≤ 448) (hR : Rel I) (h : ∀ (I' : IM) (L' : LM), Rel I' → X mLaw_law G (83, 0, 0) S1 I' L' 1719 (lc i) [] Post) : X mLaw_law G (83, 0, 0) S1 I L 786 (lc i) [] Post := by
  refine x_aload_n dLaw_law_786 rfl ?_
  refine x_arg (k := 1) dLaw_law_787 dLaw_law_788 dLaw_law_789 rfl dLaw_law_790 dLaw_law_791 (by omega) hL ?_
  refine x_callV_1 c_W_heard ok_W_heard ml_Law_83 dLaw_law_792 rfl rfl rfl rfl rfl ?_
  refine ⟨_, rfl, rfl, hR.c, fun I1 k1 e1 => ?_⟩
  obtain ⟨m1, m2⟩ := hR.mid k1
  refine x_pop dLaw_law_795 rfl ?_
  refine x_aload_n dLaw_law_796 rfl ?_
  refine x_arg (k := 1) dLaw_law_797 dLaw_law_798 dLaw_law_799 rfl dLaw_law_800 dLaw_law_801 (by omega) hL ?_
  refine x_callV_1 c_R_heard ok_R_heard ml_Law_86 dLaw_law_802 rfl rfl rfl rfl rfl ?_
  refine ⟨_, rfl, rfl, m2, fun I2 L2 k2 own e2 => ?_⟩
  refine x_pop dLaw_law_805 rfl ?_
  refine x_goto (tgt := 1719) dLaw_law_806 (by decide) ?_
  exact h I2 L2 (hR.step (fun E => E) k1 e1 k2 own e2 (hR.c))
set_option maxHeartbeats 4000000 in
set_option maxRecDepth 100000 in
theorem law_nobody {G : WG} {I : IM} {L : LM} {Post : PostT} {i : Nat} (hi : i + 7 ≤ gL G) (hL : gL G ≤ 448) (hR : Rel I) (h : ∀ (I' : IM) (L' : LM), Rel I' → X mLaw_law G (83, 0, 0) S1 I' L' 1719 (lc i) [] Post) : X mLaw_law G (83, 0, 0) S1 I L 809 (lc i) [] Post := by
  refine x_aload_n dLaw_law_809 rfl ?_
  refine x_callV_0 c_W_nobody ok_W_nobody ml_Law_87 dLaw_law_810 rfl rfl rfl rfl rfl ?_
  refine ⟨rfl, rfl, hR.c, fun I1 k1 e1 => ?_⟩
  obtain ⟨m1, m2⟩ := hR.mid k1
  refine x_pop dLaw_law_813 rfl ?_
  refine x_aload_n dLaw_law_814 rfl ?_
  refine x_callV_0 c_R_nobody ok_R_nobody ml_Law_90 dLaw_law_815 rfl rfl rfl rfl rfl ?_
  refine ⟨rfl, rfl, m2, fun I2 L2 k2 own e2 => ?_⟩
  refine x_pop dLaw_law_818 rfl ?_
  refine x_goto (tgt := 1719) dLaw_law_819 (by decide) ?_
  exact h I2 L2 (hR.step (fun E => E) k1 e1 k2 own e2 (hR.c))
set_option maxHeartbeats 4000000 in
set_option maxRecDepth 100000 in
theorem law_owe {G : WG} {I : IM} {L : LM} {Post : PostT} {i : Nat} (hi : i + 7 ≤ gL G) (hL : gL G ≤ 448) (hR : Rel I) (h : ∀ (I' : IM) (L' : LM), Rel I' → X mLaw_law G (83, 0, 0) S1 I' L' 1719 (lc i) [] Post) : X mLaw_law G (83, 0, 0) S1 I L 822 (lc i) [] Post := by
  refine x_aload_n dLaw_law_822 rfl ?_
  refine x_arg (k := 1) dLaw_law_823 dLaw_law_824 dLaw_law_825 rfl dLaw_law_826 dLaw_law_827 (by omega) hL ?_
  refine x_arg (k := 2) dLaw_law_828 dLaw_law_829 dLaw_law_830 rfl dLaw_law_831 dLaw_law_832 (by omega) hL ?_
  refine x_callV_2 c_W_owe ok_W_owe ml_Law_91 dLaw_law_833 rfl rfl rfl rfl rfl ?_
  refine ⟨_, _, rfl, rfl, hR.c, fun I1 k1 e1 => ?_⟩
  obtain ⟨m1, m2⟩ := hR.mid k1
  refine x_pop dLaw_law_836 rfl ?_
  refine x_aload_n dLaw_law_837 rfl ?_
  refine x_arg (k := 1) dLaw_law_838 dLaw_law_839 dLaw_law_840 rfl dLaw_law_841 dLaw_law_842 (by omega) hL ?_
  refine x_arg (k := 2) dLaw_law_843 dLaw_law_844 dLaw_law_845 rfl dLaw_law_846 dLaw_law_847 (by omega) hL ?_
  refine x_callV_2 c_R_owe ok_R_owe ml_Law_94 dLaw_law_848 rfl rfl rfl rfl rfl ?_
  refine ⟨_, _, rfl, rfl, m2, fun I2 L2 k2 own e2 => ?_⟩
  refine x_pop dLaw_law_851 rfl ?_
  refine x_goto (tgt := 1719) dLaw_law_852 (by decide) ?_
  exact h I2 L2 (hR.step (fun E => E) k1 e1 k2 own e2 (hR.c))
set_option maxHeartbeats 4000000 in
set_option maxRecDepth 100000 in
theorem law_load {G : WG} {I : IM} {L : LM} {Post : PostT} {i : Nat} (hi : i + 7 ≤ gL G) (hL : gL G ≤ 448) (hR : Rel I) (h : ∀ (I' : IM) (L' : LM), Rel I' → X mLaw_law G (83, 0, 0) S1 I' L' 1719 (lc i) [] Post) : X mLaw_law G (83, 0, 0) S1 I L 855 (lc i) [] Post := by
  refine x_aload_n dLaw_law_855 rfl ?_
  refine x_arg (k := 1) dLaw_law_856 dLaw_law_857 dLaw_law_858 rfl dLaw_law_859 dLaw_law_860 (by omega) hL ?_
  refine x_arg (k := 2) dLaw_law_861 dLaw_law_862 dLaw_law_863 rfl dLaw_law_864 dLaw_law_865 (by omega) hL ?_
  refine x_callV_2 c_W_load ok_W_load ml_Law_95 dLaw_law_866 rfl rfl rfl rfl rfl ?_
  refine ⟨_, _, rfl, rfl, hR.c, fun I1 k1 e1 => ?_⟩
  obtain ⟨m1, m2⟩ := hR.mid k1
  refine x_pop dLaw_law_869 rfl ?_
  refine x_aload_n dLaw_law_870 rfl ?_
  refine x_arg (k := 1) dLaw_law_871 dLaw_law_872 dLaw_law_873 rfl dLaw_law_874 dLaw_law_875 (by omega) hL ?_
  refine x_arg (k := 2) dLaw_law_876 dLaw_law_877 dLaw_law_878 rfl dLaw_law_879 dLaw_law_880 (by omega) hL ?_
  refine x_callV_2 c_R_load ok_R_load ml_Law_98 dLaw_law_881 rfl rfl rfl rfl rfl ?_
  refine ⟨_, _, rfl, rfl, m2, fun I2 L2 k2 own e2 => ?_⟩
  refine x_pop dLaw_law_884 rfl ?_
  refine x_goto (tgt := 1719) dLaw_law_885 (by decide) ?_
  exact h I2 L2 (hR.step (fun E => E) k1 e1 k2 own e2 (hR.c))
set_option maxHeartbeats 4000000 in
set_option maxRecDepth 100000 in
theorem law_done {G : WG} {I : IM} {L : LM} {Post : PostT} {i : Nat} (hi : i + 7 ≤ gL G) (hL : gL G ≤ 448) (hR : Rel I) (h : ∀ (I' : IM) (L' : LM), Rel I' → X mLaw_law G (83, 0, 0) S1 I' L' 1719 (lc i) [] Post) : X mLaw_law G (83, 0, 0) S1 I L 888 (lc i) [] Post := by
  refine x_aload_n dLaw_law_888 rfl ?_
  refine x_arg (k := 1) dLaw_law_889 dLaw_law_890 dLaw_law_891 rfl dLaw_law_892 dLaw_law_893 (by omega) hL ?_
  refine x_callV_1 c_W_done ok_W_done ml_Law_99 dLaw_law_894 rfl rfl rfl rfl rfl ?_
  refine ⟨_, rfl, rfl, hR.c, fun I1 k1 e1 => ?_⟩
  obtain ⟨m1, m2⟩ := hR.mid k1
  refine x_pop dLaw_law_897 rfl ?_
  refine x_aload_n dLaw_law_898 rfl ?_
  refine x_arg (k := 1) dLaw_law_899 dLaw_law_900 dLaw_law_901 rfl dLaw_law_902 dLaw_law_903 (by omega) hL ?_
  refine x_callV_1 c_R_done ok_R_done ml_Law_102 dLaw_law_904 rfl rfl rfl rfl rfl ?_
  refine ⟨_, rfl, rfl, m2, fun I2 L2 k2 own e2 => ?_⟩
  refine x_pop dLaw_law_907 rfl ?_
  refine x_goto (tgt := 1719) dLaw_law_908 (by decide) ?_
  exact h I2 L2 (hR.step (fun E => E) k1 e1 k2 own e2 (hR.c))
set_option maxHeartbeats 4000000 in
set_option maxRecDepth 100000 in
theorem law_sum {G : WG} {I : IM} {L : LM} {Post : PostT} {i : Nat} (hi : i + 7 ≤ gL G) (hL : gL G ≤ 448) (hR : Rel I) (h : ∀ (I' : IM) (L' : LM), Rel I' → X mLaw_law G (83, 0, 0) S1 I' L' 1719 (lc i) [] Post) : X mLaw_law G (83, 0, 0) S1 I L 911 (lc i) [] Post := by
  refine x_aload_n dLaw_law_911 rfl ?_
  refine x_arg (k := 1) dLaw_law_912 dLaw_law_913 dLaw_law_914 rfl dLaw_law_915 dLaw_law_916 (by omega) hL ?_
  refine x_callV_1 c_W_sum ok_W_sum ml_Law_103 dLaw_law_917 rfl rfl rfl rfl rfl ?_
  refine ⟨_, rfl, rfl, hR.c, fun I1 k1 e1 => ?_⟩
  obtain ⟨m1, m2⟩ := hR.mid k1
  refine x_pop dLaw_law_920 rfl ?_
  refine x_aload_n dLaw_law_921 rfl ?_
  refine x_arg (k := 1) dLaw_law_922 dLaw_law_923 dLaw_law_924 rfl dLaw_law_925 dLaw_law_926 (by omega) hL ?_
  refine x_callV_1 c_R_sum ok_R_sum ml_Law_106 dLaw_law_927 rfl rfl rfl rfl rfl ?_
  refine ⟨_, rfl, rfl, m2, fun I2 L2 k2 own e2 => ?_⟩
  refine x_pop dLaw_law_930 rfl ?_
  refine x_goto (tgt := 1719) dLaw_law_931 (by decide) ?_
  exact h I2 L2 (hR.step (fun E => E) k1 e1 k2 own e2 (hR.c))
set_option maxHeartbeats 4000000 in
set_option maxRecDepth 100000 in
theorem law_judge {G : WG} {I : IM} {L : LM} {Post : PostT} {i : Nat} (hi : i + 7 ≤ gL G) (hL : gL G ≤ 448) (hR : Rel I) (h : ∀ (I' : IM) (L' : LM), Rel I' → X mLaw_law G (83, 0, 0) S1 I' L' 1719 (lc i) [] Post) : X mLaw_law G (83, 0, 0) S1 I L 934 (lc i) [] Post := by
  refine x_aload_n dLaw_law_934 rfl ?_
  refine x_callV_0 c_W_judge ok_W_judge ml_Law_107 dLaw_law_935 rfl rfl rfl rfl rfl ?_
  refine ⟨rfl, rfl, hR.c, fun I1 k1 e1 => ?_⟩
  obtain ⟨m1, m2⟩ := hR.mid k1
  refine x_pop dLaw_law_938 rfl ?_
  refine x_aload_n dLaw_law_939 rfl ?_
  refine x_callV_0 c_R_judge ok_R_judge ml_Law_110 dLaw_law_940 rfl rfl rfl rfl rfl ?_
  refine ⟨rfl, rfl, m2, fun I2 L2 k2 own e2 => ?_⟩
  refine x_pop dLaw_law_943 rfl ?_
  refine x_goto (tgt := 1719) dLaw_law_944 (by decide) ?_
  exact h I2 L2 (hR.step (fun E => E) k1 e1 k2 own e2 (hR.c))
set_option maxHeartbeats 4000000 in
set_option maxRecDepth 100000 in
theorem law_walk {G : WG} {I : IM} {L : LM} {Post : PostT} {i : Nat} (hi : i + 7 ≤ gL G) (hL : gL G ≤ 448) (hR : Rel I) (h : ∀ (I' : IM) (L' : LM), Rel I' → X mLaw_law G (83, 0, 0) S1 I' L' 1719 (lc i) [] Post) : X mLaw_law G (83, 0, 0) S1 I L 947 (lc i) [] Post := by
  refine x_aload_n dLaw_law_947 rfl ?_
  refine x_callV_0 c_W_walk ok_W_walk ml_Law_111 dLaw_law_948 rfl rfl rfl rfl rfl ?_
  refine ⟨rfl, rfl, hR.c, fun I1 k1 e1 => ?_⟩
  obtain ⟨m1, m2⟩ := hR.mid k1
  refine x_pop dLaw_law_951 rfl ?_
  refine x_aload_n dLaw_law_952 rfl ?_
  refine x_callV_0 c_R_walk ok_R_walk ml_Law_114 dLaw_law_953 rfl rfl rfl rfl rfl ?_
  refine ⟨rfl, rfl, m2, fun I2 L2 k2 own e2 => ?_⟩
  refine x_pop dLaw_law_956 rfl ?_
  refine x_goto (tgt := 1719) dLaw_law_957 (by decide) ?_
  exact h I2 L2 (hR.step (fun E => E) k1 e1 k2 own e2 (hR.c))
set_option maxHeartbeats 4000000 in
set_option maxRecDepth 100000 in
theorem law_best {G : WG} {I : IM} {L : LM} {Post : PostT} {i : Nat} (hi : i + 7 ≤ gL G) (hL : gL G ≤ 448) (hR : Rel I) (h : ∀ (I' : IM) (L' : LM), Rel I' → X mLaw_law G (83, 0, 0) S1 I' L' 1719 (lc i) [] Post) : X mLaw_law G (83, 0, 0) S1 I L 960 (lc i) [] Post := by
  refine x_aload_n dLaw_law_960 rfl ?_
  refine x_arg (k := 1) dLaw_law_961 dLaw_law_962 dLaw_law_963 rfl dLaw_law_964 dLaw_law_965 (by omega) hL ?_
  refine x_arg (k := 2) dLaw_law_966 dLaw_law_967 dLaw_law_968 rfl dLaw_law_969 dLaw_law_970 (by omega) hL ?_
  refine x_callV_2 c_W_best ok_W_best ml_Law_115 dLaw_law_971 rfl rfl rfl rfl rfl ?_
  refine ⟨_, _, rfl, rfl, hR.c, fun I1 k1 e1 => ?_⟩
  obtain ⟨m1, m2⟩ := hR.mid k1
  refine x_pop dLaw_law_974 rfl ?_
  refine x_aload_n dLaw_law_975 rfl ?_
  refine x_arg (k := 1) dLaw_law_976 dLaw_law_977 dLaw_law_978 rfl dLaw_law_979 dLaw_law_980 (by omega) hL ?_
  refine x_arg (k := 2) dLaw_law_981 dLaw_law_982 dLaw_law_983 rfl dLaw_law_984 dLaw_law_985 (by omega) hL ?_
  refine x_callV_2 c_R_best ok_R_best ml_Law_118 dLaw_law_986 rfl rfl rfl rfl rfl ?_
  refine ⟨_, _, rfl, rfl, m2, fun I2 L2 k2 own e2 => ?_⟩
  refine x_pop dLaw_law_989 rfl ?_
  refine x_goto (tgt := 1719) dLaw_law_990 (by decide) ?_
  exact h I2 L2 (hR.step (fun E => E) k1 e1 k2 own e2 (hR.c))
set_option maxHeartbeats 4000000 in
set_option maxRecDepth 100000 in
theorem law_foe {G : WG} {I : IM} {L : LM} {Post : PostT} {i : Nat} (hi : i + 7 ≤ gL G) (hL : gL G ≤ 448) (hR : Rel I) (h : ∀ (I' : IM) (L' : LM), Rel I' → X mLaw_law G (83, 0, 0) S1 I' L' 1719 (lc i) [] Post) : X mLaw_law G (83, 0, 0) S1 I L 993 (lc i) [] Post := by
  refine x_aload_n dLaw_law_993 rfl ?_
  refine x_arg (k := 1) dLaw_law_994 dLaw_law_995 dLaw_law_996 rfl dLaw_law_997 dLaw_law_998 (by omega) hL ?_
  refine x_arg (k := 2) dLaw_law_999 dLaw_law_1000 dLaw_law_1001 rfl dLaw_law_1002 dLaw_law_1003 (by omega) hL ?_
  refine x_arg (k := 3) dLaw_law_1004 dLaw_law_1005 dLaw_law_1006 rfl dLaw_law_1007 dLaw_law_1008 (by omega) hL ?_
  refine x_callV_3 c_W_foe ok_W_foe ml_Law_119 dLaw_law_1009 rfl rfl rfl rfl rfl ?_
  refine ⟨_, _, _, rfl, rfl, hR.c, fun I1 k1 e1 => ?_⟩
  obtain ⟨m1, m2⟩ := hR.mid k1
  refine x_pop dLaw_law_1012 rfl ?_
  refine x_aload_n dLaw_law_1013 rfl ?_
  refine x_arg (k := 1) dLaw_law_1014 dLaw_law_1015 dLaw_law_1016 rfl dLaw_law_1017 dLaw_law_1018 (by omega) hL ?_
  refine x_arg (k := 2) dLaw_law_1019 dLaw_law_1020 dLaw_law_1021 rfl dLaw_law_1022 dLaw_law_1023 (by omega) hL ?_
  refine x_arg (k := 3) dLaw_law_1024 dLaw_law_1025 dLaw_law_1026 rfl dLaw_law_1027 dLaw_law_1028 (by omega) hL ?_
  refine x_callV_3 c_R_foe ok_R_foe ml_Law_122 dLaw_law_1029 rfl rfl rfl rfl rfl ?_
  refine ⟨_, _, _, rfl, rfl, m2, fun I2 L2 k2 own e2 => ?_⟩
  refine x_pop dLaw_law_1032 rfl ?_
  refine x_goto (tgt := 1719) dLaw_law_1033 (by decide) ?_
  exact h I2 L2 (hR.step (fun E => E) k1 e1 k2 own e2 (hR.c))
set_option maxHeartbeats 4000000 in
set_option maxRecDepth 100000 in
theorem law_loud {G : WG} {I : IM} {L : LM} {Post : PostT} {i : Nat} (hi : i + 7 ≤ gL G) (hL : gL G ≤ 448) (hR : Rel I) (h : ∀ (I' : IM) (L' : LM), Rel I' → X mLaw_law G (83, 0, 0) S1 I' L' 1719 (lc i) [] Post) : X mLaw_law G (83, 0, 0) S1 I L 1036 (lc i) [] Post := by
  refine x_aload_n dLaw_law_1036 rfl ?_
  refine x_arg (k := 1) dLaw_law_1037 dLaw_law_1038 dLaw_law_1039 rfl dLaw_law_1040 dLaw_law_1041 (by omega) hL ?_
  refine x_arg (k := 2) dLaw_law_1042 dLaw_law_1043 dLaw_law_1044 rfl dLaw_law_1045 dLaw_law_1046 (by omega) hL ?_
  refine x_arg (k := 3) dLaw_law_1047 dLaw_law_1048 dLaw_law_1049 rfl dLaw_law_1050 dLaw_law_1051 (by omega) hL ?_
  refine x_callV_3 c_W_loud ok_W_loud ml_Law_123 dLaw_law_1052 rfl rfl rfl rfl rfl ?_
  refine ⟨_, _, _, rfl, rfl, hR.c, fun I1 k1 e1 => ?_⟩
  obtain ⟨m1, m2⟩ := hR.mid k1
  refine x_pop dLaw_law_1055 rfl ?_
  refine x_aload_n dLaw_law_1056 rfl ?_
  refine x_arg (k := 1) dLaw_law_1057 dLaw_law_1058 dLaw_law_1059 rfl dLaw_law_1060 dLaw_law_1061 (by omega) hL ?_
  refine x_arg (k := 2) dLaw_law_1062 dLaw_law_1063 dLaw_law_1064 rfl dLaw_law_1065 dLaw_law_1066 (by omega) hL ?_
  refine x_arg (k := 3) dLaw_law_1067 dLaw_law_1068 dLaw_law_1069 rfl dLaw_law_1070 dLaw_law_1071 (by omega) hL ?_
  refine x_callV_3 c_R_loud ok_R_loud ml_Law_126 dLaw_law_1072 rfl rfl rfl rfl rfl ?_
  refine ⟨_, _, _, rfl, rfl, m2, fun I2 L2 k2 own e2 => ?_⟩
  refine x_pop dLaw_law_1075 rfl ?_
  refine x_goto (tgt := 1719) dLaw_law_1076 (by decide) ?_
  exact h I2 L2 (hR.step (fun E => E) k1 e1 k2 own e2 (hR.c))
set_option maxHeartbeats 4000000 in
set_option maxRecDepth 100000 in
theorem law_spare {G : WG} {I : IM} {L : LM} {Post : PostT} {i : Nat} (hi : i + 7 ≤ gL G) (hL : gL G ≤ 448) (hR : Rel I) (h : ∀ (I' : IM) (L' : LM), Rel I' → X mLaw_law G (83, 0, 0) S1 I' L' 1719 (lc i) [] Post) : X mLaw_law G (83, 0, 0) S1 I L 1079 (lc i) [] Post := by
  refine x_aload_n dLaw_law_1079 rfl ?_
  refine x_callV_0 c_W_spare ok_W_spare ml_Law_127 dLaw_law_1080 rfl rfl rfl rfl rfl ?_
  refine ⟨rfl, rfl, hR.c, fun I1 k1 e1 => ?_⟩
  obtain ⟨m1, m2⟩ := hR.mid k1
  refine x_pop dLaw_law_1083 rfl ?_
  refine x_aload_n dLaw_law_1084 rfl ?_
  refine x_callV_0 c_R_spare ok_R_spare ml_Law_130 dLaw_law_1085 rfl rfl rfl rfl rfl ?_
  refine ⟨rfl, rfl, m2, fun I2 L2 k2 own e2 => ?_⟩
  refine x_pop dLaw_law_1088 rfl ?_
  refine x_goto (tgt := 1719) dLaw_law_1089 (by decide) ?_
  exact h I2 L2 (hR.step (fun E => E) k1 e1 k2 own e2 (hR.c))
set_option maxHeartbeats 4000000 in
set_option maxRecDepth 100000 in
theorem law_even {G : WG} {I : IM} {L : LM} {Post : PostT} {i : Nat} (hi : i + 7 ≤ gL G) (hL : gL G ≤ 448) (hR : Rel I) (h : ∀ (I' : IM) (L' : LM), Rel I' → X mLaw_law G (83, 0, 0) S1 I' L' 1719 (lc i) [] Post) : X mLaw_law G (83, 0, 0) S1 I L 1092 (lc i) [] Post := by
  refine x_aload_n dLaw_law_1092 rfl ?_
  refine x_arg (k := 1) dLaw_law_1093 dLaw_law_1094 dLaw_law_1095 rfl dLaw_law_1096 dLaw_law_1097 (by omega) hL ?_
  refine x_arg (k := 2) dLaw_law_1098 dLaw_law_1099 dLaw_law_1100 rfl dLaw_law_1101 dLaw_law_1102 (by omega) hL ?_
  refine x_callV_2 c_W_even ok_W_even ml_Law_131 dLaw_law_1103 rfl rfl rfl rfl rfl ?_
  refine ⟨_, _, rfl, rfl, hR.c, fun I1 k1 e1 => ?_⟩
  obtain ⟨m1, m2⟩ := hR.mid k1
  refine x_pop dLaw_law_1106 rfl ?_
  refine x_aload_n dLaw_law_1107 rfl ?_
  refine x_arg (k := 1) dLaw_law_1108 dLaw_law_1109 dLaw_law_1110 rfl dLaw_law_1111 dLaw_law_1112 (by omega) hL ?_
  refine x_arg (k := 2) dLaw_law_1113 dLaw_law_1114 dLaw_law_1115 rfl dLaw_law_1116 dLaw_law_1117 (by omega) hL ?_
  refine x_callV_2 c_R_even ok_R_even ml_Law_134 dLaw_law_1118 rfl rfl rfl rfl rfl ?_
  refine ⟨_, _, rfl, rfl, m2, fun I2 L2 k2 own e2 => ?_⟩
  refine x_pop dLaw_law_1121 rfl ?_
  refine x_goto (tgt := 1719) dLaw_law_1122 (by decide) ?_
  exact h I2 L2 (hR.step (fun E => E) k1 e1 k2 own e2 (hR.c))
set_option maxHeartbeats 4000000 in
set_option maxRecDepth 100000 in
theorem law_hardest {G : WG} {I : IM} {L : LM} {Post : PostT} {i : Nat} (hi : i + 7 ≤ gL G) (hL : gL G ≤ 448) (hR : Rel I) (h : ∀ (I' : IM) (L' : LM), Rel I' → X mLaw_law G (83, 0, 0) S1 I' L' 1719 (lc i) [] Post) : X mLaw_law G (83, 0, 0) S1 I L 1125 (lc i) [] Post := by
  refine x_aload_n dLaw_law_1125 rfl ?_
  refine x_arg (k := 1) dLaw_law_1126 dLaw_law_1127 dLaw_law_1128 rfl dLaw_law_1129 dLaw_law_1130 (by omega) hL ?_
  refine x_callV_1 c_W_hardest ok_W_hardest ml_Law_135 dLaw_law_1131 rfl rfl rfl rfl rfl ?_
  refine ⟨_, rfl, rfl, hR.c, fun I1 k1 e1 => ?_⟩
  obtain ⟨m1, m2⟩ := hR.mid k1
  refine x_pop dLaw_law_1134 rfl ?_
  refine x_aload_n dLaw_law_1135 rfl ?_
  refine x_arg (k := 1) dLaw_law_1136 dLaw_law_1137 dLaw_law_1138 rfl dLaw_law_1139 dLaw_law_1140 (by omega) hL ?_
  refine x_callV_1 c_R_hardest ok_R_hardest ml_Law_138 dLaw_law_1141 rfl rfl rfl rfl rfl ?_
  refine ⟨_, rfl, rfl, m2, fun I2 L2 k2 own e2 => ?_⟩
  refine x_pop dLaw_law_1144 rfl ?_
  refine x_goto (tgt := 1719) dLaw_law_1145 (by decide) ?_
  exact h I2 L2 (hR.step (fun E => E) k1 e1 k2 own e2 (hR.c))
set_option maxHeartbeats 4000000 in
set_option maxRecDepth 100000 in
theorem law_flee {G : WG} {I : IM} {L : LM} {Post : PostT} {i : Nat} (hi : i + 7 ≤ gL G) (hL : gL G ≤ 448) (hR : Rel I) (h : ∀ (I' : IM) (L' : LM), Rel I' → X mLaw_law G (83, 0, 0) S1 I' L' 1719 (lc i) [] Post) : X mLaw_law G (83, 0, 0) S1 I L 1148 (lc i) [] Post := by
  refine x_aload_n dLaw_law_1148 rfl ?_
  refine x_arg (k := 1) dLaw_law_1149 dLaw_law_1150 dLaw_law_1151 rfl dLaw_law_1152 dLaw_law_1153 (by omega) hL ?_
  refine x_arg (k := 2) dLaw_law_1154 dLaw_law_1155 dLaw_law_1156 rfl dLaw_law_1157 dLaw_law_1158 (by omega) hL ?_
  refine x_callV_2 c_W_flee ok_W_flee ml_Law_139 dLaw_law_1159 rfl rfl rfl rfl rfl ?_
  refine ⟨_, _, rfl, rfl, hR.c, fun I1 k1 e1 => ?_⟩
  obtain ⟨m1, m2⟩ := hR.mid k1
  refine x_pop dLaw_law_1162 rfl ?_
  refine x_aload_n dLaw_law_1163 rfl ?_
  refine x_arg (k := 1) dLaw_law_1164 dLaw_law_1165 dLaw_law_1166 rfl dLaw_law_1167 dLaw_law_1168 (by omega) hL ?_
  refine x_arg (k := 2) dLaw_law_1169 dLaw_law_1170 dLaw_law_1171 rfl dLaw_law_1172 dLaw_law_1173 (by omega) hL ?_
  refine x_callV_2 c_R_flee ok_R_flee ml_Law_142 dLaw_law_1174 rfl rfl rfl rfl rfl ?_
  refine ⟨_, _, rfl, rfl, m2, fun I2 L2 k2 own e2 => ?_⟩
  refine x_pop dLaw_law_1177 rfl ?_
  refine x_goto (tgt := 1719) dLaw_law_1178 (by decide) ?_
  exact h I2 L2 (hR.step (fun E => E) k1 e1 k2 own e2 (hR.c))
set_option maxHeartbeats 4000000 in
set_option maxRecDepth 100000 in
theorem law_send {G : WG} {I : IM} {L : LM} {Post : PostT} {i : Nat} (hi : i + 7 ≤ gL G) (hL : gL G ≤ 448) (hR : Rel I) (h : ∀ (I' : IM) (L' : LM), Rel I' → X mLaw_law G (83, 0, 0) S1 I' L' 1719 (lc i) [] Post) : X mLaw_law G (83, 0, 0) S1 I L 1181 (lc i) [] Post := by
  refine x_aload_n dLaw_law_1181 rfl ?_
  refine x_arg (k := 1) dLaw_law_1182 dLaw_law_1183 dLaw_law_1184 rfl dLaw_law_1185 dLaw_law_1186 (by omega) hL ?_
  refine x_arg (k := 2) dLaw_law_1187 dLaw_law_1188 dLaw_law_1189 rfl dLaw_law_1190 dLaw_law_1191 (by omega) hL ?_
  refine x_callV_2 c_W_send ok_W_send ml_Law_143 dLaw_law_1192 rfl rfl rfl rfl rfl ?_
  refine ⟨_, _, rfl, rfl, hR.c, fun I1 k1 e1 => ?_⟩
  obtain ⟨m1, m2⟩ := hR.mid k1
  refine x_pop dLaw_law_1195 rfl ?_
  refine x_aload_n dLaw_law_1196 rfl ?_
  refine x_arg (k := 1) dLaw_law_1197 dLaw_law_1198 dLaw_law_1199 rfl dLaw_law_1200 dLaw_law_1201 (by omega) hL ?_
  refine x_arg (k := 2) dLaw_law_1202 dLaw_law_1203 dLaw_law_1204 rfl dLaw_law_1205 dLaw_law_1206 (by omega) hL ?_
  refine x_callV_2 c_R_send ok_R_send ml_Law_146 dLaw_law_1207 rfl rfl rfl rfl rfl ?_
  refine ⟨_, _, rfl, rfl, m2, fun I2 L2 k2 own e2 => ?_⟩
  refine x_pop dLaw_law_1210 rfl ?_
  refine x_goto (tgt := 1719) dLaw_law_1211 (by decide) ?_
  exact h I2 L2 (hR.step (fun E => E) k1 e1 k2 own e2 (hR.c))
set_option maxHeartbeats 4000000 in
set_option maxRecDepth 100000 in
theorem law_rest {G : WG} {I : IM} {L : LM} {Post : PostT} {i : Nat} (hi : i + 7 ≤ gL G) (hL : gL G ≤ 448) (hR : Rel I) (h : ∀ (I' : IM) (L' : LM), Rel I' → X mLaw_law G (83, 0, 0) S1 I' L' 1719 (lc i) [] Post) : X mLaw_law G (83, 0, 0) S1 I L 1214 (lc i) [] Post := by
  refine x_aload_n dLaw_law_1214 rfl ?_
  refine x_arg (k := 1) dLaw_law_1215 dLaw_law_1216 dLaw_law_1217 rfl dLaw_law_1218 dLaw_law_1219 (by omega) hL ?_
  refine x_callV_1 c_W_rest ok_W_rest ml_Law_147 dLaw_law_1220 rfl rfl rfl rfl rfl ?_
  refine ⟨_, rfl, rfl, hR.c, fun I1 k1 e1 => ?_⟩
  obtain ⟨m1, m2⟩ := hR.mid k1
  refine x_pop dLaw_law_1223 rfl ?_
  refine x_aload_n dLaw_law_1224 rfl ?_
  refine x_arg (k := 1) dLaw_law_1225 dLaw_law_1226 dLaw_law_1227 rfl dLaw_law_1228 dLaw_law_1229 (by omega) hL ?_
  refine x_callV_1 c_R_rest ok_R_rest ml_Law_150 dLaw_law_1230 rfl rfl rfl rfl rfl ?_
  refine ⟨_, rfl, rfl, m2, fun I2 L2 k2 own e2 => ?_⟩
  refine x_pop dLaw_law_1233 rfl ?_
  refine x_goto (tgt := 1719) dLaw_law_1234 (by decide) ?_
  exact h I2 L2 (hR.step (fun E => restU E (gx G (i + 1))) k1 e1 k2 own e2 (Inv_rest hR.c _))
set_option maxHeartbeats 4000000 in
set_option maxRecDepth 100000 in
theorem law_chance {G : WG} {I : IM} {L : LM} {Post : PostT} {i : Nat} (hi : i + 7 ≤ gL G) (hL : gL G ≤ 448) (hR : Rel I) (h : ∀ (I' : IM) (L' : LM), Rel I' → X mLaw_law G (83, 0, 0) S1 I' L' 1719 (lc i) [] Post) : X mLaw_law G (83, 0, 0) S1 I L 1237 (lc i) [] Post := by
  refine x_aload_n dLaw_law_1237 rfl ?_
  refine x_arg (k := 1) dLaw_law_1238 dLaw_law_1239 dLaw_law_1240 rfl dLaw_law_1241 dLaw_law_1242 (by omega) hL ?_
  refine x_arg (k := 2) dLaw_law_1243 dLaw_law_1244 dLaw_law_1245 rfl dLaw_law_1246 dLaw_law_1247 (by omega) hL ?_
  refine x_callV_2 c_W_chance ok_W_chance ml_Law_151 dLaw_law_1248 rfl rfl rfl rfl rfl ?_
  refine ⟨_, _, rfl, rfl, hR.c, fun I1 k1 e1 => ?_⟩
  obtain ⟨m1, m2⟩ := hR.mid k1
  refine x_pop2 dLaw_law_1251 rfl ?_
  refine x_aload_n dLaw_law_1252 rfl ?_
  refine x_arg (k := 1) dLaw_law_1253 dLaw_law_1254 dLaw_law_1255 rfl dLaw_law_1256 dLaw_law_1257 (by omega) hL ?_
  refine x_arg (k := 2) dLaw_law_1258 dLaw_law_1259 dLaw_law_1260 rfl dLaw_law_1261 dLaw_law_1262 (by omega) hL ?_
  refine x_callV_2 c_R_chance ok_R_chance ml_Law_155 dLaw_law_1263 rfl rfl rfl rfl rfl ?_
  refine ⟨_, _, rfl, rfl, m2, fun I2 L2 k2 own e2 => ?_⟩
  refine x_pop2 dLaw_law_1266 rfl ?_
  refine x_goto (tgt := 1719) dLaw_law_1267 (by decide) ?_
  exact h I2 L2 (hR.step (fun E => E) k1 e1 k2 own e2 (hR.c))
set_option maxHeartbeats 4000000 in
set_option maxRecDepth 100000 in
theorem law_lost {G : WG} {I : IM} {L : LM} {Post : PostT} {i : Nat} (hi : i + 7 ≤ gL G) (hL : gL G ≤ 448) (hR : Rel I) (h : ∀ (I' : IM) (L' : LM), Rel I' → X mLaw_law G (83, 0, 0) S1 I' L' 1719 (lc i) [] Post) : X mLaw_law G (83, 0, 0) S1 I L 1270 (lc i) [] Post := by
  refine x_aload_n dLaw_law_1270 rfl ?_
  refine x_arg (k := 1) dLaw_law_1271 dLaw_law_1272 dLaw_law_1273 rfl dLaw_law_1274 dLaw_law_1275 (by omega) hL ?_
  refine x_callV_1 c_W_lost ok_W_lost ml_Law_156 dLaw_law_1276 rfl rfl rfl rfl rfl ?_
  refine ⟨_, rfl, rfl, hR.c, fun I1 k1 e1 => ?_⟩
  obtain ⟨m1, m2⟩ := hR.mid k1
  refine x_pop2 dLaw_law_1279 rfl ?_
  refine x_aload_n dLaw_law_1280 rfl ?_
  refine x_arg (k := 1) dLaw_law_1281 dLaw_law_1282 dLaw_law_1283 rfl dLaw_law_1284 dLaw_law_1285 (by omega) hL ?_
  refine x_callV_1 c_R_lost ok_R_lost ml_Law_160 dLaw_law_1286 rfl rfl rfl rfl rfl ?_
  refine ⟨_, rfl, rfl, m2, fun I2 L2 k2 own e2 => ?_⟩
  refine x_pop2 dLaw_law_1289 rfl ?_
  refine x_goto (tgt := 1719) dLaw_law_1290 (by decide) ?_
  exact h I2 L2 (hR.step (fun E => E) k1 e1 k2 own e2 (hR.c))
set_option maxHeartbeats 4000000 in
set_option maxRecDepth 100000 in
theorem law_laws {G : WG} {I : IM} {L : LM} {Post : PostT} {i : Nat} (hi : i + 7 ≤ gL G) (hL : gL G ≤ 448) (hR : Rel I) (h : ∀ (I' : IM) (L' : LM), Rel I' → X mLaw_law G (83, 0, 0) S1 I' L' 1719 (lc i) [] Post) : X mLaw_law G (83, 0, 0) S1 I L 1293 (lc i) [] Post := by
  refine x_aload_n dLaw_law_1293 rfl ?_
  refine x_arg (k := 1) dLaw_law_1294 dLaw_law_1295 dLaw_law_1296 rfl dLaw_law_1297 dLaw_law_1298 (by omega) hL ?_
  refine x_callV_1 c_W_laws ok_W_laws ml_Law_161 dLaw_law_1299 rfl rfl rfl rfl rfl ?_
  refine ⟨_, rfl, rfl, hR.c, fun I1 k1 e1 => ?_⟩
  obtain ⟨m1, m2⟩ := hR.mid k1
  refine x_pop dLaw_law_1302 rfl ?_
  refine x_aload_n dLaw_law_1303 rfl ?_
  refine x_arg (k := 1) dLaw_law_1304 dLaw_law_1305 dLaw_law_1306 rfl dLaw_law_1307 dLaw_law_1308 (by omega) hL ?_
  refine x_callV_1 c_R_laws ok_R_laws ml_Law_164 dLaw_law_1309 rfl rfl rfl rfl rfl ?_
  refine ⟨_, rfl, rfl, m2, fun I2 L2 k2 own e2 => ?_⟩
  refine x_pop dLaw_law_1312 rfl ?_
  refine x_goto (tgt := 1719) dLaw_law_1313 (by decide) ?_
  exact h I2 L2 (hR.step (fun E => E) k1 e1 k2 own e2 (hR.c))
set_option maxHeartbeats 4000000 in
set_option maxRecDepth 100000 in
theorem law_witness {G : WG} {I : IM} {L : LM} {Post : PostT} {i : Nat} (hi : i + 7 ≤ gL G) (hL : gL G ≤ 448) (hR : Rel I) (h : ∀ (I' : IM) (L' : LM), Rel I' → X mLaw_law G (83, 0, 0) S1 I' L' 1719 (lc i) [] Post) : X mLaw_law G (83, 0, 0) S1 I L 1316 (lc i) [] Post := by
  refine x_aload_n dLaw_law_1316 rfl ?_
  refine x_arg (k := 1) dLaw_law_1317 dLaw_law_1318 dLaw_law_1319 rfl dLaw_law_1320 dLaw_law_1321 (by omega) hL ?_
  refine x_callV_1 c_W_witness ok_W_witness ml_Law_165 dLaw_law_1322 rfl rfl rfl rfl rfl ?_
  refine ⟨_, rfl, rfl, hR.c, fun v1 I1 k1 e1 hv1 => ?_⟩
  obtain ⟨m1, m2⟩ := hR.mid k1
  refine x_pop dLaw_law_1325 rfl ?_
  refine x_aload_n dLaw_law_1326 rfl ?_
  refine x_arg (k := 1) dLaw_law_1327 dLaw_law_1328 dLaw_law_1329 rfl dLaw_law_1330 dLaw_law_1331 (by omega) hL ?_
  refine x_callV_1 c_R_witness ok_R_witness ml_Law_168 dLaw_law_1332 rfl rfl rfl rfl rfl ?_
  refine ⟨_, rfl, rfl, m2, fun v2 I2 L2 hs hv2 => ?_⟩
  refine x_pop dLaw_law_1335 rfl ?_
  refine x_goto (tgt := 1719) dLaw_law_1336 (by decide) ?_
  exact h I2 L2 (hR.step (fun E => E) k1 e1 hs.1 hs.2.2 hs.2.1 hR.c)
set_option maxHeartbeats 4000000 in
set_option maxRecDepth 100000 in
theorem law_alibi {G : WG} {I : IM} {L : LM} {Post : PostT} {i : Nat} (hi : i + 7 ≤ gL G) (hL : gL G ≤ 448) (hR : Rel I) (h : ∀ (I' : IM) (L' : LM), Rel I' → X mLaw_law G (83, 0, 0) S1 I' L' 1719 (lc i) [] Post) : X mLaw_law G (83, 0, 0) S1 I L 1339 (lc i) [] Post := by
  refine x_aload_n dLaw_law_1339 rfl ?_
  refine x_arg (k := 1) dLaw_law_1340 dLaw_law_1341 dLaw_law_1342 rfl dLaw_law_1343 dLaw_law_1344 (by omega) hL ?_
  refine x_arg (k := 2) dLaw_law_1345 dLaw_law_1346 dLaw_law_1347 rfl dLaw_law_1348 dLaw_law_1349 (by omega) hL ?_
  refine x_callV_2 c_W_alibi ok_W_alibi ml_Law_169 dLaw_law_1350 rfl rfl rfl rfl rfl ?_
  refine ⟨_, _, rfl, rfl, hR.c, fun v1 I1 k1 e1 hv1 => ?_⟩
  obtain ⟨m1, m2⟩ := hR.mid k1
  refine x_pop dLaw_law_1353 rfl ?_
  refine x_aload_n dLaw_law_1354 rfl ?_
  refine x_arg (k := 1) dLaw_law_1355 dLaw_law_1356 dLaw_law_1357 rfl dLaw_law_1358 dLaw_law_1359 (by omega) hL ?_
  refine x_arg (k := 2) dLaw_law_1360 dLaw_law_1361 dLaw_law_1362 rfl dLaw_law_1363 dLaw_law_1364 (by omega) hL ?_
  refine x_callV_2 c_R_alibi ok_R_alibi ml_Law_172 dLaw_law_1365 rfl rfl rfl rfl rfl ?_
  refine ⟨_, _, rfl, rfl, m2, fun v2 I2 L2 hs hv2 => ?_⟩
  refine x_pop dLaw_law_1368 rfl ?_
  refine x_goto (tgt := 1719) dLaw_law_1369 (by decide) ?_
  exact h I2 L2 (hR.step (fun E => E) k1 e1 hs.1 hs.2.2 hs.2.1 hR.c)
set_option maxHeartbeats 4000000 in
set_option maxRecDepth 100000 in
theorem law_drawn {G : WG} {I : IM} {L : LM} {Post : PostT} {i : Nat} (hi : i + 7 ≤ gL G) (hL : gL G ≤ 448) (hR : Rel I) (h : ∀ (I' : IM) (L' : LM), Rel I' → X mLaw_law G (83, 0, 0) S1 I' L' 1719 (lc i) [] Post) : X mLaw_law G (83, 0, 0) S1 I L 1372 (lc i) [] Post := by
  refine x_aload_n dLaw_law_1372 rfl ?_
  refine x_arg (k := 1) dLaw_law_1373 dLaw_law_1374 dLaw_law_1375 rfl dLaw_law_1376 dLaw_law_1377 (by omega) hL ?_
  refine x_arg (k := 2) dLaw_law_1378 dLaw_law_1379 dLaw_law_1380 rfl dLaw_law_1381 dLaw_law_1382 (by omega) hL ?_
  refine x_callV_2 c_W_drawn ok_W_drawn ml_Law_173 dLaw_law_1383 rfl rfl rfl rfl rfl ?_
  refine ⟨_, _, rfl, rfl, hR.c, fun I1 k1 e1 => ?_⟩
  obtain ⟨m1, m2⟩ := hR.mid k1
  refine x_pop dLaw_law_1386 rfl ?_
  refine x_aload_n dLaw_law_1387 rfl ?_
  refine x_arg (k := 1) dLaw_law_1388 dLaw_law_1389 dLaw_law_1390 rfl dLaw_law_1391 dLaw_law_1392 (by omega) hL ?_
  refine x_arg (k := 2) dLaw_law_1393 dLaw_law_1394 dLaw_law_1395 rfl dLaw_law_1396 dLaw_law_1397 (by omega) hL ?_
  refine x_callV_2 c_R_drawn ok_R_drawn ml_Law_176 dLaw_law_1398 rfl rfl rfl rfl rfl ?_
  refine ⟨_, _, rfl, rfl, m2, fun I2 L2 k2 own e2 => ?_⟩
  refine x_pop dLaw_law_1401 rfl ?_
  refine x_goto (tgt := 1719) dLaw_law_1402 (by decide) ?_
  exact h I2 L2 (hR.step (fun E => E) k1 e1 k2 own e2 (hR.c))
set_option maxHeartbeats 4000000 in
set_option maxRecDepth 100000 in
theorem law_odds {G : WG} {I : IM} {L : LM} {Post : PostT} {i : Nat} (hi : i + 7 ≤ gL G) (hL : gL G ≤ 448) (hR : Rel I) (h : ∀ (I' : IM) (L' : LM), Rel I' → X mLaw_law G (83, 0, 0) S1 I' L' 1719 (lc i) [] Post) : X mLaw_law G (83, 0, 0) S1 I L 1405 (lc i) [] Post := by
  refine x_aload_n dLaw_law_1405 rfl ?_
  refine x_arg (k := 1) dLaw_law_1406 dLaw_law_1407 dLaw_law_1408 rfl dLaw_law_1409 dLaw_law_1410 (by omega) hL ?_
  refine x_arg (k := 2) dLaw_law_1411 dLaw_law_1412 dLaw_law_1413 rfl dLaw_law_1414 dLaw_law_1415 (by omega) hL ?_
  refine x_arg (k := 3) dLaw_law_1416 dLaw_law_1417 dLaw_law_1418 rfl dLaw_law_1419 dLaw_law_1420 (by omega) hL ?_
  refine x_arg (k := 4) dLaw_law_1421 dLaw_law_1422 dLaw_law_1423 rfl dLaw_law_1424 dLaw_law_1425 (by omega) hL ?_
  refine x_callV_4 c_W_odds ok_W_odds ml_Law_177 dLaw_law_1426 rfl rfl rfl rfl rfl ?_
  refine ⟨_, _, _, _, rfl, rfl, hR.c, fun I1 k1 e1 => ?_⟩
  obtain ⟨m1, m2⟩ := hR.mid k1
  refine x_pop2 dLaw_law_1429 rfl ?_
  refine x_aload_n dLaw_law_1430 rfl ?_
  refine x_arg (k := 1) dLaw_law_1431 dLaw_law_1432 dLaw_law_1433 rfl dLaw_law_1434 dLaw_law_1435 (by omega) hL ?_
  refine x_arg (k := 2) dLaw_law_1436 dLaw_law_1437 dLaw_law_1438 rfl dLaw_law_1439 dLaw_law_1440 (by omega) hL ?_
  refine x_arg (k := 3) dLaw_law_1441 dLaw_law_1442 dLaw_law_1443 rfl dLaw_law_1444 dLaw_law_1445 (by omega) hL ?_
  refine x_arg (k := 4) dLaw_law_1446 dLaw_law_1447 dLaw_law_1448 rfl dLaw_law_1449 dLaw_law_1450 (by omega) hL ?_
  refine x_callV_4 c_R_odds ok_R_odds ml_Law_181 dLaw_law_1451 rfl rfl rfl rfl rfl ?_
  refine ⟨_, _, _, _, rfl, rfl, m2, fun I2 L2 k2 own e2 => ?_⟩
  refine x_pop2 dLaw_law_1454 rfl ?_
  refine x_goto (tgt := 1719) dLaw_law_1455 (by decide) ?_
  exact h I2 L2 (hR.step (fun E => E) k1 e1 k2 own e2 (hR.c))
set_option maxHeartbeats 4000000 in
set_option maxRecDepth 100000 in
theorem law_image {G : WG} {I : IM} {L : LM} {Post : PostT} {i : Nat} (hi : i + 7 ≤ gL G) (hL : gL G ≤ 448) (hR : Rel I) (h : ∀ (I' : IM) (L' : LM), Rel I' → X mLaw_law G (83, 0, 0) S1 I' L' 1719 (lc i) [] Post) : X mLaw_law G (83, 0, 0) S1 I L 1458 (lc i) [] Post := by
  refine x_aload_n dLaw_law_1458 rfl ?_
  refine x_callV_0 c_W_image ok_W_image ml_Law_182 dLaw_law_1459 rfl rfl rfl rfl rfl ?_
  refine ⟨rfl, rfl, hR.c, fun I1 k1 e1 => ?_⟩
  obtain ⟨m1, m2⟩ := hR.mid k1
  refine x_pop dLaw_law_1462 rfl ?_
  refine x_aload_n dLaw_law_1463 rfl ?_
  refine x_callV_0 c_R_image ok_R_image ml_Law_185 dLaw_law_1464 rfl rfl rfl rfl rfl ?_
  refine ⟨rfl, rfl, m2, fun I2 L2 k2 own e2 => ?_⟩
  refine x_pop dLaw_law_1467 rfl ?_
  refine x_goto (tgt := 1719) dLaw_law_1468 (by decide) ?_
  exact h I2 L2 (hR.step (fun E => imageU E) k1 e1 k2 own e2 (Inv_image hR.c ))
set_option maxHeartbeats 4000000 in
set_option maxRecDepth 100000 in
theorem law_back {G : WG} {I : IM} {L : LM} {Post : PostT} {i : Nat} (hi : i + 7 ≤ gL G) (hL : gL G ≤ 448) (hR : Rel I) (h : ∀ (I' : IM) (L' : LM), Rel I' → X mLaw_law G (83, 0, 0) S1 I' L' 1719 (lc i) [] Post) : X mLaw_law G (83, 0, 0) S1 I L 1471 (lc i) [] Post := by
  refine x_aload_n dLaw_law_1471 rfl ?_
  refine x_callV_0 c_W_back ok_W_back ml_Law_186 dLaw_law_1472 rfl rfl rfl rfl rfl ?_
  refine ⟨rfl, rfl, hR.c, fun I1 k1 e1 => ?_⟩
  obtain ⟨m1, m2⟩ := hR.mid k1
  refine x_pop dLaw_law_1475 rfl ?_
  refine x_aload_n dLaw_law_1476 rfl ?_
  refine x_callV_0 c_R_back ok_R_back ml_Law_189 dLaw_law_1477 rfl rfl rfl rfl rfl ?_
  refine ⟨rfl, rfl, m2, fun I2 L2 k2 own e2 => ?_⟩
  refine x_pop dLaw_law_1480 rfl ?_
  refine x_goto (tgt := 1719) dLaw_law_1481 (by decide) ?_
  exact h I2 L2 (hR.step (fun E => backU E) k1 e1 k2 own e2 (Inv_back hR.c ))
set_option maxHeartbeats 4000000 in
set_option maxRecDepth 100000 in
theorem law_sheet {G : WG} {I : IM} {L : LM} {Post : PostT} {i : Nat} (hi : i + 7 ≤ gL G) (hL : gL G ≤ 448) (hR : Rel I) (h : ∀ (I' : IM) (L' : LM), Rel I' → X mLaw_law G (83, 0, 0) S1 I' L' 1719 (lc i) [] Post) : X mLaw_law G (83, 0, 0) S1 I L 1484 (lc i) [] Post := by
  refine x_aload_n dLaw_law_1484 rfl ?_
  refine x_arg (k := 1) dLaw_law_1485 dLaw_law_1486 dLaw_law_1487 rfl dLaw_law_1488 dLaw_law_1489 (by omega) hL ?_
  refine x_arg (k := 2) dLaw_law_1490 dLaw_law_1491 dLaw_law_1492 rfl dLaw_law_1493 dLaw_law_1494 (by omega) hL ?_
  refine x_arg (k := 3) dLaw_law_1495 dLaw_law_1496 dLaw_law_1497 rfl dLaw_law_1498 dLaw_law_1499 (by omega) hL ?_
  refine x_callV_3 c_W_sheet ok_W_sheet ml_Law_190 dLaw_law_1500 rfl rfl rfl rfl rfl ?_
  refine ⟨_, _, _, rfl, rfl, hR.c, fun I1 k1 e1 => ?_⟩
  obtain ⟨m1, m2⟩ := hR.mid k1
  refine x_pop dLaw_law_1503 rfl ?_
  refine x_aload_n dLaw_law_1504 rfl ?_
  refine x_arg (k := 1) dLaw_law_1505 dLaw_law_1506 dLaw_law_1507 rfl dLaw_law_1508 dLaw_law_1509 (by omega) hL ?_
  refine x_arg (k := 2) dLaw_law_1510 dLaw_law_1511 dLaw_law_1512 rfl dLaw_law_1513 dLaw_law_1514 (by omega) hL ?_
  refine x_arg (k := 3) dLaw_law_1515 dLaw_law_1516 dLaw_law_1517 rfl dLaw_law_1518 dLaw_law_1519 (by omega) hL ?_
  refine x_callV_3 c_R_sheet ok_R_sheet ml_Law_193 dLaw_law_1520 rfl rfl rfl rfl rfl ?_
  refine ⟨_, _, _, rfl, rfl, m2, fun I2 L2 k2 own e2 => ?_⟩
  refine x_pop dLaw_law_1523 rfl ?_
  refine x_goto (tgt := 1719) dLaw_law_1524 (by decide) ?_
  exact h I2 L2 (hR.step (fun E => sheetU E (gx G (i + 1)) (gx G (i + 2)) (gx G (i + 3))) k1 e1 k2 own e2 (Inv_sheet hR.c _ _ _))
set_option maxHeartbeats 4000000 in
set_option maxRecDepth 100000 in
theorem law_cell {G : WG} {I : IM} {L : LM} {Post : PostT} {i : Nat} (hi : i + 7 ≤ gL G) (hL : gL G ≤ 448) (hR : Rel I) (h : ∀ (I' : IM) (L' : LM), Rel I' → X mLaw_law G (83, 0, 0) S1 I' L' 1719 (lc i) [] Post) : X mLaw_law G (83, 0, 0) S1 I L 1527 (lc i) [] Post := by
  refine x_aload_n dLaw_law_1527 rfl ?_
  refine x_arg (k := 1) dLaw_law_1528 dLaw_law_1529 dLaw_law_1530 rfl dLaw_law_1531 dLaw_law_1532 (by omega) hL ?_
  refine x_arg (k := 2) dLaw_law_1533 dLaw_law_1534 dLaw_law_1535 rfl dLaw_law_1536 dLaw_law_1537 (by omega) hL ?_
  refine x_arg (k := 3) dLaw_law_1538 dLaw_law_1539 dLaw_law_1540 rfl dLaw_law_1541 dLaw_law_1542 (by omega) hL ?_
  refine x_callV_3 c_W_cell ok_W_cell ml_Law_194 dLaw_law_1543 rfl rfl rfl rfl rfl ?_
  refine ⟨_, _, _, rfl, rfl, hR.c, fun I1 k1 e1 => ?_⟩
  obtain ⟨m1, m2⟩ := hR.mid k1
  refine x_pop dLaw_law_1546 rfl ?_
  refine x_aload_n dLaw_law_1547 rfl ?_
  refine x_arg (k := 1) dLaw_law_1548 dLaw_law_1549 dLaw_law_1550 rfl dLaw_law_1551 dLaw_law_1552 (by omega) hL ?_
  refine x_arg (k := 2) dLaw_law_1553 dLaw_law_1554 dLaw_law_1555 rfl dLaw_law_1556 dLaw_law_1557 (by omega) hL ?_
  refine x_arg (k := 3) dLaw_law_1558 dLaw_law_1559 dLaw_law_1560 rfl dLaw_law_1561 dLaw_law_1562 (by omega) hL ?_
  refine x_callV_3 c_R_cell ok_R_cell ml_Law_197 dLaw_law_1563 rfl rfl rfl rfl rfl ?_
  refine ⟨_, _, _, rfl, rfl, m2, fun I2 L2 k2 own e2 => ?_⟩
  refine x_pop dLaw_law_1566 rfl ?_
  refine x_goto (tgt := 1719) dLaw_law_1567 (by decide) ?_
  exact h I2 L2 (hR.step (fun E => cellU E (gx G (i + 1)) (gx G (i + 2)) (gx G (i + 3))) k1 e1 k2 own e2 (Inv_cell hR.c _ _ _))
set_option maxHeartbeats 4000000 in
set_option maxRecDepth 100000 in
theorem law_copy {G : WG} {I : IM} {L : LM} {Post : PostT} {i : Nat} (hi : i + 7 ≤ gL G) (hL : gL G ≤ 448) (hR : Rel I) (h : ∀ (I' : IM) (L' : LM), Rel I' → X mLaw_law G (83, 0, 0) S1 I' L' 1719 (lc i) [] Post) : X mLaw_law G (83, 0, 0) S1 I L 1570 (lc i) [] Post := by
  refine x_aload_n dLaw_law_1570 rfl ?_
  refine x_arg (k := 1) dLaw_law_1571 dLaw_law_1572 dLaw_law_1573 rfl dLaw_law_1574 dLaw_law_1575 (by omega) hL ?_
  refine x_arg (k := 2) dLaw_law_1576 dLaw_law_1577 dLaw_law_1578 rfl dLaw_law_1579 dLaw_law_1580 (by omega) hL ?_
  refine x_arg (k := 3) dLaw_law_1581 dLaw_law_1582 dLaw_law_1583 rfl dLaw_law_1584 dLaw_law_1585 (by omega) hL ?_
  refine x_arg (k := 4) dLaw_law_1586 dLaw_law_1587 dLaw_law_1588 rfl dLaw_law_1589 dLaw_law_1590 (by omega) hL ?_
  refine x_arg (k := 5) dLaw_law_1591 dLaw_law_1592 dLaw_law_1593 rfl dLaw_law_1594 dLaw_law_1595 (by omega) hL ?_
  refine x_callV_5 c_W_copy ok_W_copy ml_Law_198 dLaw_law_1596 rfl rfl rfl rfl rfl ?_
  refine ⟨_, _, _, _, _, rfl, rfl, hR.c, fun I1 k1 e1 => ?_⟩
  obtain ⟨m1, m2⟩ := hR.mid k1
  refine x_pop dLaw_law_1599 rfl ?_
  refine x_aload_n dLaw_law_1600 rfl ?_
  refine x_arg (k := 1) dLaw_law_1601 dLaw_law_1602 dLaw_law_1603 rfl dLaw_law_1604 dLaw_law_1605 (by omega) hL ?_
  refine x_arg (k := 2) dLaw_law_1606 dLaw_law_1607 dLaw_law_1608 rfl dLaw_law_1609 dLaw_law_1610 (by omega) hL ?_
  refine x_arg (k := 3) dLaw_law_1611 dLaw_law_1612 dLaw_law_1613 rfl dLaw_law_1614 dLaw_law_1615 (by omega) hL ?_
  refine x_arg (k := 4) dLaw_law_1616 dLaw_law_1617 dLaw_law_1618 rfl dLaw_law_1619 dLaw_law_1620 (by omega) hL ?_
  refine x_arg (k := 5) dLaw_law_1621 dLaw_law_1622 dLaw_law_1623 rfl dLaw_law_1624 dLaw_law_1625 (by omega) hL ?_
  refine x_callV_5 c_R_copy ok_R_copy ml_Law_202 dLaw_law_1626 rfl rfl rfl rfl rfl ?_
  refine ⟨_, _, _, _, _, rfl, rfl, m2, fun I2 L2 k2 own e2 => ?_⟩
  refine x_pop dLaw_law_1629 rfl ?_
  refine x_goto (tgt := 1719) dLaw_law_1630 (by decide) ?_
  exact h I2 L2 (hR.step (fun E => copyU E (gx G (i + 1)) (gx G (i + 2)) (gx G (i + 3)) (gx G (i + 4)) (gx G (i + 5))) k1 e1 k2 own e2 (Inv_copy hR.c _ _ _ _ _))
set_option maxHeartbeats 4000000 in
set_option maxRecDepth 100000 in
theorem law_promisesBy {G : WG} {I : IM} {L : LM} {Post : PostT} {i : Nat} (hi : i + 7 ≤ gL G) (hL : gL G ≤ 448) (hR : Rel I) (h : ∀ (I' : IM) (L' : LM), Rel I' → X mLaw_law G (83, 0, 0) S1 I' L' 1719 (lc i) [] Post) : X mLaw_law G (83, 0, 0) S1 I L 1633 (lc i) [] Post := by
  refine x_aload_n dLaw_law_1633 rfl ?_
  refine x_arg (k := 1) dLaw_law_1634 dLaw_law_1635 dLaw_law_1636 rfl dLaw_law_1637 dLaw_law_1638 (by omega) hL ?_
  refine x_arg (k := 2) dLaw_law_1639 dLaw_law_1640 dLaw_law_1641 rfl dLaw_law_1642 dLaw_law_1643 (by omega) hL ?_
  refine x_arg (k := 3) dLaw_law_1644 dLaw_law_1645 dLaw_law_1646 rfl dLaw_law_1647 dLaw_law_1648 (by omega) hL ?_
  refine x_arg (k := 4) dLaw_law_1649 dLaw_law_1650 dLaw_law_1651 rfl dLaw_law_1652 dLaw_law_1653 (by omega) hL ?_
  refine x_callV_4 c_W_promisesBy ok_W_promisesBy ml_Law_203 dLaw_law_1654 rfl rfl rfl rfl rfl ?_
  refine ⟨_, _, _, _, rfl, rfl, hR.c, fun I1 k1 e1 => ?_⟩
  obtain ⟨m1, m2⟩ := hR.mid k1
  refine x_pop dLaw_law_1657 rfl ?_
  refine x_aload_n dLaw_law_1658 rfl ?_
  refine x_arg (k := 1) dLaw_law_1659 dLaw_law_1660 dLaw_law_1661 rfl dLaw_law_1662 dLaw_law_1663 (by omega) hL ?_
  refine x_arg (k := 2) dLaw_law_1664 dLaw_law_1665 dLaw_law_1666 rfl dLaw_law_1667 dLaw_law_1668 (by omega) hL ?_
  refine x_arg (k := 3) dLaw_law_1669 dLaw_law_1670 dLaw_law_1671 rfl dLaw_law_1672 dLaw_law_1673 (by omega) hL ?_
  refine x_arg (k := 4) dLaw_law_1674 dLaw_law_1675 dLaw_law_1676 rfl dLaw_law_1677 dLaw_law_1678 (by omega) hL ?_
  refine x_callV_4 c_R_promisesBy ok_R_promisesBy ml_Law_206 dLaw_law_1679 rfl rfl rfl rfl rfl ?_
  refine ⟨_, _, _, _, rfl, rfl, m2, fun I2 L2 k2 own e2 => ?_⟩
  refine x_pop dLaw_law_1682 rfl ?_
  refine x_goto (tgt := 1719) dLaw_law_1683 (by decide) ?_
  exact h I2 L2 (hR.step (fun E => pbU E (gx G (i + 1)) (gx G (i + 2)) (gx G (i + 3)) (gx G (i + 4))) k1 e1 k2 own e2 (Inv_pb hR.c _ _ _ _))
set_option maxHeartbeats 4000000 in
set_option maxRecDepth 100000 in
theorem law_taken {G : WG} {I : IM} {L : LM} {Post : PostT} {i : Nat} (hi : i + 7 ≤ gL G) (hL : gL G ≤ 448) (hR : Rel I) (h : ∀ (I' : IM) (L' : LM), Rel I' → X mLaw_law G (83, 0, 0) S1 I' L' 1719 (lc i) [] Post) : X mLaw_law G (83, 0, 0) S1 I L 1686 (lc i) [] Post := by
  refine x_aload_n dLaw_law_1686 rfl ?_
  refine x_arg (k := 1) dLaw_law_1687 dLaw_law_1688 dLaw_law_1689 rfl dLaw_law_1690 dLaw_law_1691 (by omega) hL ?_
  refine x_arg (k := 2) dLaw_law_1692 dLaw_law_1693 dLaw_law_1694 rfl dLaw_law_1695 dLaw_law_1696 (by omega) hL ?_
  refine x_callV_2 c_W_taken ok_W_taken ml_Law_207 dLaw_law_1697 rfl rfl rfl rfl rfl ?_
  refine ⟨_, _, rfl, rfl, hR.c, fun I1 k1 e1 => ?_⟩
  obtain ⟨m1, m2⟩ := hR.mid k1
  refine x_aload_n dLaw_law_1700 rfl ?_
  refine x_arg (k := 1) dLaw_law_1701 dLaw_law_1702 dLaw_law_1703 rfl dLaw_law_1704 dLaw_law_1705 (by omega) hL ?_
  refine x_arg (k := 2) dLaw_law_1706 dLaw_law_1707 dLaw_law_1708 rfl dLaw_law_1709 dLaw_law_1710 (by omega) hL ?_
  refine x_callV_2 c_R_taken ok_R_taken ml_Law_210 dLaw_law_1711 rfl rfl rfl rfl rfl ?_
  refine ⟨_, _, rfl, rfl, m2, fun I2 L2 k2 own e2 => ?_⟩
  rw [m1]
  refine x_icmp_eq (tgt := 1719) dLaw_law_1714 (by decide) (fun _ => ?_) (fun h => absurd rfl h)
  exact h I2 L2 (hR.step (fun E => E) k1 e1 k2 own e2 (hR.c))
end
section
-- 90.lc
/-! the law's loop, and its start -/
theorem sub7 (n : Nat) (h : n < 7) : nI n - 7 < 0 := (show ∀ n, n < 7 → nI n - 7 < 0 by decide) n h
theorem law_end {G : WG} {I : IM} {L : LM} {Post : PostT} {i : Nat} (hi : gL G < i + 7) (hL : gL G ≤ 448) (h1 : ∀ S I L, Post (some (.int 1)) S I L) : X mLaw_law G (83, 0, 0) S1 I L 1725 (lc i) [] Post := by
  refine x_iconst (v := 1) dLaw_law_1725 rfl ?_
  exact x_ireturn dLaw_law_1726 rfl rfl (h1 _ _ _)
set_option maxHeartbeats 4000000 in
set_option maxRecDepth 100000 in
theorem law_head {G : WG} {I : IM} {L : LM} {Post : PostT} {i : Nat} (hi8 : i ≤ 1000) (hL : gL G ≤ 448) (h1 : ∀ S I L, Post (some (.int 1)) S I L) (h : i + 7 ≤ gL G → X mLaw_law G (83, 0, 0) S1 I L 27 (lc i) [] Post) : X mLaw_law G (83, 0, 0) S1 I L 18 (lc i) [] Post := by
  refine x_iload_n dLaw_law_18 rfl ?_
  refine x_aload_n dLaw_law_19 rfl ?_
  refine x_alenS dLaw_law_20 rfl ?_
  refine x_bipush (v := 7) dLaw_law_21 rfl ?_
  refine x_isub dLaw_law_23 ?_
  by_cases c7 : gL G < 7
  · have e := sub7 (gL G) c7
    refine x_icmp_gt (tgt := 1725) dLaw_law_24 (by decide) (fun _ => ?_) (fun y => absurd (Int32.lt_of_lt_of_le e (nI_pos' (n := i) (by omega))) y)
    exact law_end (by omega) hL h1
  · obtain ⟨q, hq⟩ : ∃ q, gL G = q + 7 := ⟨gL G - 7, by omega⟩
    have e : nI (gL G) - 7 = nI q := by
      rw [hq, ← nI_add]
      exact Int32.add_sub_cancel (nI q) (nI 7)
    rw [e]
    by_cases c : q < i
    · refine x_icmp_gt (tgt := 1725) dLaw_law_24 (by decide) (fun _ => ?_) (fun y => absurd (nI_lt c (by omega)) y)
      exact law_end (by omega) hL h1
    · refine x_icmp_gt (tgt := 1725) dLaw_law_24 (by decide) (fun y => absurd y (nI_nlt (by omega) (by omega))) (fun _ => ?_)
      exact h (by omega)
set_option maxHeartbeats 4000000 in
set_option maxRecDepth 100000 in
theorem law_call {G : WG} {I : IM} {L : LM} {Post : PostT} {i : Nat} (hi : i + 7 ≤ gL G) (hL : gL G ≤ 448) (hR : Rel I) (h : ∀ (I' : IM) (L' : LM), Rel I' → X mLaw_law G (83, 0, 0) S1 I' L' 18 (lc (i + 7)) [] Post) : X mLaw_law G (83, 0, 0) S1 I L 27 (lc i) [] Post := by
  have hT : ∀ (I' : IM) (L' : LM), Rel I' → X mLaw_law G (83, 0, 0) S1 I' L' 1719 (lc i) [] Post := by
    intro I' L' hR'
    refine x_iinc_3 (v := nI i + 7) dLaw_law_1719 rfl rfl rfl ?_
    refine x_goto (tgt := 18) dLaw_law_1722 (by decide) ?_
    rw [show nI i + 7 = nI (i + 7) from nI_add i 7]
    exact h I' L' hR'
  refine x_aload_n dLaw_law_27 rfl ?_
  refine x_iload_n dLaw_law_28 rfl ?_
  refine x_ialdS dLaw_law_29 (vp_in_nI (by omega) (by omega)) ?_
  refine x_bipush (v := 63) dLaw_law_30 rfl ?_
  refine x_iand dLaw_law_32 ?_
  obtain ⟨n, hn, e⟩ := and63 (gx G (nI i).toNatClampNeg)
  rw [e]
  rcases (show n = 0 ∨ n = 1 ∨ n = 2 ∨ n = 3 ∨ n = 4 ∨ n = 5 ∨ n = 6 ∨ n = 7 ∨ n = 8 ∨ n = 9 ∨ n = 10 ∨ n = 11 ∨ n = 12 ∨ n = 13 ∨ n = 14 ∨ n = 15 ∨ n = 16 ∨ n = 17 ∨ n = 18 ∨ n = 19 ∨ n = 20 ∨ n = 21 ∨ n = 22 ∨ n = 23 ∨ n = 24 ∨ n = 25 ∨ n = 26 ∨ n = 27 ∨ n = 28 ∨ n = 29 ∨ n = 30 ∨ n = 31 ∨ n = 32 ∨ n = 33 ∨ n = 34 ∨ n = 35 ∨ n = 36 ∨ n = 37 ∨ n = 38 ∨ n = 39 ∨ n = 40 ∨ n = 41 ∨ n = 42 ∨ n = 43 ∨ n = 44 ∨ n = 45 ∨ n = 46 ∨ 47 ≤ n by omega) with rfl | rfl | rfl | rfl | rfl | rfl | rfl | rfl | rfl | rfl | rfl | rfl | rfl | rfl | rfl | rfl | rfl | rfl | rfl | rfl | rfl | rfl | rfl | rfl | rfl | rfl | rfl | rfl | rfl | rfl | rfl | rfl | rfl | rfl | rfl | rfl | rfl | rfl | rfl | rfl | rfl | rfl | rfl | rfl | rfl | rfl | rfl | hn47
  · refine x_tableIn (tgt := 236) dLaw_law_33 (by decide) (by decide) rfl (by decide) ?_
    exact law_far hi hL hR hT
  · refine x_tableIn (tgt := 279) dLaw_law_33 (by decide) (by decide) rfl (by decide) ?_
    exact law_hush hi hL hR hT
  · refine x_tableIn (tgt := 312) dLaw_law_33 (by decide) (by decide) rfl (by decide) ?_
    exact law_stride hi hL hR hT
  · refine x_tableIn (tgt := 335) dLaw_law_33 (by decide) (by decide) rfl (by decide) ?_
    exact law_count hi hL hR hT
  · refine x_tableIn (tgt := 358) dLaw_law_33 (by decide) (by decide) rfl (by decide) ?_
    exact law_feed hi hL hR hT
  · refine x_tableIn (tgt := 433) dLaw_law_33 (by decide) (by decide) rfl (by decide) ?_
    exact law_text hi hL hR hT
  · refine x_tableIn (tgt := 446) dLaw_law_33 (by decide) (by decide) rfl (by decide) ?_
    exact law_force hi hL hR hT
  · refine x_tableIn (tgt := 469) dLaw_law_33 (by decide) (by decide) rfl (by decide) ?_
    exact law_person hi hL hR hT
  · refine x_tableIn (tgt := 522) dLaw_law_33 (by decide) (by decide) rfl (by decide) ?_
    exact law_move hi hL hR hT
  · refine x_tableIn (tgt := 555) dLaw_law_33 (by decide) (by decide) rfl (by decide) ?_
    exact law_told hi hL hR hT
  · refine x_tableIn (tgt := 588) dLaw_law_33 (by decide) (by decide) rfl (by decide) ?_
    exact law_promise hi hL hR hT
  · refine x_tableIn (tgt := 641) dLaw_law_33 (by decide) (by decide) rfl (by decide) ?_
    exact law_promised hi hL hR hT
  · refine x_tableIn (tgt := 674) dLaw_law_33 (by decide) (by decide) rfl (by decide) ?_
    exact law_say hi hL hR hT
  · refine x_tableIn (tgt := 707) dLaw_law_33 (by decide) (by decide) rfl (by decide) ?_
    exact law_unsay hi hL hR hT
  · refine x_tableIn (tgt := 720) dLaw_law_33 (by decide) (by decide) rfl (by decide) ?_
    exact law_said hi hL hR hT
  · refine x_tableIn (tgt := 753) dLaw_law_33 (by decide) (by decide) rfl (by decide) ?_
    exact law_hears hi hL hR hT
  · refine x_tableIn (tgt := 786) dLaw_law_33 (by decide) (by decide) rfl (by decide) ?_
    exact law_heard hi hL hR hT
  · refine x_tableIn (tgt := 809) dLaw_law_33 (by decide) (by decide) rfl (by decide) ?_
    exact law_nobody hi hL hR hT
  · refine x_tableIn (tgt := 822) dLaw_law_33 (by decide) (by decide) rfl (by decide) ?_
    exact law_owe hi hL hR hT
  · refine x_tableIn (tgt := 855) dLaw_law_33 (by decide) (by decide) rfl (by decide) ?_
    exact law_load hi hL hR hT
  · refine x_tableIn (tgt := 888) dLaw_law_33 (by decide) (by decide) rfl (by decide) ?_
    exact law_done hi hL hR hT
  · refine x_tableIn (tgt := 911) dLaw_law_33 (by decide) (by decide) rfl (by decide) ?_
    exact law_sum hi hL hR hT
  · refine x_tableIn (tgt := 934) dLaw_law_33 (by decide) (by decide) rfl (by decide) ?_
    exact law_judge hi hL hR hT
  · refine x_tableIn (tgt := 947) dLaw_law_33 (by decide) (by decide) rfl (by decide) ?_
    exact law_walk hi hL hR hT
  · refine x_tableIn (tgt := 960) dLaw_law_33 (by decide) (by decide) rfl (by decide) ?_
    exact law_best hi hL hR hT
  · refine x_tableIn (tgt := 993) dLaw_law_33 (by decide) (by decide) rfl (by decide) ?_
    exact law_foe hi hL hR hT
  · refine x_tableIn (tgt := 1036) dLaw_law_33 (by decide) (by decide) rfl (by decide) ?_
    exact law_loud hi hL hR hT
  · refine x_tableIn (tgt := 1079) dLaw_law_33 (by decide) (by decide) rfl (by decide) ?_
    exact law_spare hi hL hR hT
  · refine x_tableIn (tgt := 1092) dLaw_law_33 (by decide) (by decide) rfl (by decide) ?_
    exact law_even hi hL hR hT
  · refine x_tableIn (tgt := 1125) dLaw_law_33 (by decide) (by decide) rfl (by decide) ?_
    exact law_hardest hi hL hR hT
  · refine x_tableIn (tgt := 1148) dLaw_law_33 (by decide) (by decide) rfl (by decide) ?_
    exact law_flee hi hL hR hT
  · refine x_tableIn (tgt := 1181) dLaw_law_33 (by decide) (by decide) rfl (by decide) ?_
    exact law_send hi hL hR hT
  · refine x_tableIn (tgt := 1214) dLaw_law_33 (by decide) (by decide) rfl (by decide) ?_
    exact law_rest hi hL hR hT
  · refine x_tableIn (tgt := 1237) dLaw_law_33 (by decide) (by decide) rfl (by decide) ?_
    exact law_chance hi hL hR hT
  · refine x_tableIn (tgt := 1270) dLaw_law_33 (by decide) (by decide) rfl (by decide) ?_
    exact law_lost hi hL hR hT
  · refine x_tableIn (tgt := 1293) dLaw_law_33 (by decide) (by decide) rfl (by decide) ?_
    exact law_laws hi hL hR hT
  · refine x_tableIn (tgt := 1316) dLaw_law_33 (by decide) (by decide) rfl (by decide) ?_
    exact law_witness hi hL hR hT
  · refine x_tableIn (tgt := 1339) dLaw_law_33 (by decide) (by decide) rfl (by decide) ?_
    exact law_alibi hi hL hR hT
  · refine x_tableIn (tgt := 1372) dLaw_law_33 (by decide) (by decide) rfl (by decide) ?_
    exact law_drawn hi hL hR hT
  · refine x_tableIn (tgt := 1405) dLaw_law_33 (by decide) (by decide) rfl (by decide) ?_
    exact law_odds hi hL hR hT
  · refine x_tableIn (tgt := 1458) dLaw_law_33 (by decide) (by decide) rfl (by decide) ?_
    exact law_image hi hL hR hT
  · refine x_tableIn (tgt := 1471) dLaw_law_33 (by decide) (by decide) rfl (by decide) ?_
    exact law_back hi hL hR hT
  · refine x_tableIn (tgt := 1484) dLaw_law_33 (by decide) (by decide) rfl (by decide) ?_
    exact law_sheet hi hL hR hT
  · refine x_tableIn (tgt := 1527) dLaw_law_33 (by decide) (by decide) rfl (by decide) ?_
    exact law_cell hi hL hR hT
  · refine x_tableIn (tgt := 1570) dLaw_law_33 (by decide) (by decide) rfl (by decide) ?_
    exact law_copy hi hL hR hT
  · refine x_tableIn (tgt := 1633) dLaw_law_33 (by decide) (by decide) rfl (by decide) ?_
    exact law_promisesBy hi hL hR hT
  · refine x_tableIn (tgt := 1686) dLaw_law_33 (by decide) (by decide) rfl (by decide) ?_
    exact law_taken hi hL hR hT
  · refine x_tableOut (tgt := 1719) dLaw_law_33 (Or.inr (by rw [nI_toInt (by omega)]; omega)) (by decide) ?_
    exact hT I L hR
theorem law_go {G : WG} {Post : PostT} (hL : gL G ≤ 448) (h1 : ∀ S I L, Post (some (.int 1)) S I L) : ∀ (n i : Nat) (I : IM) (L : LM), gL G ≤ i + 7 * n → i ≤ gL G + 7 → Rel I → X mLaw_law G (83, 0, 0) S1 I L 18 (lc i) [] Post := by
  intro n
  induction n with
  | zero =>
    intro i I L hn hi hR
    exact law_head (by omega) (by omega) h1 (fun hi2 => absurd hi2 (by omega))
  | succ n ih =>
    intro i I L hn hi hR
    exact law_head (by omega) (by omega) h1 (fun hi2 => law_call hi2 (by omega) hR (fun I' L' hR' => ih (i + 7) I' L' (by omega) (by omega) hR'))
theorem law_loop {G : WG} {I : IM} {L : LM} {Post : PostT} (hL : gL G ≤ 448) (hR : Rel I) (h0 : cE I = E0) (h1 : ∀ S I L, Post (some (.int 1)) S I L) : X mLaw_law G (83, 0, 0) S1 I L 18 (lc 0) [] Post :=
  law_go hL h1 64 0 I L (by omega) (by omega) hR
set_option maxHeartbeats 4000000 in
set_option maxRecDepth 100000 in
theorem law_start {G : WG} {I : IM} {L : LM} {Post : PostT} (hL : gL G ≤ 448) (h1 : ∀ S I L, Post (some (.int 1)) S I L) : X mLaw_law G (83, 100, 5325) (SP 0 []) I L 0 [.ref (1000000 + 200), .null, .null, .null] [] Post := by
  refine x_newOb (ci := 9) (nq := 9) (n := 0) dLaw_law_0 (q := _) rfl cl_Law_7 in_W it_W rfl rfl rfl ?_
  refine x_dup dLaw_law_3 rfl ?_
  refine x_callI_0 c_W_init ok_W_init rfl ml_Law_9 dLaw_law_4 rfl rfl rfl rfl rfl ?_
  refine ⟨rfl, rfl, upr_s _ _ _, fun I1 L1 e1 => ?_⟩
  refine x_astoren_1 dLaw_law_7 rfl rfl ?_
  rw [← SP_59]
  refine x_newOb (ci := 10) (nq := 62) (n := 59) dLaw_law_8 (q := _) rfl cl_Law_10 in_R it_R rfl rfl rfl ?_
  refine x_dup dLaw_law_11 rfl ?_
  refine x_callI_0 c_R_init ok_R_init rfl ml_Law_12 dLaw_law_12 rfl rfl rfl rfl rfl ?_
  refine ⟨rfl, rfl, upr_s _ _ _, fun I2 L2 k2 own e2 => ?_⟩
  refine x_astoren_2 dLaw_law_15 rfl rfl ?_
  refine x_iconst (v := 0) dLaw_law_16 rfl ?_
  refine x_istoren_3 dLaw_law_17 rfl rfl ?_
  have e3 : cE I2 = E0 := by
    rw [cE_lo (I := I1) (fun k hk => ?_)]
    · exact e1
    · rw [k2 k hk, upr_n _ _ (by omega)]
  exact law_loop hL ⟨by rw [e3, e2], by rw [e2]; exact Inv_E0, own⟩ e3 h1
end
section
-- 91.ld
/-! THE CLAIM OUT OF ONE WALK OF THE LAW'S BODY. Your part is whole_start (and what it stands on); all else here is the same for every law, but numbers. -/
def R_law : String := "WhoeverHeardLaw"
def lw_P (b : Addr) (xs : List Int32) (args : Array Value) (s : State) : Prop := args = #[.ref b] ∧ s.IntsAt b xs ∧ xs.length ≤ 448 ∧ (Jvm.Cond.and given_1 narrow_1).before args s = true
def lw_Q (_ : Array Value) (s : State) (o : Outcome) (t : State) : Prop := o = .returned (some (.int 1)) ∧ Framed s o t [] 600000 7302250
def lw_Z (below : List Frame) (a : Array Value) (s : State) : State → Prop := fun t => ∃ o, t.status = .running ∧ Ended t below o ∧ lw_Q a s o t
/-- the law's own end, with 1 on the stack, nothing written that was there before, its room as the claim has it -/
theorem lw_ret {p : Program} {l : Launch} {e : Env} {s : State} {m : MethodId} {below : List Frame} {meth : Method} {c : Code} {b : Nat} (hx : p.tables.exec = Jvm.exec) (hb : c.code = code) (hr : meth.sig.returnType = ret) (hlocks : meth.locks = false) {pc : Nat} {H : Heap} {ls : Array Slot} (hdg : decode code pc = .ok (.ireturn, 1)) : W p l e room_1 s m #[Value.ref b] below meth c H [] 600000 7302250 (lw_Z below #[Value.ref b] s) (F0 m pc ls [.int 1]) := by
  intro T hT X
  obtain ⟨fs, hret, hrun, hended, hW, hframe⟩ := X.leave (v := some (.int 1)) (hlocks := hlocks) (fun h => by rw [hr] at h; cases h)
  have hmeth' : T.vm.method? m = some meth := X.method'
  refine ⟨T.setFrames fs, ?_, .returned (some (.int 1)), hrun, hended, rfl, ⟨_, rfl⟩, hW, hframe⟩
  jvm_step X.here [X.here.top, hx, hb, hdg, hmeth', hr, ret, narrow_b1]
  (try refine ⟨rfl, ?_⟩); (try refine ⟨rfl, ?_⟩)
  first | (intro acts; rw [hret _ acts rfl rfl rfl]) | rw [hret _ _ rfl rfl rfl]
  exact Steps.refl _
/-- what holds at the law's entry: the machine, the code, the tables' words (any of lw_tbl by 'hts w (by decide +kernel)'), the script of L ints xs at the cell b, what the Statement gives of the start (any of its parts by flat_of_before) -/
def lw_At (p : Program) (s : State) (m : MethodId) (meth : Method) (c : Code) (b L : Nat) (xs : Nat → Int32) : Prop :=
  p.tables.exec = Jvm.exec ∧ c.code = code ∧ meth.sig.returnType = ret ∧ c.maxLocals = 4 ∧ s.vm.findClass R_law = some m.cls ∧ (∀ w ∈ lw_tbl, w.before #[Value.ref b] s = true) ∧ va_X b L xs s s.heap ∧ b < s.heap.size ∧ meth.locks = false ∧ (Jvm.Cond.and given_1 narrow_1).before #[Value.ref b] s = true ∧ meth.name = "law"
theorem inst_ok : ∀ (ci : Nat) (q : vw_C), vwCl[ci]? = some q → Cond.instantiable q.1 q.2.2 ∈ lwT := by
  intro ci q h
  match ci, h with
  | 0, h => cases h; exact in_Folk
  | 1, h => cases h; exact in_Image
  | 2, h => cases h; exact in_Ledger
  | 3, h => cases h; exact in_Reader
  | 4, h => cases h; exact in_Sayings
  | 5, h => cases h; exact in_Sheets
  | 6, h => cases h; exact in_Texts
  | 7, h => cases h; exact in_Town
  | 8, h => cases h; exact in_Vows
  | 9, h => cases h; exact in_W
  | 10, h => cases h; exact in_R
  | n + 11, h => simp [vwCl] at h
def stTm (i : Nat) : Term := .string (stO.getD i "") (stK.getD i 0)
abbrev gvF : List Cond := flatC (Jvm.Cond.and given_1 narrow_1)
theorem gv_at {k : Nat} {w : Cond} (h : gvF[k]? = some w) : w ∈ gvF := List.mem_of_getElem? h
theorem lt_at {k : Nat} {w : Cond} (h : lw_tbl[k]? = some w) : w ∈ lw_tbl := List.mem_of_getElem? h
def ixE : List (List Nat) := [[18, 19, 20, 21, 22], [97, 98, 99, 100, 101], [106, 107, 108, 109, 110], [115, 116, 117, 118, 119], [125, 126, 127, 128, 129], [137, 138, 139, 140, 141], [150, 151, 152, 153, 154], [164, 165, 166, 167, 168], [180, 181, 182, 183, 184], [197, 198, 199, 200, 201], [214, 215, 216, 217, 218], [230, 231, 232, 233, 234], [248, 249, 250, 251, 252]]
def ixN : List (List Nat) := [[0, 105, 113, 122, 133, 145, 158, 173, 189, 205, 220, 237, 255], [105, 0, 114, 123, 134, 146, 159, 174, 190, 206, 221, 238, 256], [113, 114, 0, 124, 135, 147, 160, 175, 191, 207, 222, 239, 257], [122, 123, 124, 0, 136, 148, 161, 176, 192, 208, 223, 240, 258], [133, 134, 135, 136, 0, 149, 162, 177, 193, 209, 224, 241, 259], [145, 146, 147, 148, 149, 0, 163, 178, 194, 210, 225, 242, 260], [158, 159, 160, 161, 162, 163, 0, 179, 195, 211, 226, 243, 261], [173, 174, 175, 176, 177, 178, 179, 0, 196, 212, 227, 244, 262], [189, 190, 191, 192, 193, 194, 195, 196, 0, 213, 228, 245, 263], [205, 206, 207, 208, 209, 210, 211, 212, 213, 0, 229, 246, 264], [220, 221, 222, 223, 224, 225, 226, 227, 228, 229, 0, 247, 265], [237, 238, 239, 240, 241, 242, 243, 244, 245, 246, 247, 0, 266], [255, 256, 257, 258, 259, 260, 261, 262, 263, 264, 265, 266, 0]]
def ixS : List Nat := [414, 493, 500, 501, 502, 503, 504, 513, 514, 515, 516, 517, 518]
theorem gv_1 : ∀ i, i < 13 → gvF[(ixE.getD i []).getD 0 0]? = some (Cond.exactly (stTm i) "java/lang/String") ∧ gvF[(ixE.getD i []).getD 1 0]? = some (Cond.eq (.field (stTm i) "java/lang/String" "coder" "B") (.int 0)) ∧ gvF[(ixE.getD i []).getD 2 0]? = some (Cond.arrayOf (.field (stTm i) "java/lang/String" "value" "[B") .byte) ∧ gvF[(ixE.getD i []).getD 3 0]? = some (Cond.eq (.length (.field (stTm i) "java/lang/String" "value" "[B")) (.int (Int32.ofNat (stL.getD i 0)))) := by decide +kernel
theorem gv_el : ∀ i, i < 13 → ∀ j, j < stL.getD i 0 → gvF[(ixE.getD i []).getD 4 0 + j]? = some (Cond.eq (.elem (.field (stTm i) "java/lang/String" "value" "[B") (.int (Int32.ofNat j))) (.int ((stB.getD i []).getD j 0))) := by decide +kernel
theorem gv_n : ∀ i, i < 13 → ∀ j, j < 13 → i ≠ j → gvF[(ixN.getD i []).getD j 0]? = some (Cond.not (Cond.eq (stTm i) (stTm j))) ∨ gvF[(ixN.getD i []).getD j 0]? = some (Cond.not (Cond.eq (stTm j) (stTm i))) := by decide +kernel
theorem gv_ka : ∀ j, j < 6 → gvF[12 + j]? = some (Cond.eq (.elem (.static "WhoeverHeard" "KIND_ABOVE" "[I") (.int (Int32.ofNat j))) (.int (kaL.getD j 0))) := by decide +kernel
theorem tb_sr : ∀ i, i < 13 → lw_tbl[ixS.getD i 0]? = some (Cond.stringRef (stO.getD i "") (stK.getD i 0) (stT.getD i "")) := by decide +kernel
theorem tb_nm : ∀ q ∈ nwM, Cond.methodLinkNest q.1 q.2.1 q.2.2.1 q.2.2.2 ∈ lw_tbl := fun q hq => memIx (l := nwM.map fun q => Cond.methodLinkNest q.1 q.2.1 q.2.2.1 q.2.2.2) (ix := [124, 174, 206, 238, 278, 367, 374, 397, 478, 664, 702, 726, 757]) (by decide +kernel) _ (List.mem_map.mpr ⟨q, hq, rfl⟩)
theorem tb_nf : ∀ q ∈ nwF, Cond.fieldLinkNest q.1 q.2.1 q.2.2.1 q.2.2.2.1 q.2.2.2.2.1 q.2.2.2.2.2 ∈ lw_tbl := fun q hq => memIx (l := nwF.map fun q => Cond.fieldLinkNest q.1 q.2.1 q.2.2.1 q.2.2.2.1 q.2.2.2.2.1 q.2.2.2.2.2) (ix := [681]) (by decide +kernel) _ (List.mem_map.mpr ⟨q, hq, rfl⟩)
theorem str_facts {args : Array Value} {s : State} (hs : ∀ c ∈ gvF, c.before args s = true) {A : Nat → Prop} (hA : ∀ a : Nat, a < s.heap.size → ¬ A a) : ∃ adK adV : Nat → Nat, vk_S nStr stL stB adK adV A s s.heap ∧ ∀ i : Nat, i < nStr → (stTm i).eval args s none [] s = some (.ref (adK i)) :=
  vk_Sof (tm := stTm) (by decide) (fun i hi => hs _ (gv_at (gv_1 i hi).1)) (fun i hi => hs _ (gv_at (gv_1 i hi).2.1)) (fun i hi => hs _ (gv_at (gv_1 i hi).2.2.1)) (fun i hi => hs _ (gv_at (gv_1 i hi).2.2.2)) (fun i hi j hj => hs _ (gv_at (gv_el i hi j hj))) (fun i j hi hj hij => (gv_n i hi j hj hij).elim (fun h => Or.inl (hs _ (gv_at h))) (fun h => Or.inr (hs _ (gv_at h)))) hA
set_option maxHeartbeats 4000000 in
set_option maxRecDepth 100000 in
/-- the law's body from its entry -/
theorem whole_start {p : Program} {e : Env} {s : State} {m : MethodId} {below : List Frame} {meth : Method} {c : Code} (l : Launch) (hflags : l.flags = flags0) {b L : Nat} {xs : Nat → Int32} (hL : L ≤ 448) (C0 : lw_At p s m meth c b L xs) : W p l e room_1 s m #[Value.ref b] below meth c s.heap [] 0 0 (lw_Z below #[Value.ref b] s) (entryFrame m ([Value.ref b] : List Value).toArray 4) := by
  obtain ⟨hx, hb, hr, hml, hown, hts, hX, hbl, hlocks, hgv, hnm⟩ := C0
  have hs : ∀ c ∈ gvF, c.before #[Value.ref b] s = true := flat_of_before _ hgv
  have hA : ∀ a : Nat, a < s.heap.size → ¬ (fun q : Nat => s.heap.size ≤ q) a := fun a h => Nat.not_le.mpr h
  obtain ⟨adK, adV, hVS, hev⟩ := str_facts hs hA
  obtain ⟨tk, htk, hTk⟩ := va_Tof (tm := .static "WhoeverHeard" "KIND_ABOVE" "[I") (ty := .int) (N := 6) (f := fun j => .int (kaL.getD j 0)) (by decide) (hs (.arrayOf (.static "WhoeverHeard" "KIND_ABOVE" "[I") .int) (gv_at (k := 10) (by decide +kernel))) (va_eqt (hs (.eq (.length (.static "WhoeverHeard" "KIND_ABOVE" "[I")) (.int 6)) (gv_at (k := 11) (by decide +kernel)))) (fun j hj => va_eqt (hs _ (gv_at (gv_ka j hj)))) hA
  have hZk := va_Zref (hts (.laysStatic "WhoeverHeard" "KIND_ABOVE" "[I") (lt_at (k := 682) (by decide +kernel))) (hts (.initialized "WhoeverHeard") (lt_at (k := 73) (by decide +kernel))) htk hA
  have hCS := va_Zof (v := .int 1) (hts (.laysStatic "java/lang/String" "COMPACT_STRINGS" "Z") (lt_at (k := 424) (by decide +kernel))) (hts (.initialized "java/lang/String") (lt_at (k := 84) (by decide +kernel))) (va_eqt (hs (.eq (.static "java/lang/String" "COMPACT_STRINGS" "Z") (.int 1)) (gv_at (k := 4) (by decide +kernel)))) hA
  have hSI := va_Zqof (hts (.laysStatic "jdk/internal/util/Preconditions" "SIOOBE_FORMATTER" "Ljava/util/function/BiFunction;") (lt_at (k := 440) (by decide +kernel))) (hts (.initialized "jdk/internal/util/Preconditions") (lt_at (k := 86) (by decide +kernel))) (hs (.isRef (.static "jdk/internal/util/Preconditions" "SIOOBE_FORMATTER" "Ljava/util/function/BiFunction;")) (gv_at (k := 5) (by decide +kernel))) hA
  obtain ⟨tf, hSI2⟩ : ∃ tf : Nat, va_Z "jdk/internal/util/Preconditions" "SIOOBE_FORMATTER" "Ljava/util/function/BiFunction;" .null (fun q : Nat => s.heap.size ≤ q) s s.heap ∨ va_Z "jdk/internal/util/Preconditions" "SIOOBE_FORMATTER" "Ljava/util/function/BiFunction;" (.ref tf) (fun q : Nat => s.heap.size ≤ q) s s.heap := by
    rcases hSI with h | ⟨t, h⟩
    · exact ⟨0, Or.inl h⟩
    · exact ⟨t, Or.inr h⟩
  have h0 : ∀ ci : Nat, ∃ z : ClassId × (Nat → Nat), ∀ q : vw_C, vwCl[ci]? = some q → u_Kn s q.1 q.2.1 q.2.2 z.1 z.2 := by
    intro ci
    cases hq : vwCl[ci]? with
    | none => exact ⟨(0, fun _ => 0), fun q h => by cases h⟩
    | some q =>
      have hw := (cls_ok ci q hq).1
      obtain ⟨cC, iS, hk⟩ := u_known (C := q.1) (T := q.2.1) (N := q.2.2) (n := q.2.2) hts (fun w hwm => (List.mem_filter.mp (hw w hwm)).1) (hts _ (List.mem_filter.mp (inst_ok ci q hq)).1)
      exact ⟨(cC, iS), fun q' h => by cases h; exact hk⟩
  obtain ⟨zz, hzz⟩ := Classical.axiomOfChoice h0
  obtain ⟨cA, kA, comp, f1, f2, f3⟩ := Cond.arrayClass_spec (hts (.arrayClass .int) (lt_at (k := arrIntAt) (by decide +kernel)))
  obtain ⟨gff, hgff⟩ : ∃ gff : Nat → Nat, gff = fun k => if k = 100 then tk else if k = 150 then tf else if k = 200 then b else if k < 50 then adK k else adV (k - 50) := ⟨_, rfl⟩
  have g1 : ∀ i, i < nStr → gff i = adK i := fun i hi => by
    have hi' : i < 13 := hi
    rw [hgff]
    show (if i = 100 then tk else if i = 150 then tf else if i = 200 then b else if i < 50 then adK i else adV (i - 50)) = adK i
    rw [if_neg (by omega), if_neg (by omega), if_neg (by omega), if_pos (by omega)]
  have g2 : ∀ i, i < nStr → gff (50 + i) = adV i := fun i hi => by
    have hi' : i < 13 := hi
    rw [hgff]
    show (if 50 + i = 100 then tk else if 50 + i = 150 then tf else if 50 + i = 200 then b else if 50 + i < 50 then adK (50 + i) else adV (50 + i - 50)) = adV i
    rw [if_neg (by omega), if_neg (by omega), if_neg (by omega), if_neg (by omega), Nat.add_sub_cancel_left]
  have g3 : gff 100 = tk := by rw [hgff]; rfl
  have g4 : gff 150 = tf := by rw [hgff]; rfl
  have g5 : gff 200 = b := by rw [hgff]; rfl
  obtain ⟨G, hG⟩ : ∃ G : WG, G = ((fun k => (zz k).1, fun k => (zz k).2), cA, s.heap.size, gff, L, xs) := ⟨_, rfl⟩
  have eb : gb G = s.heap.size := by rw [hG]; rfl
  have ef : gf G = gff := by rw [hG]; rfl
  have eL : gL G = L := by rw [hG]; rfl
  have ex : gx G = xs := by rw [hG]; rfl
  have eA : AA G = fun q : Nat => s.heap.size ≤ q := by
    funext q
    show (gb G ≤ q) = _
    rw [eb]
  have hFF : FF G s := by
    refine ⟨?_, ?_, fun i hi => ?_, ?_, ?_, ?_, ?_, ?_, ?_, fun q hq => va_Nw.of rfl (hts _ (tb_nm q hq)), fun q hq => va_Nw.of rfl (hts _ (tb_nf q hq))⟩
    · rw [ef, g3, eA]; exact hZk
    · rw [ef, g3, eA]; exact hTk
    · rw [ef, g1 i hi]
      exact vk_R.of (hts _ (lt_at (tb_sr i hi))) (hev i hi)
    · rw [ef, eA]
      refine ⟨fun i hi => ?_, fun i j hi hj h => hVS.2 i j hi hj (by rw [← g1 i hi, ← g1 j hj]; exact h)⟩
      have h := hVS.1 i hi
      rw [← g1 i hi, ← g2 i hi] at h
      exact h
    · rw [eA]; exact hCS
    · rw [ef, g4, eA]; exact hSI2
    · rw [ef, g5, eL, ex]; exact hX
    · rw [ef, g5]; exact hbl
    · rw [ef, g5, eb]; exact hbl
  have hK : va_K (gD G) vwCl [(gA G, .int)] s := by
    rw [hG]
    refine ⟨fun k q hq => hzz k q hq, fun k q hq => ?_⟩
    match k, hq with
    | 0, hq =>
      cases hq
      exact ⟨fun n z => ⟨fun k h => (by cases h), kA, f2, comp, f3⟩, f1⟩
    | k + 1, hq => simp at hq
  have hl := lv_entry ([Value.ref b]) (n := 4) (Nat.le_of_ble_eq_true rfl)
  rw [lg_entry_eq]
  generalize (lg_sl ([Value.ref b]) ++ List.replicate (4 - (lg_sl ([Value.ref b])).length) Slot.unset).toArray = ls at hl ⊢
  have K := law_start (G := G) (I := fun _ _ => 0) (L := fun _ _ => 0) (Post := fun v _ _ _ => v = some (.int 1)) (by rw [eL]; exact hL) (fun _ _ _ => rfl)
  refine K p l e room_1 s m #[Value.ref b] below meth c _ ⟨⟨hx, hb, hml, hown, fun w hw => hts w (List.mem_filter.mp hw).1, hnm⟩, hFF, hK, by rw [eb]; exact Nat.le_refl _, ?_, Nat.le_of_ble_eq_true rfl, Nat.le_of_ble_eq_true rfl⟩ s.heap [] 0 0 ls (Nat.le_of_ble_eq_true rfl) (Nat.le_of_ble_eq_true rfl) ⟨by rw [eb]; rfl, Nat.lt_of_lt_of_le Nat.zero_lt_one (Nat.le_of_ble_eq_true rfl), fun k q h => ?_⟩ va_S.rf ⟨hl.1, hl.2.1, fun j v hj hv => ?_⟩
  · intro v S' I' L' H locs cells slots pc ls' hp hRet hRep hS hc hs'
    subst hp
    rcases hRet with ⟨x, ty, hv, hm, hn, hd⟩ | ⟨x, hv, -⟩ | ⟨hv, -⟩
    · have hS2 : ∀ q ∈ locs, s.heap.size ≤ q.base := fun q hq => by
        have h := hS.2.2 q hq
        rw [eA] at h
        exact h
      refine va_forget hS2 ?_
      refine W.widen (k := 600000) (n := 7302250) hc hs' ?_
      exact lw_ret hx hb hr hlocks hd
    · cases hv
    · cases hv
  · rw [wsl_none G _ _ _ (Nat.not_lt_zero k)] at h
    cases h
  · match j, hj with
    | 0, hj =>
      cases hj
      have e1 : vmap G (.ref (1000000 + 200)) = .ref b := by
        show Value.ref (adr G (1000000 + 200)) = _
        rw [adr_f, ef, g5]
      rw [e1]
      exact hl.2.2 (0, .ref b) List.mem_cons_self
    | 1, hj => exact absurd (Option.some.inj hj).symm hv
    | 2, hj => exact absurd (Option.some.inj hj).symm hv
    | 3, hj => exact absurd (Option.some.inj hj).symm hv
    | j + 4, hj => simp at hj
end
