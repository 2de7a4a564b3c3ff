section LC
variable {p : Program} {l : Launch} {e : Env} {s : State} {m : MethodId} {below : List Frame} {meth : Method} {c : Code} {H : Heap} {locs : List Loc} {Q : State → Prop}
variable {ls : Array Slot} {b L : Nat} {xs : Nat → Int32} {w : zW} {H0 : Heap}
set_option maxHeartbeats 4000000 in
set_option maxRecDepth 100000 in
theorem law_c5 (F : CallFix p m c code 4 s #[.ref b] wsL_law RL) (hK : zK7 w s) (hX : va_X b L xs s H0) (hbl : b < H0.size) (hbA : ¬ aL w b) (hL : L ≤ 3584) {i u : Nat} {C X : zM} (hu : u ≤ 400) (hi : i + 7 ≤ L) (hZ : Ls w H0 u C X H locs) (hM : Sim C X u) (hB : IB X) (hl : lv_has ls 4 [(0, .ref b), (1, .ref (w.2.1 + (0))), (2, .ref (w.2.1 + (64))), (3, .int (zI ((i : Int))))])
    (kk : ∀ (u1 : Nat) (C1 X1 : zM) (H : Heap) (locs : List Loc), Ls w H0 u1 C1 X1 H locs → Sim C1 X1 u1 → IB X1 → W p l e room_1 s m #[.ref b] below meth c H locs (71 + u1) (7873 + 8 * u1) Q (F0 m 588 ls [])) : W p l e room_1 s m #[.ref b] below meth c H locs (71 + u) (7873 + 8 * u) Q (F0 m 271 ls []) := by
  refine z_aload_n F dL_law_271 rfl (lv_at hl 1 rfl) ?_
  refine z_aload_n F dL_law_272 rfl (lv_at hl 0 rfl) ?_
  refine z_iload_n F dL_law_273 rfl (lv_at hl 3 rfl) ?_
  refine z_iconst F dL_law_274 ?_
  refine z_iadd F dL_law_275 ?_
  refine z_sld F hX hbl hbA hZ.1.2.2 hL (i + 1) (by omega) (by omega) dL_law_276 ?_
  refine z_aload_n F dL_law_277 rfl (lv_at hl 0 rfl) ?_
  refine z_iload_n F dL_law_278 rfl (lv_at hl 3 rfl) ?_
  refine z_iconst F dL_law_279 ?_
  refine z_iadd F dL_law_280 ?_
  refine z_sld F hX hbl hbA hZ.1.2.2 hL (i + 2) (by omega) (by omega) dL_law_281 ?_
  have hB2 : IB (mCome X (sv xs (i + 1)) (sv xs (i + 2))) := IB_come hB (sv xs (i + 1)) (sv xs (i + 2))
  have hu4 : mU u (mCome X (sv xs (i + 1)) (sv xs (i + 2))) ≤ 400 := mU_400 hu hB2.1
  have huu : u ≤ mU u (mCome X (sv xs (i + 1)) (sv xs (i + 2))) := mU_ge _ _
  refine l_callC hZ (va_runV (As := [.int (zI (sv xs (i + 1))), .int (zI (sv xs (i + 2)))]) (rest := []) F (k_X7_come l w (aC w) (aC_h w) u C X hM hB.1  (sv xs (i + 1)) (sv xs (i + 2)) (sv_rng xs _) (sv_rng xs _)) (cwV 2 F.2.2.2.2 gL_law_X7_come rfl rfl rfl (by decide +kernel) ⟨Nat.le_of_ble_eq_true rfl, Nat.le_of_ble_eq_true rfl⟩) (z_preV hK.1 hZ.1 (0) (dC_s (by omega)) rfl (by decide) rfl _) rfl rfl hl.1 rfl (lv_room (Nat.le_of_ble_eq_true rfl)) dL_law_282 ⟨by show 71 + u + (mU u (mCome X (sv xs (i + 1)) (sv xs (i + 2))) - u) ≤ 600000; omega, by show 7873 + 8 * u + (8 * (mU u (mCome X (sv xs (i + 1)) (sv xs (i + 2))) - u)) ≤ 7302249; omega⟩) (fun C1 H locs hC1 hZ => ?_)
  refine z_aload_n F dL_law_285 rfl (lv_at hl 2 rfl) ?_
  refine z_aload_n F dL_law_286 rfl (lv_at hl 0 rfl) ?_
  refine z_iload_n F dL_law_287 rfl (lv_at hl 3 rfl) ?_
  refine z_iconst F dL_law_288 ?_
  refine z_iadd F dL_law_289 ?_
  refine z_sld F hX hbl hbA hZ.1.2.2 hL (i + 1) (by omega) (by omega) dL_law_290 ?_
  refine z_aload_n F dL_law_291 rfl (lv_at hl 0 rfl) ?_
  refine z_iload_n F dL_law_292 rfl (lv_at hl 3 rfl) ?_
  refine z_iconst F dL_law_293 ?_
  refine z_iadd F dL_law_294 ?_
  refine z_sld F hX hbl hbA hZ.1.2.2 hL (i + 2) (by omega) (by omega) dL_law_295 ?_
  refine l_callX hZ (va_runV (As := [.int (zI (sv xs (i + 1))), .int (zI (sv xs (i + 2)))]) (rest := [.int (zI (rCome X (sv xs (i + 1)) (sv xs (i + 2))))]) F (k_X8_come l w dX (aX w) (aX_h w) (w.2.1 + (71 + (mU u (mCome X (sv xs (i + 1)) (sv xs (i + 2)))))) X (fun i h => h) hB.1 (sv xs (i + 1)) (sv xs (i + 2)) (sv_rng xs _) (sv_rng xs _)) (cwV 2 F.2.2.2.2 gL_law_X8_come rfl rfl rfl (by decide +kernel) ⟨Nat.le_of_ble_eq_true rfl, Nat.le_of_ble_eq_true rfl⟩) (z_preV hK.1 hZ.x (64) ⟨by decide, by decide⟩ rfl (by decide) rfl _) rfl rfl hl.1 rfl (lv_room (Nat.le_of_ble_eq_true rfl)) dL_law_296 ⟨by show 71 + u + (mU u (mCome X (sv xs (i + 1)) (sv xs (i + 2))) - u) + 0 ≤ 600000; omega, by show 7873 + 8 * u + (8 * (mU u (mCome X (sv xs (i + 1)) (sv xs (i + 2))) - u)) + 0 ≤ 7302249; omega⟩) (fun H locs hZ => ?_)
  refine lv_icmp_eq (tgt := 588) F.1 F.2.1 dL_law_299 (by decide) (fun _ => ?_) (fun h => absurd rfl h)
  refine W.widen (show 71 + u + (mU u (mCome X (sv xs (i + 1)) (sv xs (i + 2))) - u) + 0 ≤ 71 + mU u (mCome X (sv xs (i + 1)) (sv xs (i + 2))) by omega) (show 7873 + 8 * u + (8 * (mU u (mCome X (sv xs (i + 1)) (sv xs (i + 2))) - u)) + 0 ≤ 7873 + 8 * mU u (mCome X (sv xs (i + 1)) (sv xs (i + 2))) by omega) ?_
  exact kk _ C1 (mCome X (sv xs (i + 1)) (sv xs (i + 2))) H locs hZ hC1 hB2

set_option maxHeartbeats 4000000 in
set_option maxRecDepth 100000 in
theorem law_c6 (F : CallFix p m c code 4 s #[.ref b] wsL_law RL) (hK : zK7 w s) (hX : va_X b L xs s H0) (hbl : b < H0.size) (hbA : ¬ aL w b) (hL : L ≤ 3584) {i u : Nat} {C X : zM} (hu : u ≤ 400) (hi : i + 7 ≤ L) (hZ : Ls w H0 u C X H locs) (hM : Sim C X u) (hB : IB X) (hl : lv_has ls 4 [(0, .ref b), (1, .ref (w.2.1 + (0))), (2, .ref (w.2.1 + (64))), (3, .int (zI ((i : Int))))])
    (kk : ∀ (u1 : Nat) (C1 X1 : zM) (H : Heap) (locs : List Loc), Ls w H0 u1 C1 X1 H locs → Sim C1 X1 u1 → IB X1 → W p l e room_1 s m #[.ref b] below meth c H locs (71 + u1) (7873 + 8 * u1) Q (F0 m 588 ls [])) : W p l e room_1 s m #[.ref b] below meth c H locs (71 + u) (7873 + 8 * u) Q (F0 m 304 ls []) := by
  refine z_aload_n F dL_law_304 rfl (lv_at hl 1 rfl) ?_
  refine z_aload_n F dL_law_305 rfl (lv_at hl 0 rfl) ?_
  refine z_iload_n F dL_law_306 rfl (lv_at hl 3 rfl) ?_
  refine z_iconst F dL_law_307 ?_
  refine z_iadd F dL_law_308 ?_
  refine z_sld F hX hbl hbA hZ.1.2.2 hL (i + 1) (by omega) (by omega) dL_law_309 ?_
  refine z_aload_n F dL_law_310 rfl (lv_at hl 0 rfl) ?_
  refine z_iload_n F dL_law_311 rfl (lv_at hl 3 rfl) ?_
  refine z_iconst F dL_law_312 ?_
  refine z_iadd F dL_law_313 ?_
  refine z_sld F hX hbl hbA hZ.1.2.2 hL (i + 2) (by omega) (by omega) dL_law_314 ?_
  have hB2 : IB (mEnd X (sv xs (i + 1)) (sv xs (i + 2))) := IB_end hB (sv xs (i + 1)) (sv xs (i + 2))
  have hu4 : mU u (mEnd X (sv xs (i + 1)) (sv xs (i + 2))) ≤ 400 := mU_400 hu hB2.1
  have huu : u ≤ mU u (mEnd X (sv xs (i + 1)) (sv xs (i + 2))) := mU_ge _ _
  refine l_callC hZ (va_runV (As := [.int (zI (sv xs (i + 1))), .int (zI (sv xs (i + 2)))]) (rest := []) F (k_X7_end l w (aC w) (aC_h w) u C X hM hB.1  (sv xs (i + 1)) (sv xs (i + 2)) (sv_rng xs _) (sv_rng xs _)) (cwV 2 F.2.2.2.2 gL_law_X7_end rfl rfl rfl (by decide +kernel) ⟨Nat.le_of_ble_eq_true rfl, Nat.le_of_ble_eq_true rfl⟩) (z_preV hK.1 hZ.1 (0) (dC_s (by omega)) rfl (by decide) rfl _) rfl rfl hl.1 rfl (lv_room (Nat.le_of_ble_eq_true rfl)) dL_law_315 ⟨by show 71 + u + (mU u (mEnd X (sv xs (i + 1)) (sv xs (i + 2))) - u) ≤ 600000; omega, by show 7873 + 8 * u + (8 * (mU u (mEnd X (sv xs (i + 1)) (sv xs (i + 2))) - u)) ≤ 7302249; omega⟩) (fun C1 H locs hC1 hZ => ?_)
  refine z_aload_n F dL_law_318 rfl (lv_at hl 2 rfl) ?_
  refine z_aload_n F dL_law_319 rfl (lv_at hl 0 rfl) ?_
  refine z_iload_n F dL_law_320 rfl (lv_at hl 3 rfl) ?_
  refine z_iconst F dL_law_321 ?_
  refine z_iadd F dL_law_322 ?_
  refine z_sld F hX hbl hbA hZ.1.2.2 hL (i + 1) (by omega) (by omega) dL_law_323 ?_
  refine z_aload_n F dL_law_324 rfl (lv_at hl 0 rfl) ?_
  refine z_iload_n F dL_law_325 rfl (lv_at hl 3 rfl) ?_
  refine z_iconst F dL_law_326 ?_
  refine z_iadd F dL_law_327 ?_
  refine z_sld F hX hbl hbA hZ.1.2.2 hL (i + 2) (by omega) (by omega) dL_law_328 ?_
  refine l_callX hZ (va_runV (As := [.int (zI (sv xs (i + 1))), .int (zI (sv xs (i + 2)))]) (rest := [.int (zI (rEnd X (sv xs (i + 1)) (sv xs (i + 2))))]) F (k_X8_end l w dX (aX w) (aX_h w) (w.2.1 + (71 + (mU u (mEnd X (sv xs (i + 1)) (sv xs (i + 2)))))) X (fun i h => h) hB.1 (sv xs (i + 1)) (sv xs (i + 2)) (sv_rng xs _) (sv_rng xs _)) (cwV 2 F.2.2.2.2 gL_law_X8_end rfl rfl rfl (by decide +kernel) ⟨Nat.le_of_ble_eq_true rfl, Nat.le_of_ble_eq_true rfl⟩) (z_preV hK.1 hZ.x (64) ⟨by decide, by decide⟩ rfl (by decide) rfl _) rfl rfl hl.1 rfl (lv_room (Nat.le_of_ble_eq_true rfl)) dL_law_329 ⟨by show 71 + u + (mU u (mEnd X (sv xs (i + 1)) (sv xs (i + 2))) - u) + 0 ≤ 600000; omega, by show 7873 + 8 * u + (8 * (mU u (mEnd X (sv xs (i + 1)) (sv xs (i + 2))) - u)) + 0 ≤ 7302249; omega⟩) (fun H locs hZ => ?_)
  refine lv_icmp_eq (tgt := 588) F.1 F.2.1 dL_law_332 (by decide) (fun _ => ?_) (fun h => absurd rfl h)
  refine W.widen (show 71 + u + (mU u (mEnd X (sv xs (i + 1)) (sv xs (i + 2))) - u) + 0 ≤ 71 + mU u (mEnd X (sv xs (i + 1)) (sv xs (i + 2))) by omega) (show 7873 + 8 * u + (8 * (mU u (mEnd X (sv xs (i + 1)) (sv xs (i + 2))) - u)) + 0 ≤ 7873 + 8 * mU u (mEnd X (sv xs (i + 1)) (sv xs (i + 2))) by omega) ?_
  exact kk _ C1 (mEnd X (sv xs (i + 1)) (sv xs (i + 2))) H locs hZ hC1 hB2

set_option maxHeartbeats 4000000 in
set_option maxRecDepth 100000 in
theorem law_c7 (F : CallFix p m c code 4 s #[.ref b] wsL_law RL) (hK : zK7 w s) (hX : va_X b L xs s H0) (hbl : b < H0.size) (hbA : ¬ aL w b) (hL : L ≤ 3584) {i u : Nat} {C X : zM} (hu : u ≤ 400) (hi : i + 7 ≤ L) (hZ : Ls w H0 u C X H locs) (hM : Sim C X u) (hB : IB X) (hl : lv_has ls 4 [(0, .ref b), (1, .ref (w.2.1 + (0))), (2, .ref (w.2.1 + (64))), (3, .int (zI ((i : Int))))])
    (kk : ∀ (u1 : Nat) (C1 X1 : zM) (H : Heap) (locs : List Loc), Ls w H0 u1 C1 X1 H locs → Sim C1 X1 u1 → IB X1 → W p l e room_1 s m #[.ref b] below meth c H locs (71 + u1) (7873 + 8 * u1) Q (F0 m 588 ls [])) : W p l e room_1 s m #[.ref b] below meth c H locs (71 + u) (7873 + 8 * u) Q (F0 m 337 ls []) := by
  refine z_aload_n F dL_law_337 rfl (lv_at hl 1 rfl) ?_
  refine z_aload_n F dL_law_338 rfl (lv_at hl 0 rfl) ?_
  refine z_iload_n F dL_law_339 rfl (lv_at hl 3 rfl) ?_
  refine z_iconst F dL_law_340 ?_
  refine z_iadd F dL_law_341 ?_
  refine z_sld F hX hbl hbA hZ.1.2.2 hL (i + 1) (by omega) (by omega) dL_law_342 ?_
  have hB2 : IB (mFair X (sv xs (i + 1))) := IB_fair hB (sv xs (i + 1))
  have hu4 : mU u (mFair X (sv xs (i + 1))) ≤ 400 := mU_400 hu hB2.1
  have huu : u ≤ mU u (mFair X (sv xs (i + 1))) := mU_ge _ _
  refine l_callC hZ (va_runV (As := [.int (zI (sv xs (i + 1)))]) (rest := []) F (k_X7_fair l w (aC w) (aC_h w) u C X hM hB.1  (sv xs (i + 1)) (sv_rng xs _)) (cwV 1 F.2.2.2.2 gL_law_X7_fair rfl rfl rfl (by decide +kernel) ⟨Nat.le_of_ble_eq_true rfl, Nat.le_of_ble_eq_true rfl⟩) (z_preV hK.1 hZ.1 (0) (dC_s (by omega)) rfl (by decide) rfl _) rfl rfl hl.1 rfl (lv_room (Nat.le_of_ble_eq_true rfl)) dL_law_343 ⟨by show 71 + u + (mU u (mFair X (sv xs (i + 1))) - u) ≤ 600000; omega, by show 7873 + 8 * u + (8 * (mU u (mFair X (sv xs (i + 1))) - u)) ≤ 7302249; omega⟩) (fun C1 H locs hC1 hZ => ?_)
  refine z_aload_n F dL_law_346 rfl (lv_at hl 2 rfl) ?_
  refine z_aload_n F dL_law_347 rfl (lv_at hl 0 rfl) ?_
  refine z_iload_n F dL_law_348 rfl (lv_at hl 3 rfl) ?_
  refine z_iconst F dL_law_349 ?_
  refine z_iadd F dL_law_350 ?_
  refine z_sld F hX hbl hbA hZ.1.2.2 hL (i + 1) (by omega) (by omega) dL_law_351 ?_
  refine l_callX hZ (va_runV (As := [.int (zI (sv xs (i + 1)))]) (rest := [.int (zI (rFair X (sv xs (i + 1))))]) F (k_X8_fair l w dX (aX w) (aX_h w) (w.2.1 + (71 + (mU u (mFair X (sv xs (i + 1)))))) X (fun i h => h) hB.1 (sv xs (i + 1)) (sv_rng xs _)) (cwV 1 F.2.2.2.2 gL_law_X8_fair rfl rfl rfl (by decide +kernel) ⟨Nat.le_of_ble_eq_true rfl, Nat.le_of_ble_eq_true rfl⟩) (z_preV hK.1 hZ.x (64) ⟨by decide, by decide⟩ rfl (by decide) rfl _) rfl rfl hl.1 rfl (lv_room (Nat.le_of_ble_eq_true rfl)) dL_law_352 ⟨by show 71 + u + (mU u (mFair X (sv xs (i + 1))) - u) + 0 ≤ 600000; omega, by show 7873 + 8 * u + (8 * (mU u (mFair X (sv xs (i + 1))) - u)) + 0 ≤ 7302249; omega⟩) (fun H locs hZ => ?_)
  refine lv_icmp_eq (tgt := 588) F.1 F.2.1 dL_law_355 (by decide) (fun _ => ?_) (fun h => absurd rfl h)
  refine W.widen (show 71 + u + (mU u (mFair X (sv xs (i + 1))) - u) + 0 ≤ 71 + mU u (mFair X (sv xs (i + 1))) by omega) (show 7873 + 8 * u + (8 * (mU u (mFair X (sv xs (i + 1))) - u)) + 0 ≤ 7873 + 8 * mU u (mFair X (sv xs (i + 1))) by omega) ?_
  exact kk _ C1 (mFair X (sv xs (i + 1))) H locs hZ hC1 hB2

set_option maxHeartbeats 4000000 in
set_option maxRecDepth 100000 in
theorem law_c8 (F : CallFix p m c code 4 s #[.ref b] wsL_law RL) (hK : zK7 w s) (hX : va_X b L xs s H0) (hbl : b < H0.size) (hbA : ¬ aL w b) (hL : L ≤ 3584) {i u : Nat} {C X : zM} (hu : u ≤ 400) (hi : i + 7 ≤ L) (hZ : Ls w H0 u C X H locs) (hM : Sim C X u) (hB : IB X) (hl : lv_has ls 4 [(0, .ref b), (1, .ref (w.2.1 + (0))), (2, .ref (w.2.1 + (64))), (3, .int (zI ((i : Int))))])
    (kk : ∀ (u1 : Nat) (C1 X1 : zM) (H : Heap) (locs : List Loc), Ls w H0 u1 C1 X1 H locs → Sim C1 X1 u1 → IB X1 → W p l e room_1 s m #[.ref b] below meth c H locs (71 + u1) (7873 + 8 * u1) Q (F0 m 588 ls [])) : W p l e room_1 s m #[.ref b] below meth c H locs (71 + u) (7873 + 8 * u) Q (F0 m 360 ls []) := by
  refine z_aload_n F dL_law_360 rfl (lv_at hl 1 rfl) ?_
  refine z_aload_n F dL_law_361 rfl (lv_at hl 0 rfl) ?_
  refine z_iload_n F dL_law_362 rfl (lv_at hl 3 rfl) ?_
  refine z_iconst F dL_law_363 ?_
  refine z_iadd F dL_law_364 ?_
  refine z_sld F hX hbl hbA hZ.1.2.2 hL (i + 1) (by omega) (by omega) dL_law_365 ?_
  refine z_aload_n F dL_law_366 rfl (lv_at hl 0 rfl) ?_
  refine z_iload_n F dL_law_367 rfl (lv_at hl 3 rfl) ?_
  refine z_iconst F dL_law_368 ?_
  refine z_iadd F dL_law_369 ?_
  refine z_sld F hX hbl hbA hZ.1.2.2 hL (i + 2) (by omega) (by omega) dL_law_370 ?_
  refine l_callC hZ (va_runV (As := [.int (zI (sv xs (i + 1))), .int (zI (sv xs (i + 2)))]) (rest := []) F (k_X7_seat l w (dC u) (aC w) (dC_A (aC_h w)) (w.2.1 + (71 + u)) C X u (fun i h => dC_s h) (fun i h => dC_l h) hM hB.1 (sv xs (i + 1)) (sv xs (i + 2)) (sv_rng xs _) (sv_rng xs _)) (cwV 2 F.2.2.2.2 gL_law_X7_seat rfl rfl rfl (by decide +kernel) ⟨Nat.le_of_ble_eq_true rfl, Nat.le_of_ble_eq_true rfl⟩) (z_preV hK.1 hZ.1 (0) (dC_s (by omega)) rfl (by decide) rfl _) rfl rfl hl.1 rfl (lv_room (Nat.le_of_ble_eq_true rfl)) dL_law_371 ⟨by show 71 + u + (0) ≤ 600000; omega, by show 7873 + 8 * u + (0) ≤ 7302249; omega⟩) (fun C1 H locs hC1 hZ => ?_)
  rw [hC1] at hZ
  refine z_aload_n F dL_law_374 rfl (lv_at hl 2 rfl) ?_
  refine z_aload_n F dL_law_375 rfl (lv_at hl 0 rfl) ?_
  refine z_iload_n F dL_law_376 rfl (lv_at hl 3 rfl) ?_
  refine z_iconst F dL_law_377 ?_
  refine z_iadd F dL_law_378 ?_
  refine z_sld F hX hbl hbA hZ.1.2.2 hL (i + 1) (by omega) (by omega) dL_law_379 ?_
  refine z_aload_n F dL_law_380 rfl (lv_at hl 0 rfl) ?_
  refine z_iload_n F dL_law_381 rfl (lv_at hl 3 rfl) ?_
  refine z_iconst F dL_law_382 ?_
  refine z_iadd F dL_law_383 ?_
  refine z_sld F hX hbl hbA hZ.1.2.2 hL (i + 2) (by omega) (by omega) dL_law_384 ?_
  refine l_callX hZ (va_runV (As := [.int (zI (sv xs (i + 1))), .int (zI (sv xs (i + 2)))]) (rest := [.int (zI (rSeat X (sv xs (i + 1)) (sv xs (i + 2))))]) F (k_X8_seat l w dX (aX w) (aX_h w) (w.2.1 + (71 + u)) X (fun i h => h) hB.1 (sv xs (i + 1)) (sv xs (i + 2)) (sv_rng xs _) (sv_rng xs _)) (cwV 2 F.2.2.2.2 gL_law_X8_seat rfl rfl rfl (by decide +kernel) ⟨Nat.le_of_ble_eq_true rfl, Nat.le_of_ble_eq_true rfl⟩) (z_preV hK.1 hZ.x (64) ⟨by decide, by decide⟩ rfl (by decide) rfl _) rfl rfl hl.1 rfl (lv_room (Nat.le_of_ble_eq_true rfl)) dL_law_385 ⟨by show 71 + u + (0) + 0 ≤ 600000; omega, by show 7873 + 8 * u + (0) + 0 ≤ 7302249; omega⟩) (fun H locs hZ => ?_)
  refine lv_icmp_eq (tgt := 588) F.1 F.2.1 dL_law_388 (by decide) (fun _ => ?_) (fun h => absurd rfl h)
  exact kk u C X H locs hZ hM hB

set_option maxHeartbeats 4000000 in
set_option maxRecDepth 100000 in
theorem law_c9 (F : CallFix p m c code 4 s #[.ref b] wsL_law RL) (hK : zK7 w s) (hX : va_X b L xs s H0) (hbl : b < H0.size) (hbA : ¬ aL w b) (hL : L ≤ 3584) {i u : Nat} {C X : zM} (hu : u ≤ 400) (hi : i + 7 ≤ L) (hZ : Ls w H0 u C X H locs) (hM : Sim C X u) (hB : IB X) (hl : lv_has ls 4 [(0, .ref b), (1, .ref (w.2.1 + (0))), (2, .ref (w.2.1 + (64))), (3, .int (zI ((i : Int))))])
    (kk : ∀ (u1 : Nat) (C1 X1 : zM) (H : Heap) (locs : List Loc), Ls w H0 u1 C1 X1 H locs → Sim C1 X1 u1 → IB X1 → W p l e room_1 s m #[.ref b] below meth c H locs (71 + u1) (7873 + 8 * u1) Q (F0 m 588 ls [])) : W p l e room_1 s m #[.ref b] below meth c H locs (71 + u) (7873 + 8 * u) Q (F0 m 393 ls []) := by
  refine z_aload_n F dL_law_393 rfl (lv_at hl 1 rfl) ?_
  refine z_aload_n F dL_law_394 rfl (lv_at hl 0 rfl) ?_
  refine z_iload_n F dL_law_395 rfl (lv_at hl 3 rfl) ?_
  refine z_iconst F dL_law_396 ?_
  refine z_iadd F dL_law_397 ?_
  refine z_sld F hX hbl hbA hZ.1.2.2 hL (i + 1) (by omega) (by omega) dL_law_398 ?_
  refine z_aload_n F dL_law_399 rfl (lv_at hl 0 rfl) ?_
  refine z_iload_n F dL_law_400 rfl (lv_at hl 3 rfl) ?_
  refine z_iconst F dL_law_401 ?_
  refine z_iadd F dL_law_402 ?_
  refine z_sld F hX hbl hbA hZ.1.2.2 hL (i + 2) (by omega) (by omega) dL_law_403 ?_
  refine z_aload_n F dL_law_404 rfl (lv_at hl 0 rfl) ?_
  refine z_iload_n F dL_law_405 rfl (lv_at hl 3 rfl) ?_
  refine z_iconst F dL_law_406 ?_
  refine z_iadd F dL_law_407 ?_
  refine z_sld F hX hbl hbA hZ.1.2.2 hL (i + 3) (by omega) (by omega) dL_law_408 ?_
  refine l_callC hZ (va_runV (As := [.int (zI (sv xs (i + 1))), .int (zI (sv xs (i + 2))), .int (zI (sv xs (i + 3)))]) (rest := []) F (k_X7_decided l w (dC u) (aC w) (dC_A (aC_h w)) (w.2.1 + (71 + u)) C X u (fun i h => dC_s h) (fun i h => dC_l h) hM hB.1 (sv xs (i + 1)) (sv xs (i + 2)) (sv xs (i + 3)) (sv_rng xs _) (sv_rng xs _) (sv_rng xs _)) (cwV 3 F.2.2.2.2 gL_law_X7_decided rfl rfl rfl (by decide +kernel) ⟨Nat.le_of_ble_eq_true rfl, Nat.le_of_ble_eq_true rfl⟩) (z_preV hK.1 hZ.1 (0) (dC_s (by omega)) rfl (by decide) rfl _) rfl rfl hl.1 rfl (lv_room (Nat.le_of_ble_eq_true rfl)) dL_law_409 ⟨by show 71 + u + (0) ≤ 600000; omega, by show 7873 + 8 * u + (0) ≤ 7302249; omega⟩) (fun C1 H locs hC1 hZ => ?_)
  rw [hC1] at hZ
  refine z_aload_n F dL_law_412 rfl (lv_at hl 2 rfl) ?_
  refine z_aload_n F dL_law_413 rfl (lv_at hl 0 rfl) ?_
  refine z_iload_n F dL_law_414 rfl (lv_at hl 3 rfl) ?_
  refine z_iconst F dL_law_415 ?_
  refine z_iadd F dL_law_416 ?_
  refine z_sld F hX hbl hbA hZ.1.2.2 hL (i + 1) (by omega) (by omega) dL_law_417 ?_
  refine z_aload_n F dL_law_418 rfl (lv_at hl 0 rfl) ?_
  refine z_iload_n F dL_law_419 rfl (lv_at hl 3 rfl) ?_
  refine z_iconst F dL_law_420 ?_
  refine z_iadd F dL_law_421 ?_
  refine z_sld F hX hbl hbA hZ.1.2.2 hL (i + 2) (by omega) (by omega) dL_law_422 ?_
  refine z_aload_n F dL_law_423 rfl (lv_at hl 0 rfl) ?_
  refine z_iload_n F dL_law_424 rfl (lv_at hl 3 rfl) ?_
  refine z_iconst F dL_law_425 ?_
  refine z_iadd F dL_law_426 ?_
  refine z_sld F hX hbl hbA hZ.1.2.2 hL (i + 3) (by omega) (by omega) dL_law_427 ?_
  refine l_callX hZ (va_runV (As := [.int (zI (sv xs (i + 1))), .int (zI (sv xs (i + 2))), .int (zI (sv xs (i + 3)))]) (rest := [.int (zI (rDec X (sv xs (i + 1)) (sv xs (i + 2)) (sv xs (i + 3))))]) F (k_X8_decided l w dX (aX w) (aX_h w) (w.2.1 + (71 + u)) X (fun i h => h) hB.1 (sv xs (i + 1)) (sv xs (i + 2)) (sv xs (i + 3)) (sv_rng xs _) (sv_rng xs _) (sv_rng xs _)) (cwV 3 F.2.2.2.2 gL_law_X8_decided rfl rfl rfl (by decide +kernel) ⟨Nat.le_of_ble_eq_true rfl, Nat.le_of_ble_eq_true rfl⟩) (z_preV hK.1 hZ.x (64) ⟨by decide, by decide⟩ rfl (by decide) rfl _) rfl rfl hl.1 rfl (lv_room (Nat.le_of_ble_eq_true rfl)) dL_law_428 ⟨by show 71 + u + (0) + 0 ≤ 600000; omega, by show 7873 + 8 * u + (0) + 0 ≤ 7302249; omega⟩) (fun H locs hZ => ?_)
  refine lv_icmp_eq (tgt := 588) F.1 F.2.1 dL_law_431 (by decide) (fun _ => ?_) (fun h => absurd rfl h)
  exact kk u C X H locs hZ hM hB
end LC
