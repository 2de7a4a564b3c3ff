section LC
variable {p : Program} {l : Launch} {e : Env} {s : State} {m : MethodId} {below : List Frame} {meth : Method} {c : Code} {H : Heap} {locs : List Loc} {Q : State → Prop}
variable {ls : Array Slot} {b L : Nat} {xs : Nat → Int32} {w : zW} {H0 : Heap}
set_option maxHeartbeats 4000000 in
set_option maxRecDepth 100000 in
theorem law_c10 (F : CallFix p m c code 4 s #[.ref b] wsL_law RL) (hK : zK7 w s) (hX : va_X b L xs s H0) (hbl : b < H0.size) (hbA : ¬ aL w b) (hL : L ≤ 3584) {i u : Nat} {C X : zM} (hu : u ≤ 400) (hi : i + 7 ≤ L) (hZ : Ls w H0 u C X H locs) (hM : Sim C X u) (hB : IB X) (hl : lv_has ls 4 [(0, .ref b), (1, .ref (w.2.1 + (0))), (2, .ref (w.2.1 + (64))), (3, .int (zI ((i : Int))))])
    (kk : ∀ (u1 : Nat) (C1 X1 : zM) (H : Heap) (locs : List Loc), Ls w H0 u1 C1 X1 H locs → Sim C1 X1 u1 → IB X1 → W p l e room_1 s m #[.ref b] below meth c H locs (71 + u1) (7873 + 8 * u1) Q (F0 m 588 ls [])) : W p l e room_1 s m #[.ref b] below meth c H locs (71 + u) (7873 + 8 * u) Q (F0 m 436 ls []) := by
  refine z_aload_n F dL_law_436 rfl (lv_at hl 1 rfl) ?_
  refine z_aload_n F dL_law_437 rfl (lv_at hl 0 rfl) ?_
  refine z_iload_n F dL_law_438 rfl (lv_at hl 3 rfl) ?_
  refine z_iconst F dL_law_439 ?_
  refine z_iadd F dL_law_440 ?_
  refine z_sld F hX hbl hbA hZ.1.2.2 hL (i + 1) (by omega) (by omega) dL_law_441 ?_
  refine z_aload_n F dL_law_442 rfl (lv_at hl 0 rfl) ?_
  refine z_iload_n F dL_law_443 rfl (lv_at hl 3 rfl) ?_
  refine z_iconst F dL_law_444 ?_
  refine z_iadd F dL_law_445 ?_
  refine z_sld F hX hbl hbA hZ.1.2.2 hL (i + 2) (by omega) (by omega) dL_law_446 ?_
  refine l_callC hZ (va_runV (As := [.int (zI (sv xs (i + 1))), .int (zI (sv xs (i + 2)))]) (rest := []) F (k_X7_letter l w (dC u) (aC w) (dC_A (aC_h w)) (w.2.1 + (71 + u)) C X u (fun i h => dC_s h) (fun i h => dC_l h) hM hB.1 (sv xs (i + 1)) (sv xs (i + 2)) (sv_rng xs _) (sv_rng xs _)) (cwV 2 F.2.2.2.2 gL_law_X7_letter rfl rfl rfl (by decide +kernel) ⟨Nat.le_of_ble_eq_true rfl, Nat.le_of_ble_eq_true rfl⟩) (z_preV hK.1 hZ.1 (0) (dC_s (by omega)) rfl (by decide) rfl _) rfl rfl hl.1 rfl (lv_room (Nat.le_of_ble_eq_true rfl)) dL_law_447 ⟨by show 71 + u + (0) ≤ 600000; omega, by show 7873 + 8 * u + (0) ≤ 7302249; omega⟩) (fun C1 H locs hC1 hZ => ?_)
  rw [hC1] at hZ
  refine z_aload_n F dL_law_450 rfl (lv_at hl 2 rfl) ?_
  refine z_aload_n F dL_law_451 rfl (lv_at hl 0 rfl) ?_
  refine z_iload_n F dL_law_452 rfl (lv_at hl 3 rfl) ?_
  refine z_iconst F dL_law_453 ?_
  refine z_iadd F dL_law_454 ?_
  refine z_sld F hX hbl hbA hZ.1.2.2 hL (i + 1) (by omega) (by omega) dL_law_455 ?_
  refine z_aload_n F dL_law_456 rfl (lv_at hl 0 rfl) ?_
  refine z_iload_n F dL_law_457 rfl (lv_at hl 3 rfl) ?_
  refine z_iconst F dL_law_458 ?_
  refine z_iadd F dL_law_459 ?_
  refine z_sld F hX hbl hbA hZ.1.2.2 hL (i + 2) (by omega) (by omega) dL_law_460 ?_
  refine l_callX hZ (va_runV (As := [.int (zI (sv xs (i + 1))), .int (zI (sv xs (i + 2)))]) (rest := [.int (zI (rLet X (sv xs (i + 1)) (sv xs (i + 2))))]) F (k_X8_letter l w dX (aX w) (aX_h w) (w.2.1 + (71 + u)) X (fun i h => h) hB.1 (sv xs (i + 1)) (sv xs (i + 2)) (sv_rng xs _) (sv_rng xs _)) (cwV 2 F.2.2.2.2 gL_law_X8_letter rfl rfl rfl (by decide +kernel) ⟨Nat.le_of_ble_eq_true rfl, Nat.le_of_ble_eq_true rfl⟩) (z_preV hK.1 hZ.x (64) ⟨by decide, by decide⟩ rfl (by decide) rfl _) rfl rfl hl.1 rfl (lv_room (Nat.le_of_ble_eq_true rfl)) dL_law_461 ⟨by show 71 + u + (0) + 0 ≤ 600000; omega, by show 7873 + 8 * u + (0) + 0 ≤ 7302249; omega⟩) (fun H locs hZ => ?_)
  refine lv_icmp_eq (tgt := 588) F.1 F.2.1 dL_law_464 (by decide) (fun _ => ?_) (fun h => absurd rfl h)
  exact kk u C X H locs hZ hM hB

set_option maxHeartbeats 4000000 in
set_option maxRecDepth 100000 in
theorem law_c11 (F : CallFix p m c code 4 s #[.ref b] wsL_law RL) (hK : zK7 w s) (hX : va_X b L xs s H0) (hbl : b < H0.size) (hbA : ¬ aL w b) (hL : L ≤ 3584) {i u : Nat} {C X : zM} (hu : u ≤ 400) (hi : i + 7 ≤ L) (hZ : Ls w H0 u C X H locs) (hM : Sim C X u) (hB : IB X) (hl : lv_has ls 4 [(0, .ref b), (1, .ref (w.2.1 + (0))), (2, .ref (w.2.1 + (64))), (3, .int (zI ((i : Int))))])
    (kk : ∀ (u1 : Nat) (C1 X1 : zM) (H : Heap) (locs : List Loc), Ls w H0 u1 C1 X1 H locs → Sim C1 X1 u1 → IB X1 → W p l e room_1 s m #[.ref b] below meth c H locs (71 + u1) (7873 + 8 * u1) Q (F0 m 588 ls [])) : W p l e room_1 s m #[.ref b] below meth c H locs (71 + u) (7873 + 8 * u) Q (F0 m 469 ls []) := by
  refine z_aload_n F dL_law_469 rfl (lv_at hl 1 rfl) ?_
  refine z_aload_n F dL_law_470 rfl (lv_at hl 0 rfl) ?_
  refine z_iload_n F dL_law_471 rfl (lv_at hl 3 rfl) ?_
  refine z_iconst F dL_law_472 ?_
  refine z_iadd F dL_law_473 ?_
  refine z_sld F hX hbl hbA hZ.1.2.2 hL (i + 1) (by omega) (by omega) dL_law_474 ?_
  refine z_aload_n F dL_law_475 rfl (lv_at hl 0 rfl) ?_
  refine z_iload_n F dL_law_476 rfl (lv_at hl 3 rfl) ?_
  refine z_iconst F dL_law_477 ?_
  refine z_iadd F dL_law_478 ?_
  refine z_sld F hX hbl hbA hZ.1.2.2 hL (i + 2) (by omega) (by omega) dL_law_479 ?_
  refine z_aload_n F dL_law_480 rfl (lv_at hl 0 rfl) ?_
  refine z_iload_n F dL_law_481 rfl (lv_at hl 3 rfl) ?_
  refine z_iconst F dL_law_482 ?_
  refine z_iadd F dL_law_483 ?_
  refine z_sld F hX hbl hbA hZ.1.2.2 hL (i + 3) (by omega) (by omega) dL_law_484 ?_
  refine z_aload_n F dL_law_485 rfl (lv_at hl 0 rfl) ?_
  refine z_iload_n F dL_law_486 rfl (lv_at hl 3 rfl) ?_
  refine z_iconst F dL_law_487 ?_
  refine z_iadd F dL_law_488 ?_
  refine z_sld F hX hbl hbA hZ.1.2.2 hL (i + 4) (by omega) (by omega) dL_law_489 ?_
  refine z_aload_n F dL_law_490 rfl (lv_at hl 0 rfl) ?_
  refine z_iload_n F dL_law_491 rfl (lv_at hl 3 rfl) ?_
  refine z_iconst F dL_law_492 ?_
  refine z_iadd F dL_law_493 ?_
  refine z_sld F hX hbl hbA hZ.1.2.2 hL (i + 5) (by omega) (by omega) dL_law_494 ?_
  refine l_callC hZ (va_runV (As := [.int (zI (sv xs (i + 1))), .int (zI (sv xs (i + 2))), .int (zI (sv xs (i + 3))), .int (zI (sv xs (i + 4))), .int (zI (sv xs (i + 5)))]) (rest := []) F (k_X7_votes l w (dC u) (aC w) (dC_A (aC_h w)) (w.2.1 + (71 + u)) C X u (fun i h => dC_s h) (fun i h => dC_l h) hM hB.1 (sv xs (i + 1)) (sv xs (i + 2)) (sv xs (i + 3)) (sv xs (i + 4)) (sv xs (i + 5)) (sv_rng xs _) (sv_rng xs _) (sv_rng xs _) (sv_rng xs _) (sv_rng xs _)) (cwV 5 F.2.2.2.2 gL_law_X7_votes rfl rfl rfl (by decide +kernel) ⟨Nat.le_of_ble_eq_true rfl, Nat.le_of_ble_eq_true rfl⟩) (z_preV hK.1 hZ.1 (0) (dC_s (by omega)) rfl (by decide) rfl _) rfl rfl hl.1 rfl (lv_room (Nat.le_of_ble_eq_true rfl)) dL_law_495 ⟨by show 71 + u + (0) ≤ 600000; omega, by show 7873 + 8 * u + (0) ≤ 7302249; omega⟩) (fun C1 H locs hC1 hZ => ?_)
  rw [hC1] at hZ
  refine z_aload_n F dL_law_498 rfl (lv_at hl 2 rfl) ?_
  refine z_aload_n F dL_law_499 rfl (lv_at hl 0 rfl) ?_
  refine z_iload_n F dL_law_500 rfl (lv_at hl 3 rfl) ?_
  refine z_iconst F dL_law_501 ?_
  refine z_iadd F dL_law_502 ?_
  refine z_sld F hX hbl hbA hZ.1.2.2 hL (i + 1) (by omega) (by omega) dL_law_503 ?_
  refine z_aload_n F dL_law_504 rfl (lv_at hl 0 rfl) ?_
  refine z_iload_n F dL_law_505 rfl (lv_at hl 3 rfl) ?_
  refine z_iconst F dL_law_506 ?_
  refine z_iadd F dL_law_507 ?_
  refine z_sld F hX hbl hbA hZ.1.2.2 hL (i + 2) (by omega) (by omega) dL_law_508 ?_
  refine z_aload_n F dL_law_509 rfl (lv_at hl 0 rfl) ?_
  refine z_iload_n F dL_law_510 rfl (lv_at hl 3 rfl) ?_
  refine z_iconst F dL_law_511 ?_
  refine z_iadd F dL_law_512 ?_
  refine z_sld F hX hbl hbA hZ.1.2.2 hL (i + 3) (by omega) (by omega) dL_law_513 ?_
  refine z_aload_n F dL_law_514 rfl (lv_at hl 0 rfl) ?_
  refine z_iload_n F dL_law_515 rfl (lv_at hl 3 rfl) ?_
  refine z_iconst F dL_law_516 ?_
  refine z_iadd F dL_law_517 ?_
  refine z_sld F hX hbl hbA hZ.1.2.2 hL (i + 4) (by omega) (by omega) dL_law_518 ?_
  refine z_aload_n F dL_law_519 rfl (lv_at hl 0 rfl) ?_
  refine z_iload_n F dL_law_520 rfl (lv_at hl 3 rfl) ?_
  refine z_iconst F dL_law_521 ?_
  refine z_iadd F dL_law_522 ?_
  refine z_sld F hX hbl hbA hZ.1.2.2 hL (i + 5) (by omega) (by omega) dL_law_523 ?_
  refine l_callX hZ (va_runV (As := [.int (zI (sv xs (i + 1))), .int (zI (sv xs (i + 2))), .int (zI (sv xs (i + 3))), .int (zI (sv xs (i + 4))), .int (zI (sv xs (i + 5)))]) (rest := [.int (zI (rVotes X (sv xs (i + 1)) (sv xs (i + 2)) (sv xs (i + 3)) (sv xs (i + 4)) (sv xs (i + 5))))]) F (k_X8_votes l w dX (aX w) (aX_h w) (w.2.1 + (71 + u)) X (fun i h => h) hB.1 (sv xs (i + 1)) (sv xs (i + 2)) (sv xs (i + 3)) (sv xs (i + 4)) (sv xs (i + 5)) (sv_rng xs _) (sv_rng xs _) (sv_rng xs _) (sv_rng xs _) (sv_rng xs _)) (cwV 5 F.2.2.2.2 gL_law_X8_votes rfl rfl rfl (by decide +kernel) ⟨Nat.le_of_ble_eq_true rfl, Nat.le_of_ble_eq_true rfl⟩) (z_preV hK.1 hZ.x (64) ⟨by decide, by decide⟩ rfl (by decide) rfl _) rfl rfl hl.1 rfl (lv_room (Nat.le_of_ble_eq_true rfl)) dL_law_524 ⟨by show 71 + u + (0) + 0 ≤ 600000; omega, by show 7873 + 8 * u + (0) + 0 ≤ 7302249; omega⟩) (fun H locs hZ => ?_)
  refine lv_icmp_eq (tgt := 588) F.1 F.2.1 dL_law_527 (by decide) (fun _ => ?_) (fun h => absurd rfl h)
  exact kk u C X H locs hZ hM hB

set_option maxHeartbeats 4000000 in
set_option maxRecDepth 100000 in
theorem law_c12 (F : CallFix p m c code 4 s #[.ref b] wsL_law RL) (hK : zK7 w s) (hX : va_X b L xs s H0) (hbl : b < H0.size) (hbA : ¬ aL w b) (hL : L ≤ 3584) {i u : Nat} {C X : zM} (hu : u ≤ 400) (hi : i + 7 ≤ L) (hZ : Ls w H0 u C X H locs) (hM : Sim C X u) (hB : IB X) (hl : lv_has ls 4 [(0, .ref b), (1, .ref (w.2.1 + (0))), (2, .ref (w.2.1 + (64))), (3, .int (zI ((i : Int))))])
    (kk : ∀ (u1 : Nat) (C1 X1 : zM) (H : Heap) (locs : List Loc), Ls w H0 u1 C1 X1 H locs → Sim C1 X1 u1 → IB X1 → W p l e room_1 s m #[.ref b] below meth c H locs (71 + u1) (7873 + 8 * u1) Q (F0 m 588 ls [])) : W p l e room_1 s m #[.ref b] below meth c H locs (71 + u) (7873 + 8 * u) Q (F0 m 532 ls []) := by
  refine z_aload_n F dL_law_532 rfl (lv_at hl 1 rfl) ?_
  refine z_aload_n F dL_law_533 rfl (lv_at hl 0 rfl) ?_
  refine z_iload_n F dL_law_534 rfl (lv_at hl 3 rfl) ?_
  refine z_iconst F dL_law_535 ?_
  refine z_iadd F dL_law_536 ?_
  refine z_sld F hX hbl hbA hZ.1.2.2 hL (i + 1) (by omega) (by omega) dL_law_537 ?_
  refine z_aload_n F dL_law_538 rfl (lv_at hl 0 rfl) ?_
  refine z_iload_n F dL_law_539 rfl (lv_at hl 3 rfl) ?_
  refine z_iconst F dL_law_540 ?_
  refine z_iadd F dL_law_541 ?_
  refine z_sld F hX hbl hbA hZ.1.2.2 hL (i + 2) (by omega) (by omega) dL_law_542 ?_
  refine l_callC hZ (va_runV (As := [.int (zI (sv xs (i + 1))), .int (zI (sv xs (i + 2)))]) (rest := []) F (k_X7_shown l w (dC u) (aC w) (dC_A (aC_h w)) (w.2.1 + (71 + u)) C X u (fun i h => dC_s h) (fun i h => dC_l h) hM hB.1 (sv xs (i + 1)) (sv xs (i + 2)) (sv_rng xs _) (sv_rng xs _)) (cwV 2 F.2.2.2.2 gL_law_X7_shown rfl rfl rfl (by decide +kernel) ⟨Nat.le_of_ble_eq_true rfl, Nat.le_of_ble_eq_true rfl⟩) (z_preV hK.1 hZ.1 (0) (dC_s (by omega)) rfl (by decide) rfl _) rfl rfl hl.1 rfl (lv_room (Nat.le_of_ble_eq_true rfl)) dL_law_543 ⟨by show 71 + u + (0) ≤ 600000; omega, by show 7873 + 8 * u + (0) ≤ 7302249; omega⟩) (fun C1 H locs hC1 hZ => ?_)
  rw [hC1] at hZ
  refine z_aload_n F dL_law_546 rfl (lv_at hl 2 rfl) ?_
  refine z_aload_n F dL_law_547 rfl (lv_at hl 0 rfl) ?_
  refine z_iload_n F dL_law_548 rfl (lv_at hl 3 rfl) ?_
  refine z_iconst F dL_law_549 ?_
  refine z_iadd F dL_law_550 ?_
  refine z_sld F hX hbl hbA hZ.1.2.2 hL (i + 1) (by omega) (by omega) dL_law_551 ?_
  refine z_aload_n F dL_law_552 rfl (lv_at hl 0 rfl) ?_
  refine z_iload_n F dL_law_553 rfl (lv_at hl 3 rfl) ?_
  refine z_iconst F dL_law_554 ?_
  refine z_iadd F dL_law_555 ?_
  refine z_sld F hX hbl hbA hZ.1.2.2 hL (i + 2) (by omega) (by omega) dL_law_556 ?_
  refine l_callX hZ (va_runV (As := [.int (zI (sv xs (i + 1))), .int (zI (sv xs (i + 2)))]) (rest := [.int (zI (rShown X (sv xs (i + 1)) (sv xs (i + 2))))]) F (k_X8_shown l w dX (aX w) (aX_h w) (w.2.1 + (71 + u)) X (fun i h => h) hB.1 (sv xs (i + 1)) (sv xs (i + 2)) (sv_rng xs _) (sv_rng xs _)) (cwV 2 F.2.2.2.2 gL_law_X8_shown rfl rfl rfl (by decide +kernel) ⟨Nat.le_of_ble_eq_true rfl, Nat.le_of_ble_eq_true rfl⟩) (z_preV hK.1 hZ.x (64) ⟨by decide, by decide⟩ rfl (by decide) rfl _) rfl rfl hl.1 rfl (lv_room (Nat.le_of_ble_eq_true rfl)) dL_law_557 ⟨by show 71 + u + (0) + 0 ≤ 600000; omega, by show 7873 + 8 * u + (0) + 0 ≤ 7302249; omega⟩) (fun H locs hZ => ?_)
  refine lv_icmp_eq (tgt := 588) F.1 F.2.1 dL_law_560 (by decide) (fun _ => ?_) (fun h => absurd rfl h)
  exact kk u C X H locs hZ hM hB

set_option maxHeartbeats 4000000 in
set_option maxRecDepth 100000 in
theorem law_c13 (F : CallFix p m c code 4 s #[.ref b] wsL_law RL) (hK : zK7 w s) (hX : va_X b L xs s H0) (hbl : b < H0.size) (hbA : ¬ aL w b) (hL : L ≤ 3584) {i u : Nat} {C X : zM} (hu : u ≤ 400) (hi : i + 7 ≤ L) (hZ : Ls w H0 u C X H locs) (hM : Sim C X u) (hB : IB X) (hl : lv_has ls 4 [(0, .ref b), (1, .ref (w.2.1 + (0))), (2, .ref (w.2.1 + (64))), (3, .int (zI ((i : Int))))])
    (kk : ∀ (u1 : Nat) (C1 X1 : zM) (H : Heap) (locs : List Loc), Ls w H0 u1 C1 X1 H locs → Sim C1 X1 u1 → IB X1 → W p l e room_1 s m #[.ref b] below meth c H locs (71 + u1) (7873 + 8 * u1) Q (F0 m 588 ls [])) : W p l e room_1 s m #[.ref b] below meth c H locs (71 + u) (7873 + 8 * u) Q (F0 m 565 ls []) := by
  refine z_aload_n F dL_law_565 rfl (lv_at hl 1 rfl) ?_
  refine z_aload_n F dL_law_566 rfl (lv_at hl 0 rfl) ?_
  refine z_iload_n F dL_law_567 rfl (lv_at hl 3 rfl) ?_
  refine z_iconst F dL_law_568 ?_
  refine z_iadd F dL_law_569 ?_
  refine z_sld F hX hbl hbA hZ.1.2.2 hL (i + 1) (by omega) (by omega) dL_law_570 ?_
  refine l_callC hZ (va_runV (As := [.int (zI (sv xs (i + 1)))]) (rest := []) F (k_X7_count l w (dC u) (aC w) (dC_A (aC_h w)) (w.2.1 + (71 + u)) C X u (fun i h => dC_s h) (fun i h => dC_l h) hM hB.1 (sv xs (i + 1)) (sv_rng xs _)) (cwV 1 F.2.2.2.2 gL_law_X7_count rfl rfl rfl (by decide +kernel) ⟨Nat.le_of_ble_eq_true rfl, Nat.le_of_ble_eq_true rfl⟩) (z_preV hK.1 hZ.1 (0) (dC_s (by omega)) rfl (by decide) rfl _) rfl rfl hl.1 rfl (lv_room (Nat.le_of_ble_eq_true rfl)) dL_law_571 ⟨by show 71 + u + (0) ≤ 600000; omega, by show 7873 + 8 * u + (0) ≤ 7302249; omega⟩) (fun C1 H locs hC1 hZ => ?_)
  rw [hC1] at hZ
  refine z_aload_n F dL_law_574 rfl (lv_at hl 2 rfl) ?_
  refine z_aload_n F dL_law_575 rfl (lv_at hl 0 rfl) ?_
  refine z_iload_n F dL_law_576 rfl (lv_at hl 3 rfl) ?_
  refine z_iconst F dL_law_577 ?_
  refine z_iadd F dL_law_578 ?_
  refine z_sld F hX hbl hbA hZ.1.2.2 hL (i + 1) (by omega) (by omega) dL_law_579 ?_
  refine l_callX hZ (va_runV (As := [.int (zI (sv xs (i + 1)))]) (rest := [.int (zI (rCount X (sv xs (i + 1))))]) F (k_X8_count l w dX (aX w) (aX_h w) (w.2.1 + (71 + u)) X (fun i h => h) hB.1 (sv xs (i + 1)) (sv_rng xs _)) (cwV 1 F.2.2.2.2 gL_law_X8_count rfl rfl rfl (by decide +kernel) ⟨Nat.le_of_ble_eq_true rfl, Nat.le_of_ble_eq_true rfl⟩) (z_preV hK.1 hZ.x (64) ⟨by decide, by decide⟩ rfl (by decide) rfl _) rfl rfl hl.1 rfl (lv_room (Nat.le_of_ble_eq_true rfl)) dL_law_580 ⟨by show 71 + u + (0) + 0 ≤ 600000; omega, by show 7873 + 8 * u + (0) + 0 ≤ 7302249; omega⟩) (fun H locs hZ => ?_)
  refine lv_icmp_eq (tgt := 588) F.1 F.2.1 dL_law_583 (by decide) (fun _ => ?_) (fun h => absurd rfl h)
  exact kk u C X H locs hZ hM hB
end LC
