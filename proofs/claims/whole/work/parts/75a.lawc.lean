section LC
variable {p : Program} {l : Launch} {e : Env} {s : State} {m : MethodId} {below : List Frame} {meth : Method} {c : Code} {H : Heap} {locs : List Loc} {Q : State → Prop}
variable {ls : Array Slot} {b L : Nat} {xs : Nat → Int32} {w : zW} {H0 : Heap}
set_option maxHeartbeats 4000000 in
set_option maxRecDepth 100000 in
theorem law_c0 (F : CallFix p m c code 4 s #[.ref b] wsL_law RL) (hK : zK7 w s) (hX : va_X b L xs s H0) (hbl : b < H0.size) (hbA : ¬ aL w b) (hL : L ≤ 3584) {i u : Nat} {C X : zM} (hu : u ≤ 400) (hi : i + 7 ≤ L) (hZ : Ls w H0 u C X H locs) (hM : Sim C X u) (hB : IB X) (hl : lv_has ls 4 [(0, .ref b), (1, .ref (w.2.1 + (0))), (2, .ref (w.2.1 + (64))), (3, .int (zI ((i : Int))))])
    (kk : ∀ (u1 : Nat) (C1 X1 : zM) (H : Heap) (locs : List Loc), Ls w H0 u1 C1 X1 H locs → Sim C1 X1 u1 → IB X1 → W p l e room_1 s m #[.ref b] below meth c H locs (71 + u1) (7873 + 8 * u1) Q (F0 m 588 ls [])) : W p l e room_1 s m #[.ref b] below meth c H locs (71 + u) (7873 + 8 * u) Q (F0 m 104 ls []) := by
  refine z_aload_n F dL_law_104 rfl (lv_at hl 1 rfl) ?_
  refine z_aload_n F dL_law_105 rfl (lv_at hl 0 rfl) ?_
  refine z_iload_n F dL_law_106 rfl (lv_at hl 3 rfl) ?_
  refine z_iconst F dL_law_107 ?_
  refine z_iadd F dL_law_108 ?_
  refine z_sld F hX hbl hbA hZ.1.2.2 hL (i + 1) (by omega) (by omega) dL_law_109 ?_
  refine l_callC hZ (va_runV (As := [.int (zI (sv xs (i + 1)))]) (rest := []) F (k_X7_seats l w (dC u) (aC w) (dC_A (aC_h w)) (w.2.1 + (71 + u)) C X u (fun i h => dC_s h) (fun i h => dC_l h) hM hB.1  (sv xs (i + 1)) (sv_rng xs _)) (cwV 1 F.2.2.2.2 gL_law_X7_seats rfl rfl rfl (by decide +kernel) ⟨Nat.le_of_ble_eq_true rfl, Nat.le_of_ble_eq_true rfl⟩) (z_preV hK.1 hZ.1 (0) (dC_s (by omega)) rfl (by decide) rfl _) rfl rfl hl.1 rfl (lv_room (Nat.le_of_ble_eq_true rfl)) dL_law_110 ⟨by show 71 + u + (0) ≤ 600000; omega, by show 7873 + 8 * u + (0) ≤ 7302249; omega⟩) (fun C1 H locs hC1 hZ => ?_)
  refine z_aload_n F dL_law_113 rfl (lv_at hl 2 rfl) ?_
  refine z_aload_n F dL_law_114 rfl (lv_at hl 0 rfl) ?_
  refine z_iload_n F dL_law_115 rfl (lv_at hl 3 rfl) ?_
  refine z_iconst F dL_law_116 ?_
  refine z_iadd F dL_law_117 ?_
  refine z_sld F hX hbl hbA hZ.1.2.2 hL (i + 1) (by omega) (by omega) dL_law_118 ?_
  refine l_callX hZ (va_runV (As := [.int (zI (sv xs (i + 1)))]) (rest := [.int (zI (rSeats X (sv xs (i + 1))))]) F (k_X8_seats l w dX (aX w) (aX_h w) (w.2.1 + (71 + u)) X (fun i h => h) hB.1 (sv xs (i + 1)) (sv_rng xs _)) (cwV 1 F.2.2.2.2 gL_law_X8_seats rfl rfl rfl (by decide +kernel) ⟨Nat.le_of_ble_eq_true rfl, Nat.le_of_ble_eq_true rfl⟩) (z_preV hK.1 hZ.x (64) ⟨by decide, by decide⟩ rfl (by decide) rfl _) rfl rfl hl.1 rfl (lv_room (Nat.le_of_ble_eq_true rfl)) dL_law_119 ⟨by show 71 + u + (0) + 0 ≤ 600000; omega, by show 7873 + 8 * u + (0) + 0 ≤ 7302249; omega⟩) (fun H locs hZ => ?_)
  refine lv_icmp_eq (tgt := 588) F.1 F.2.1 dL_law_122 (by decide) (fun _ => ?_) (fun h => absurd rfl h)
  exact kk u C1 (mSeats X (sv xs (i + 1))) H locs hZ hC1 (IB_seats hB (sv xs (i + 1)))

set_option maxHeartbeats 4000000 in
set_option maxRecDepth 100000 in
theorem law_c1 (F : CallFix p m c code 4 s #[.ref b] wsL_law RL) (hK : zK7 w s) (hX : va_X b L xs s H0) (hbl : b < H0.size) (hbA : ¬ aL w b) (hL : L ≤ 3584) {i u : Nat} {C X : zM} (hu : u ≤ 400) (hi : i + 7 ≤ L) (hZ : Ls w H0 u C X H locs) (hM : Sim C X u) (hB : IB X) (hl : lv_has ls 4 [(0, .ref b), (1, .ref (w.2.1 + (0))), (2, .ref (w.2.1 + (64))), (3, .int (zI ((i : Int))))])
    (kk : ∀ (u1 : Nat) (C1 X1 : zM) (H : Heap) (locs : List Loc), Ls w H0 u1 C1 X1 H locs → Sim C1 X1 u1 → IB X1 → W p l e room_1 s m #[.ref b] below meth c H locs (71 + u1) (7873 + 8 * u1) Q (F0 m 588 ls [])) : W p l e room_1 s m #[.ref b] below meth c H locs (71 + u) (7873 + 8 * u) Q (F0 m 127 ls []) := by
  refine z_aload_n F dL_law_127 rfl (lv_at hl 1 rfl) ?_
  refine z_aload_n F dL_law_128 rfl (lv_at hl 0 rfl) ?_
  refine z_iload_n F dL_law_129 rfl (lv_at hl 3 rfl) ?_
  refine z_iconst F dL_law_130 ?_
  refine z_iadd F dL_law_131 ?_
  refine z_sld F hX hbl hbA hZ.1.2.2 hL (i + 1) (by omega) (by omega) dL_law_132 ?_
  refine l_callC hZ (va_runV (As := [.int (zI (sv xs (i + 1)))]) (rest := []) F (k_X7_falseSeat l w (dC u) (aC w) (dC_A (aC_h w)) (w.2.1 + (71 + u)) C X u (fun i h => dC_s h) (fun i h => dC_l h) hM hB.1 hB.2 (sv xs (i + 1)) (sv_rng xs _)) (cwV 1 F.2.2.2.2 gL_law_X7_falseSeat rfl rfl rfl (by decide +kernel) ⟨Nat.le_of_ble_eq_true rfl, Nat.le_of_ble_eq_true rfl⟩) (z_preV hK.1 hZ.1 (0) (dC_s (by omega)) rfl (by decide) rfl _) rfl rfl hl.1 rfl (lv_room (Nat.le_of_ble_eq_true rfl)) dL_law_133 ⟨by show 71 + u + (0) ≤ 600000; omega, by show 7873 + 8 * u + (0) ≤ 7302249; omega⟩) (fun C1 H locs hC1 hZ => ?_)
  refine z_aload_n F dL_law_136 rfl (lv_at hl 2 rfl) ?_
  refine z_aload_n F dL_law_137 rfl (lv_at hl 0 rfl) ?_
  refine z_iload_n F dL_law_138 rfl (lv_at hl 3 rfl) ?_
  refine z_iconst F dL_law_139 ?_
  refine z_iadd F dL_law_140 ?_
  refine z_sld F hX hbl hbA hZ.1.2.2 hL (i + 1) (by omega) (by omega) dL_law_141 ?_
  refine l_callX hZ (va_runV (As := [.int (zI (sv xs (i + 1)))]) (rest := [.int (zI (rFalse X (sv xs (i + 1))))]) F (k_X8_falseSeat l w dX (aX w) (aX_h w) (w.2.1 + (71 + u)) X (fun i h => h) hB.1 (sv xs (i + 1)) (sv_rng xs _)) (cwV 1 F.2.2.2.2 gL_law_X8_falseSeat rfl rfl rfl (by decide +kernel) ⟨Nat.le_of_ble_eq_true rfl, Nat.le_of_ble_eq_true rfl⟩) (z_preV hK.1 hZ.x (64) ⟨by decide, by decide⟩ rfl (by decide) rfl _) rfl rfl hl.1 rfl (lv_room (Nat.le_of_ble_eq_true rfl)) dL_law_142 ⟨by show 71 + u + (0) + 0 ≤ 600000; omega, by show 7873 + 8 * u + (0) + 0 ≤ 7302249; omega⟩) (fun H locs hZ => ?_)
  refine lv_icmp_eq (tgt := 588) F.1 F.2.1 dL_law_145 (by decide) (fun _ => ?_) (fun h => absurd rfl h)
  exact kk u C1 (mFalse X (sv xs (i + 1))) H locs hZ hC1 (IB_false hB (sv xs (i + 1)))

set_option maxHeartbeats 4000000 in
set_option maxRecDepth 100000 in
theorem law_c2 (F : CallFix p m c code 4 s #[.ref b] wsL_law RL) (hK : zK7 w s) (hX : va_X b L xs s H0) (hbl : b < H0.size) (hbA : ¬ aL w b) (hL : L ≤ 3584) {i u : Nat} {C X : zM} (hu : u ≤ 400) (hi : i + 7 ≤ L) (hZ : Ls w H0 u C X H locs) (hM : Sim C X u) (hB : IB X) (hl : lv_has ls 4 [(0, .ref b), (1, .ref (w.2.1 + (0))), (2, .ref (w.2.1 + (64))), (3, .int (zI ((i : Int))))])
    (kk : ∀ (u1 : Nat) (C1 X1 : zM) (H : Heap) (locs : List Loc), Ls w H0 u1 C1 X1 H locs → Sim C1 X1 u1 → IB X1 → W p l e room_1 s m #[.ref b] below meth c H locs (71 + u1) (7873 + 8 * u1) Q (F0 m 588 ls [])) : W p l e room_1 s m #[.ref b] below meth c H locs (71 + u) (7873 + 8 * u) Q (F0 m 150 ls []) := by
  refine z_aload_n F dL_law_150 rfl (lv_at hl 1 rfl) ?_
  refine z_aload_n F dL_law_151 rfl (lv_at hl 0 rfl) ?_
  refine z_iload_n F dL_law_152 rfl (lv_at hl 3 rfl) ?_
  refine z_iconst F dL_law_153 ?_
  refine z_iadd F dL_law_154 ?_
  refine z_sld F hX hbl hbA hZ.1.2.2 hL (i + 1) (by omega) (by omega) dL_law_155 ?_
  refine z_aload_n F dL_law_156 rfl (lv_at hl 0 rfl) ?_
  refine z_iload_n F dL_law_157 rfl (lv_at hl 3 rfl) ?_
  refine z_iconst F dL_law_158 ?_
  refine z_iadd F dL_law_159 ?_
  refine z_sld F hX hbl hbA hZ.1.2.2 hL (i + 2) (by omega) (by omega) dL_law_160 ?_
  refine l_callC hZ (va_runV (As := [.int (zI (sv xs (i + 1))), .int (zI (sv xs (i + 2)))]) (rest := []) F (k_X7_hold l w (dC u) (aC w) (dC_A (aC_h w)) (w.2.1 + (71 + u)) C X u (fun i h => dC_s h) (fun i h => dC_l h) hM hB.1  (sv xs (i + 1)) (sv xs (i + 2)) (sv_rng xs _) (sv_rng xs _)) (cwV 2 F.2.2.2.2 gL_law_X7_hold rfl rfl rfl (by decide +kernel) ⟨Nat.le_of_ble_eq_true rfl, Nat.le_of_ble_eq_true rfl⟩) (z_preV hK.1 hZ.1 (0) (dC_s (by omega)) rfl (by decide) rfl _) rfl rfl hl.1 rfl (lv_room (Nat.le_of_ble_eq_true rfl)) dL_law_161 ⟨by show 71 + u + (0) ≤ 600000; omega, by show 7873 + 8 * u + (0) ≤ 7302249; omega⟩) (fun C1 H locs hC1 hZ => ?_)
  refine z_aload_n F dL_law_164 rfl (lv_at hl 2 rfl) ?_
  refine z_aload_n F dL_law_165 rfl (lv_at hl 0 rfl) ?_
  refine z_iload_n F dL_law_166 rfl (lv_at hl 3 rfl) ?_
  refine z_iconst F dL_law_167 ?_
  refine z_iadd F dL_law_168 ?_
  refine z_sld F hX hbl hbA hZ.1.2.2 hL (i + 1) (by omega) (by omega) dL_law_169 ?_
  refine z_aload_n F dL_law_170 rfl (lv_at hl 0 rfl) ?_
  refine z_iload_n F dL_law_171 rfl (lv_at hl 3 rfl) ?_
  refine z_iconst F dL_law_172 ?_
  refine z_iadd F dL_law_173 ?_
  refine z_sld F hX hbl hbA hZ.1.2.2 hL (i + 2) (by omega) (by omega) dL_law_174 ?_
  refine l_callX hZ (va_runV (As := [.int (zI (sv xs (i + 1))), .int (zI (sv xs (i + 2)))]) (rest := [.int (zI (rHold X (sv xs (i + 1)) (sv xs (i + 2))))]) F (k_X8_hold l w dX (aX w) (aX_h w) (w.2.1 + (71 + u)) X (fun i h => h) hB.1 (sv xs (i + 1)) (sv xs (i + 2)) (sv_rng xs _) (sv_rng xs _)) (cwV 2 F.2.2.2.2 gL_law_X8_hold rfl rfl rfl (by decide +kernel) ⟨Nat.le_of_ble_eq_true rfl, Nat.le_of_ble_eq_true rfl⟩) (z_preV hK.1 hZ.x (64) ⟨by decide, by decide⟩ rfl (by decide) rfl _) rfl rfl hl.1 rfl (lv_room (Nat.le_of_ble_eq_true rfl)) dL_law_175 ⟨by show 71 + u + (0) + 0 ≤ 600000; omega, by show 7873 + 8 * u + (0) + 0 ≤ 7302249; omega⟩) (fun H locs hZ => ?_)
  refine lv_icmp_eq (tgt := 588) F.1 F.2.1 dL_law_178 (by decide) (fun _ => ?_) (fun h => absurd rfl h)
  exact kk u C1 (mHold X (sv xs (i + 1)) (sv xs (i + 2))) H locs hZ hC1 (IB_hold hB (sv xs (i + 1)) (sv xs (i + 2)))

set_option maxHeartbeats 4000000 in
set_option maxRecDepth 100000 in
theorem law_c3 (F : CallFix p m c code 4 s #[.ref b] wsL_law RL) (hK : zK7 w s) (hX : va_X b L xs s H0) (hbl : b < H0.size) (hbA : ¬ aL w b) (hL : L ≤ 3584) {i u : Nat} {C X : zM} (hu : u ≤ 400) (hi : i + 7 ≤ L) (hZ : Ls w H0 u C X H locs) (hM : Sim C X u) (hB : IB X) (hl : lv_has ls 4 [(0, .ref b), (1, .ref (w.2.1 + (0))), (2, .ref (w.2.1 + (64))), (3, .int (zI ((i : Int))))])
    (kk : ∀ (u1 : Nat) (C1 X1 : zM) (H : Heap) (locs : List Loc), Ls w H0 u1 C1 X1 H locs → Sim C1 X1 u1 → IB X1 → W p l e room_1 s m #[.ref b] below meth c H locs (71 + u1) (7873 + 8 * u1) Q (F0 m 588 ls [])) : W p l e room_1 s m #[.ref b] below meth c H locs (71 + u) (7873 + 8 * u) Q (F0 m 183 ls []) := by
  refine z_aload_n F dL_law_183 rfl (lv_at hl 1 rfl) ?_
  have hB2 : IB (mBegin X) := IB_begin hB
  have hu4 : mU u (mBegin X) ≤ 400 := mU_400 hu hB2.1
  have huu : u ≤ mU u (mBegin X) := mU_ge _ _
  refine l_callC hZ (va_runV (As := []) (rest := []) F (k_X7_begin l w (aC w) (aC_h w) u C X hM hB.1 hB.2  ) (cwV 0 F.2.2.2.2 gL_law_X7_begin rfl rfl rfl (by decide +kernel) ⟨Nat.le_of_ble_eq_true rfl, Nat.le_of_ble_eq_true rfl⟩) (z_preV hK.1 hZ.1 (0) (dC_s (by omega)) rfl (by decide) rfl _) rfl rfl hl.1 rfl (lv_room (Nat.le_of_ble_eq_true rfl)) dL_law_184 ⟨by show 71 + u + (mU u (mBegin X) - u) ≤ 600000; omega, by show 7873 + 8 * u + (8 * (mU u (mBegin X) - u)) ≤ 7302249; omega⟩) (fun C1 H locs hC1 hZ => ?_)
  refine z_aload_n F dL_law_187 rfl (lv_at hl 2 rfl) ?_
  refine l_callX hZ (va_runV (As := []) (rest := [.int (zI (rBegin X))]) F (k_X8_begin l w dX (aX w) (aX_h w) (w.2.1 + (71 + (mU u (mBegin X)))) X (fun i h => h) hB.1 hB.2  ) (cwV 0 F.2.2.2.2 gL_law_X8_begin rfl rfl rfl (by decide +kernel) ⟨Nat.le_of_ble_eq_true rfl, Nat.le_of_ble_eq_true rfl⟩) (z_preV hK.1 hZ.x (64) ⟨by decide, by decide⟩ rfl (by decide) rfl _) rfl rfl hl.1 rfl (lv_room (Nat.le_of_ble_eq_true rfl)) dL_law_188 ⟨by show 71 + u + (mU u (mBegin X) - u) + 0 ≤ 600000; omega, by show 7873 + 8 * u + (8 * (mU u (mBegin X) - u)) + 0 ≤ 7302249; omega⟩) (fun H locs hZ => ?_)
  refine lv_icmp_eq (tgt := 588) F.1 F.2.1 dL_law_191 (by decide) (fun _ => ?_) (fun h => absurd rfl h)
  refine W.widen (show 71 + u + (mU u (mBegin X) - u) + 0 ≤ 71 + mU u (mBegin X) by omega) (show 7873 + 8 * u + (8 * (mU u (mBegin X) - u)) + 0 ≤ 7873 + 8 * mU u (mBegin X) by omega) ?_
  exact kk _ C1 (mBegin X) H locs hZ hC1 hB2

set_option maxHeartbeats 4000000 in
set_option maxRecDepth 100000 in
theorem law_c4 (F : CallFix p m c code 4 s #[.ref b] wsL_law RL) (hK : zK7 w s) (hX : va_X b L xs s H0) (hbl : b < H0.size) (hbA : ¬ aL w b) (hL : L ≤ 3584) {i u : Nat} {C X : zM} (hu : u ≤ 400) (hi : i + 7 ≤ L) (hZ : Ls w H0 u C X H locs) (hM : Sim C X u) (hB : IB X) (hl : lv_has ls 4 [(0, .ref b), (1, .ref (w.2.1 + (0))), (2, .ref (w.2.1 + (64))), (3, .int (zI ((i : Int))))])
    (kk : ∀ (u1 : Nat) (C1 X1 : zM) (H : Heap) (locs : List Loc), Ls w H0 u1 C1 X1 H locs → Sim C1 X1 u1 → IB X1 → W p l e room_1 s m #[.ref b] below meth c H locs (71 + u1) (7873 + 8 * u1) Q (F0 m 588 ls [])) : W p l e room_1 s m #[.ref b] below meth c H locs (71 + u) (7873 + 8 * u) Q (F0 m 196 ls []) := by
  refine z_aload_n F dL_law_196 rfl (lv_at hl 1 rfl) ?_
  refine z_aload_n F dL_law_197 rfl (lv_at hl 0 rfl) ?_
  refine z_iload_n F dL_law_198 rfl (lv_at hl 3 rfl) ?_
  refine z_iconst F dL_law_199 ?_
  refine z_iadd F dL_law_200 ?_
  refine z_sld F hX hbl hbA hZ.1.2.2 hL (i + 1) (by omega) (by omega) dL_law_201 ?_
  refine z_aload_n F dL_law_202 rfl (lv_at hl 0 rfl) ?_
  refine z_iload_n F dL_law_203 rfl (lv_at hl 3 rfl) ?_
  refine z_iconst F dL_law_204 ?_
  refine z_iadd F dL_law_205 ?_
  refine z_sld F hX hbl hbA hZ.1.2.2 hL (i + 2) (by omega) (by omega) dL_law_206 ?_
  refine z_aload_n F dL_law_207 rfl (lv_at hl 0 rfl) ?_
  refine z_iload_n F dL_law_208 rfl (lv_at hl 3 rfl) ?_
  refine z_iconst F dL_law_209 ?_
  refine z_iadd F dL_law_210 ?_
  refine z_sld F hX hbl hbA hZ.1.2.2 hL (i + 3) (by omega) (by omega) dL_law_211 ?_
  refine z_aload_n F dL_law_212 rfl (lv_at hl 0 rfl) ?_
  refine z_iload_n F dL_law_213 rfl (lv_at hl 3 rfl) ?_
  refine z_iconst F dL_law_214 ?_
  refine z_iadd F dL_law_215 ?_
  refine z_sld F hX hbl hbA hZ.1.2.2 hL (i + 4) (by omega) (by omega) dL_law_216 ?_
  refine z_aload_n F dL_law_217 rfl (lv_at hl 0 rfl) ?_
  refine z_iload_n F dL_law_218 rfl (lv_at hl 3 rfl) ?_
  refine z_iconst F dL_law_219 ?_
  refine z_iadd F dL_law_220 ?_
  refine z_sld F hX hbl hbA hZ.1.2.2 hL (i + 5) (by omega) (by omega) dL_law_221 ?_
  refine z_aload_n F dL_law_222 rfl (lv_at hl 0 rfl) ?_
  refine z_iload_n F dL_law_223 rfl (lv_at hl 3 rfl) ?_
  refine z_bipush F (by decide) dL_law_224 ?_
  refine z_iadd F dL_law_226 ?_
  refine z_sld F hX hbl hbA hZ.1.2.2 hL (i + 6) (by omega) (by omega) dL_law_227 ?_
  have hB2 : IB (mSay X (sv xs (i + 1)) (sv xs (i + 2)) (sv xs (i + 3)) (sv xs (i + 4)) (sv xs (i + 5)) (sv xs (i + 6))) := IB_say hB (sv xs (i + 1)) (sv xs (i + 2)) (sv xs (i + 3)) (sv xs (i + 4)) (sv xs (i + 5)) (sv xs (i + 6))
  have hu4 : mU u (mSay X (sv xs (i + 1)) (sv xs (i + 2)) (sv xs (i + 3)) (sv xs (i + 4)) (sv xs (i + 5)) (sv xs (i + 6))) ≤ 400 := mU_400 hu hB2.1
  have huu : u ≤ mU u (mSay X (sv xs (i + 1)) (sv xs (i + 2)) (sv xs (i + 3)) (sv xs (i + 4)) (sv xs (i + 5)) (sv xs (i + 6))) := mU_ge _ _
  refine l_callC hZ (va_runV (As := [.int (zI (sv xs (i + 1))), .int (zI (sv xs (i + 2))), .int (zI (sv xs (i + 3))), .int (zI (sv xs (i + 4))), .int (zI (sv xs (i + 5))), .int (zI (sv xs (i + 6)))]) (rest := []) F (k_X7_say l w (aC w) (aC_h w) u C X hM hB.1  (sv xs (i + 1)) (sv xs (i + 2)) (sv xs (i + 3)) (sv xs (i + 4)) (sv xs (i + 5)) (sv xs (i + 6)) (sv_rng xs _) (sv_rng xs _) (sv_rng xs _) (sv_rng xs _) (sv_rng xs _) (sv_rng xs _)) (cwV 6 F.2.2.2.2 gL_law_X7_say rfl rfl rfl (by decide +kernel) ⟨Nat.le_of_ble_eq_true rfl, Nat.le_of_ble_eq_true rfl⟩) (z_preV hK.1 hZ.1 (0) (dC_s (by omega)) rfl (by decide) rfl _) rfl rfl hl.1 rfl (lv_room (Nat.le_of_ble_eq_true rfl)) dL_law_228 ⟨by show 71 + u + (mU u (mSay X (sv xs (i + 1)) (sv xs (i + 2)) (sv xs (i + 3)) (sv xs (i + 4)) (sv xs (i + 5)) (sv xs (i + 6))) - u) ≤ 600000; omega, by show 7873 + 8 * u + (8 * (mU u (mSay X (sv xs (i + 1)) (sv xs (i + 2)) (sv xs (i + 3)) (sv xs (i + 4)) (sv xs (i + 5)) (sv xs (i + 6))) - u)) ≤ 7302249; omega⟩) (fun C1 H locs hC1 hZ => ?_)
  refine z_aload_n F dL_law_231 rfl (lv_at hl 2 rfl) ?_
  refine z_aload_n F dL_law_232 rfl (lv_at hl 0 rfl) ?_
  refine z_iload_n F dL_law_233 rfl (lv_at hl 3 rfl) ?_
  refine z_iconst F dL_law_234 ?_
  refine z_iadd F dL_law_235 ?_
  refine z_sld F hX hbl hbA hZ.1.2.2 hL (i + 1) (by omega) (by omega) dL_law_236 ?_
  refine z_aload_n F dL_law_237 rfl (lv_at hl 0 rfl) ?_
  refine z_iload_n F dL_law_238 rfl (lv_at hl 3 rfl) ?_
  refine z_iconst F dL_law_239 ?_
  refine z_iadd F dL_law_240 ?_
  refine z_sld F hX hbl hbA hZ.1.2.2 hL (i + 2) (by omega) (by omega) dL_law_241 ?_
  refine z_aload_n F dL_law_242 rfl (lv_at hl 0 rfl) ?_
  refine z_iload_n F dL_law_243 rfl (lv_at hl 3 rfl) ?_
  refine z_iconst F dL_law_244 ?_
  refine z_iadd F dL_law_245 ?_
  refine z_sld F hX hbl hbA hZ.1.2.2 hL (i + 3) (by omega) (by omega) dL_law_246 ?_
  refine z_aload_n F dL_law_247 rfl (lv_at hl 0 rfl) ?_
  refine z_iload_n F dL_law_248 rfl (lv_at hl 3 rfl) ?_
  refine z_iconst F dL_law_249 ?_
  refine z_iadd F dL_law_250 ?_
  refine z_sld F hX hbl hbA hZ.1.2.2 hL (i + 4) (by omega) (by omega) dL_law_251 ?_
  refine z_aload_n F dL_law_252 rfl (lv_at hl 0 rfl) ?_
  refine z_iload_n F dL_law_253 rfl (lv_at hl 3 rfl) ?_
  refine z_iconst F dL_law_254 ?_
  refine z_iadd F dL_law_255 ?_
  refine z_sld F hX hbl hbA hZ.1.2.2 hL (i + 5) (by omega) (by omega) dL_law_256 ?_
  refine z_aload_n F dL_law_257 rfl (lv_at hl 0 rfl) ?_
  refine z_iload_n F dL_law_258 rfl (lv_at hl 3 rfl) ?_
  refine z_bipush F (by decide) dL_law_259 ?_
  refine z_iadd F dL_law_261 ?_
  refine z_sld F hX hbl hbA hZ.1.2.2 hL (i + 6) (by omega) (by omega) dL_law_262 ?_
  refine l_callX hZ (va_runV (As := [.int (zI (sv xs (i + 1))), .int (zI (sv xs (i + 2))), .int (zI (sv xs (i + 3))), .int (zI (sv xs (i + 4))), .int (zI (sv xs (i + 5))), .int (zI (sv xs (i + 6)))]) (rest := [.int (zI (rSay X (sv xs (i + 1)) (sv xs (i + 2)) (sv xs (i + 3)) (sv xs (i + 4)) (sv xs (i + 5)) (sv xs (i + 6))))]) F (k_X8_say l w dX (aX w) (aX_h w) (w.2.1 + (71 + (mU u (mSay X (sv xs (i + 1)) (sv xs (i + 2)) (sv xs (i + 3)) (sv xs (i + 4)) (sv xs (i + 5)) (sv xs (i + 6)))))) X (fun i h => h) hB.1 (sv xs (i + 1)) (sv xs (i + 2)) (sv xs (i + 3)) (sv xs (i + 4)) (sv xs (i + 5)) (sv xs (i + 6)) (sv_rng xs _) (sv_rng xs _) (sv_rng xs _) (sv_rng xs _) (sv_rng xs _) (sv_rng xs _)) (cwV 6 F.2.2.2.2 gL_law_X8_say rfl rfl rfl (by decide +kernel) ⟨Nat.le_of_ble_eq_true rfl, Nat.le_of_ble_eq_true rfl⟩) (z_preV hK.1 hZ.x (64) ⟨by decide, by decide⟩ rfl (by decide) rfl _) rfl rfl hl.1 rfl (lv_room (Nat.le_of_ble_eq_true rfl)) dL_law_263 ⟨by show 71 + u + (mU u (mSay X (sv xs (i + 1)) (sv xs (i + 2)) (sv xs (i + 3)) (sv xs (i + 4)) (sv xs (i + 5)) (sv xs (i + 6))) - u) + 0 ≤ 600000; omega, by show 7873 + 8 * u + (8 * (mU u (mSay X (sv xs (i + 1)) (sv xs (i + 2)) (sv xs (i + 3)) (sv xs (i + 4)) (sv xs (i + 5)) (sv xs (i + 6))) - u)) + 0 ≤ 7302249; omega⟩) (fun H locs hZ => ?_)
  refine lv_icmp_eq (tgt := 588) F.1 F.2.1 dL_law_266 (by decide) (fun _ => ?_) (fun h => absurd rfl h)
  refine W.widen (show 71 + u + (mU u (mSay X (sv xs (i + 1)) (sv xs (i + 2)) (sv xs (i + 3)) (sv xs (i + 4)) (sv xs (i + 5)) (sv xs (i + 6))) - u) + 0 ≤ 71 + mU u (mSay X (sv xs (i + 1)) (sv xs (i + 2)) (sv xs (i + 3)) (sv xs (i + 4)) (sv xs (i + 5)) (sv xs (i + 6))) by omega) (show 7873 + 8 * u + (8 * (mU u (mSay X (sv xs (i + 1)) (sv xs (i + 2)) (sv xs (i + 3)) (sv xs (i + 4)) (sv xs (i + 5)) (sv xs (i + 6))) - u)) + 0 ≤ 7873 + 8 * mU u (mSay X (sv xs (i + 1)) (sv xs (i + 2)) (sv xs (i + 3)) (sv xs (i + 4)) (sv xs (i + 5)) (sv xs (i + 6))) by omega) ?_
  exact kk _ C1 (mSay X (sv xs (i + 1)) (sv xs (i + 2)) (sv xs (i + 3)) (sv xs (i + 4)) (sv xs (i + 5)) (sv xs (i + 6))) H locs hZ hC1 hB2
end LC
