section LC
variable {p : Program} {l : Launch} {e : Env} {s : State} {m : MethodId} {below : List Frame} {meth : Method} {c : Code} {H : Heap} {locs : List Loc} {Q : State → Prop}
variable {ls : Array Slot} {b L : Nat} {xs : Nat → Int32} {w : zW} {H0 : Heap}
set_option maxHeartbeats 4000000 in
set_option maxRecDepth 100000 in
theorem law_loop (F : CallFix p m c code 4 s #[.ref b] wsL_law RL) (hr : meth.sig.returnType = ret) (hlocks : meth.locks = false) (hK : zK7 w s) (hw : w.2.1 = s.heap.size) (hX : va_X b L xs s s.heap) (hbl : b < s.heap.size) (hL : L ≤ 3584) : ∀ (nf i u : Nat) (C X : zM), L + 1 ≤ i + nf → i ≤ L → ∀ (H : Heap) (locs : List Loc) (ls : Array Slot), Ls w s.heap u C X H locs → Sim C X u → IB X → lv_has ls 4 [(0, .ref b), (1, .ref (w.2.1 + (0))), (2, .ref (w.2.1 + (64))), (3, .int (zI ((i : Int))))] → W p l e room_1 s m #[.ref b] below meth c H locs (71 + u) (7873 + 8 * u) (lw_Z below #[.ref b] s) (F0 m 18 ls []) := by
  have hbA : ¬ aL w b := by unfold aL; omega
  intro nf
  induction nf with
  | zero => intro i u C X h1 h2; exact absurd h1 (by omega)
  | succ nf ih =>
    intro i u C X h1 h2 H locs ls hZ hM hB hl
    have hu : u ≤ 400 := hM.1.2.1.2
    refine z_iload_n F dL_law_18 rfl (lv_at hl 3 rfl) ?_
    refine z_aload_n F dL_law_19 rfl (lv_at hl 0 rfl) ?_
    refine z_slen F hX hbl hbA hZ.1.2.2 dL_law_20 ?_
    refine z_bipush F (by decide) dL_law_21 ?_
    refine z_isub F dL_law_23 ?_
    refine z_icmp_gt (tgt := 594) F (by omega) (by omega) dL_law_24 (by decide) (fun c_24 => ?_) (fun c_24 => ?_)
    · refine lv_iconst (v := 1) F.1 F.2.1 dL_law_594 (by decide) ?_
      refine va_forget (fun q hq => by have z := hZ.1.2.2.2.2 q hq; unfold aL at z; omega) ?_
      refine W.widen (k := 600000) (n := 7302249) (by omega) (by omega) ?_
      exact lw_ret F.1 F.2.1 hr hlocks dL_law_595
    · have hi : i + 7 ≤ L := by omega
      have kk : ∀ (u1 : Nat) (C1 X1 : zM) (H : Heap) (locs : List Loc), Ls w s.heap u1 C1 X1 H locs → Sim C1 X1 u1 → IB X1 → W p l e room_1 s m #[.ref b] below meth c H locs (71 + u1) (7873 + 8 * u1) (lw_Z below #[.ref b] s) (F0 m 588 ls []) := by
        intro u1 C1 X1 H locs hZ hM hB
        refine z_iinc (k := 3) (z := (i : Int)) (lv' := [(3, .int (zI ((i : Int) + 7))), (0, .ref b), (1, .ref (w.2.1 + (0))), (2, .ref (w.2.1 + (64)))]) F dL_law_588 hl rfl (by decide) rfl (fun ls hl => ?_)
        refine lv_goto (tgt := 18) F.1 F.2.1 dL_law_591 (by decide) ?_
        exact ih (i + 7) u1 C1 X1 (by omega) (by omega) _ _ _ hZ hM hB (lv_sub hl [1, 2, 3, 0] rfl)
      refine z_aload_n F dL_law_27 rfl (lv_at hl 0 rfl) ?_
      refine z_iload_n F dL_law_28 rfl (lv_at hl 3 rfl) ?_
      refine z_sld F hX hbl hbA hZ.1.2.2 hL i rfl (by omega) dL_law_29 ?_
      refine z_bipush F (by decide) dL_law_30 ?_
      refine z_iand F dL_law_32 ?_
      have ht := bAnd_rng (sv xs i) 15
      generalize bAnd (sv xs i) 15 = t at ht ⊢
      by_cases h_33 : t < 0 ∨ 13 < t
      · refine lv_tableOut (tgt := 588) F.1 F.2.1 dL_law_33 (by rw [zI_toInt (by omega)]; exact h_33) (by decide) ?_
        exact kk u C X H locs hZ hM hB
      · rcases (show t = 0 ∨ t = 1 ∨ t = 2 ∨ t = 3 ∨ t = 4 ∨ t = 5 ∨ t = 6 ∨ t = 7 ∨ t = 8 ∨ t = 9 ∨ t = 10 ∨ t = 11 ∨ t = 12 ∨ t = 13 by omega) with rfl | rfl | rfl | rfl | rfl | rfl | rfl | rfl | rfl | rfl | rfl | rfl | rfl | rfl
        · refine lv_tableIn (tgt := 104) F.1 F.2.1 dL_law_33 (by decide) (by decide) (off := 71) (by decide) (by decide) ?_
          exact law_c0 F hK hX hbl hbA hL hu hi hZ hM hB hl kk
        · refine lv_tableIn (tgt := 127) F.1 F.2.1 dL_law_33 (by decide) (by decide) (off := 94) (by decide) (by decide) ?_
          exact law_c1 F hK hX hbl hbA hL hu hi hZ hM hB hl kk
        · refine lv_tableIn (tgt := 150) F.1 F.2.1 dL_law_33 (by decide) (by decide) (off := 117) (by decide) (by decide) ?_
          exact law_c2 F hK hX hbl hbA hL hu hi hZ hM hB hl kk
        · refine lv_tableIn (tgt := 183) F.1 F.2.1 dL_law_33 (by decide) (by decide) (off := 150) (by decide) (by decide) ?_
          exact law_c3 F hK hX hbl hbA hL hu hi hZ hM hB hl kk
        · refine lv_tableIn (tgt := 196) F.1 F.2.1 dL_law_33 (by decide) (by decide) (off := 163) (by decide) (by decide) ?_
          exact law_c4 F hK hX hbl hbA hL hu hi hZ hM hB hl kk
        · refine lv_tableIn (tgt := 271) F.1 F.2.1 dL_law_33 (by decide) (by decide) (off := 238) (by decide) (by decide) ?_
          exact law_c5 F hK hX hbl hbA hL hu hi hZ hM hB hl kk
        · refine lv_tableIn (tgt := 304) F.1 F.2.1 dL_law_33 (by decide) (by decide) (off := 271) (by decide) (by decide) ?_
          exact law_c6 F hK hX hbl hbA hL hu hi hZ hM hB hl kk
        · refine lv_tableIn (tgt := 337) F.1 F.2.1 dL_law_33 (by decide) (by decide) (off := 304) (by decide) (by decide) ?_
          exact law_c7 F hK hX hbl hbA hL hu hi hZ hM hB hl kk
        · refine lv_tableIn (tgt := 360) F.1 F.2.1 dL_law_33 (by decide) (by decide) (off := 327) (by decide) (by decide) ?_
          exact law_c8 F hK hX hbl hbA hL hu hi hZ hM hB hl kk
        · refine lv_tableIn (tgt := 393) F.1 F.2.1 dL_law_33 (by decide) (by decide) (off := 360) (by decide) (by decide) ?_
          exact law_c9 F hK hX hbl hbA hL hu hi hZ hM hB hl kk
        · refine lv_tableIn (tgt := 436) F.1 F.2.1 dL_law_33 (by decide) (by decide) (off := 403) (by decide) (by decide) ?_
          exact law_c10 F hK hX hbl hbA hL hu hi hZ hM hB hl kk
        · refine lv_tableIn (tgt := 469) F.1 F.2.1 dL_law_33 (by decide) (by decide) (off := 436) (by decide) (by decide) ?_
          exact law_c11 F hK hX hbl hbA hL hu hi hZ hM hB hl kk
        · refine lv_tableIn (tgt := 532) F.1 F.2.1 dL_law_33 (by decide) (by decide) (off := 499) (by decide) (by decide) ?_
          exact law_c12 F hK hX hbl hbA hL hu hi hZ hM hB hl kk
        · refine lv_tableIn (tgt := 565) F.1 F.2.1 dL_law_33 (by decide) (by decide) (off := 532) (by decide) (by decide) ?_
          exact law_c13 F hK hX hbl hbA hL hu hi hZ hM hB hl kk
end LC
