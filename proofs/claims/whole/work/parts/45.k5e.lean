theorem mX5_prevotesNew_15 : Cond.fieldLink RX5 15 "LockedChain$Rules" "post" "LLockedChain$Post;" ∈ wsX5_prevotesNew := by decide +kernel
theorem mX5_prevotesNew_25 : Cond.fieldLink RX5 25 "LockedChain$Seat" "step" "I" ∈ wsX5_prevotesNew := by decide +kernel
theorem mX5_prevotesNew_33 : Cond.fieldLink RX5 33 "LockedChain$Seat" "round" "I" ∈ wsX5_prevotesNew := by decide +kernel
theorem mX5_prevotesNew_48 : Cond.fieldLink RX5 48 "LockedChain$Seat" "height" "I" ∈ wsX5_prevotesNew := by decide +kernel
theorem mX5_prevotesNew_81 : Cond.fieldLink RX5 81 "LockedChain$Mark" "value" "I" ∈ wsX5_prevotesNew := by decide +kernel
theorem mX5_prevotesNew_123 : Cond.fieldLink RX5 123 "LockedChain$Letter" "value" "I" ∈ wsX5_prevotesNew := by decide +kernel
theorem mX5_prevotesNew_153 : Cond.fieldLink RX5 153 "LockedChain$Letter" "next" "LLockedChain$Letter;" ∈ wsX5_prevotesNew := by decide +kernel
theorem mX5_prevotesNew_161 : Cond.fieldLink RX5 161 "LockedChain$Letter" "vr" "I" ∈ wsX5_prevotesNew := by decide +kernel
theorem mX5_prevotesNew_164 : Cond.fieldLink RX5 164 "LockedChain$Seat" "locked" "LLockedChain$Mark;" ∈ wsX5_prevotesNew := by decide +kernel
theorem mX5_prevotesNew_167 : Cond.fieldLink RX5 167 "LockedChain$Seat" "chain" "LLockedChain$Chain;" ∈ wsX5_prevotesNew := by decide +kernel
set_option maxHeartbeats 4000000 in
set_option maxRecDepth 100000 in
theorem k_X5_prevotesNew (l : Launch) (w : zW) (A : Nat → Prop) (hA : ∀ i, i < 64 ∨ 71 ≤ i → A (w.2.1 + i)) (mm : Nat) (G X : zM) (hM : Sim G X mm) (hI : Inv X) (j : Nat) (hj0 : (j : Int) < X 64 0) (hh : X 67 (20 * (j : Int) + 0) ≤ 5) : Met l yX5_prevotesNew wsX5_prevotesNew { frames := 5, cells := (mU mm ((prevN X j).getD X) - mm), slots := (8 * (mU mm ((prevN X j).getD X) - mm)), locals := 108 } (zPre w (dC mm) (w.2.1 + (71 + mm)) G [.ref (w.2.1 + (6)), .ref (w.2.1 + (8 + 8 * j))]) (zQi w (dC (mU mm ((prevN X j).getD X))) (w.2.1 + (71 + mU mm ((prevN X j).getD X))) (bI ((prevN X j).isSome = true)) (fun C => Sim C ((prevN X j).getD X) (mU mm ((prevN X j).getD X))) A) ((mU mm ((prevN X j).getD X) - mm)) ((8 * (mU mm ((prevN X j).getD X) - mm))) A := by
  refine Met.ofW (cc := cX5_prevotesNew) (maxL := 4) (ret := (some .boolean)) (by decide) rfl ?_
  intro p e s m args below meth c s₁ B hml hv
  obtain ⟨rfl, hsz, hP, hK⟩ := hv
  have F : CallFix p m c cX5_prevotesNew 4 s _ wsX5_prevotesNew RX5 := ⟨B.exec, B.bytes, hml, findClass_of_methodNamed B.named, atoms_spec (ws := wsX5_prevotesNew) B.pre⟩
  have hr := B.returns
  have hlocks := B.notSynchronized
  have hZ : Zs w (dC mm) A s.heap (w.2.1 + (71 + mm)) G s.heap [] := ⟨hsz, hP, va_S.rf⟩
  have hl := lv_entry ([.ref (w.2.1 + (6)), .ref (w.2.1 + (8 + 8 * j))]) (n := 4) (Nat.le_of_ble_eq_true rfl)
  rw [lg_entry_eq]
  generalize (lg_sl ([.ref (w.2.1 + (6)), .ref (w.2.1 + (8 + 8 * j))]) ++ List.replicate (4 - (lg_sl ([.ref (w.2.1 + (6)), .ref (w.2.1 + (8 + 8 * j))])).length) Slot.unset).toArray = ls at hl ⊢
  have hl : lv_has ls 4 [(0, .ref (w.2.1 + (6))), (1, .ref (w.2.1 + (8 + 8 * j)))] := hl
  have hin2 : ∀ v ∈ u_ws RX2 TX2 8, v ∈ wsX5_prevotesNew := by decide +kernel
  have hin3 : ∀ v ∈ u_ws RX3 TX3 2, v ∈ wsX5_prevotesNew := by decide +kernel
  have hin5 : ∀ v ∈ u_ws RX5 TX5 2, v ∈ wsX5_prevotesNew := by decide +kernel
  have hin6 : ∀ v ∈ u_ws RX6 TX6 15, v ∈ wsX5_prevotesNew := by decide +kernel
  have hn := hI.1
  have hLL := hI.2.2.2.1
  have hj : j < 7 := by omega
  have hS : PostS G X mm := hM.1
  obtain ⟨hS1, hS2, hS3, hS4, hS5⟩ := hM.1
  have hC0 := hM.2.1
  have sf := Sim_f hM hj
  have sr := seat_rng hI (s := (j : Int)) (by omega)
  have hu := mU_c mm ((prevN X j).getD X)
  have lk := Sim_lk hM hj
  refine z_aload_n F dX5_prevotesNew_0 rfl (lv_at hl 1 rfl) ?_
  refine z_get F hK hZ (8 + 8 * j) (dC_s (by omega)) (shp_seat j hj) (by decide) rfl hin6 4 (by decide) mX5_prevotesNew_25 rfl rfl dX5_prevotesNew_1 ?_
  have r_1 := hZ.2.1.1 (8 + 8 * j) (4)
  refine z_topI (show G (8 + 8 * j) 4 = X 67 (20 * (j : Int) + 2) from sf.2.2.2.2.1) ?_
  refine z_if_eq (tgt := 9) F (by omega) dX5_prevotesNew_4 (by decide) (fun c_4 => ?_) (fun c_4 => ?_)
  · skip
    refine z_aload_n F dX5_prevotesNew_9 rfl (lv_at hl 0 rfl) ?_
    refine z_get F hK hZ (6) (dC_s (by omega)) rfl (by decide) rfl hin5 1 (by decide) mX5_prevotesNew_15 rfl rfl dX5_prevotesNew_10 ?_
    refine z_iconst F dX5_prevotesNew_13 ?_
    refine z_aload_n F dX5_prevotesNew_14 rfl (lv_at hl 1 rfl) ?_
    refine z_get F hK hZ (8 + 8 * j) (dC_s (by omega)) (shp_seat j hj) (by decide) rfl hin6 2 (by decide) mX5_prevotesNew_48 rfl rfl dX5_prevotesNew_15 ?_
    have r_2 := hZ.2.1.1 (8 + 8 * j) (2)
    refine z_topI (show G (8 + 8 * j) 2 = X 67 (20 * (j : Int) + 0) from sf.2.2.1) ?_
    refine z_aload_n F dX5_prevotesNew_18 rfl (lv_at hl 1 rfl) ?_
    refine z_get F hK hZ (8 + 8 * j) (dC_s (by omega)) (shp_seat j hj) (by decide) rfl hin6 3 (by decide) mX5_prevotesNew_33 rfl rfl dX5_prevotesNew_19 ?_
    have r_3 := hZ.2.1.1 (8 + 8 * j) (3)
    refine z_topI (show G (8 + 8 * j) 3 = X 67 (20 * (j : Int) + 1) from sf.2.2.2.1) ?_
    refine z_bxr hZ (va_runV (As := [.int (zI (0)), .int (zI (X 67 (20 * (j : Int) + 0))), .int (zI (X 67 (20 * (j : Int) + 1)))]) (rest := []) F (k_X4_first l w (dC mm) A (dC_A hA) (w.2.1 + (71 + mm)) G (fun i h => dC_s h) 0 (X 67 (20 * (j : Int) + 0)) (X 67 (20 * (j : Int) + 1)) (by omega) (by omega) (by omega)) (cwV 3 F.2.2.2.2 gX5_prevotesNew_X4_first rfl rfl rfl (by decide +kernel) ⟨Nat.le_of_ble_eq_true rfl, Nat.le_of_ble_eq_true rfl⟩) (z_preV hK hZ (2) (dC_s (by omega)) rfl (by decide) rfl _) rfl rfl hl.1 rfl (lv_room (Nat.le_of_ble_eq_true rfl)) dX5_prevotesNew_22 ⟨by show 0 + (0) ≤ (mU mm ((prevN X j).getD X) - mm); omega, by show 0 + (0) ≤ (8 * (mU mm ((prevN X j).getD X) - mm)); omega⟩) (fun H locs hZ => ?_)
    rw [show G 4 ((0 * 6 + (X 67 (20 * (j : Int) + 0))) * 10 + (X 67 (20 * (j : Int) + 1))) = nx X ((0 * 6 + X 67 (20 * (j : Int) + 0)) * 10 + (X 67 (20 * (j : Int) + 1))) 0 from (hS4 _ (by omega) (by omega)).1]
    refine z_vstore_n (lv' := [(2, zV w (nx X ((0 * 6 + X 67 (20 * (j : Int) + 0)) * 10 + (X 67 (20 * (j : Int) + 1))) 0)), (0, .ref (w.2.1 + (6))), (1, .ref (w.2.1 + (8 + 8 * j)))]) F dX5_prevotesNew_25 rfl hl (by decide) (by unfold zV; (repeat' split) <;> rfl) (fun ls hl => ?_)
    have L_26 : ∀ (nf : Nat) (i : Nat), ((X 64 7).toNat + 1 ≤ i + nf) → (i ≤ (X 64 7).toNat) → (fstB (newP X j) ((X 64 7).toNat - i) i = fstB (newP X j) (X 64 7).toNat 0) →  ∀ (H : Heap) (locs : List Loc) (ls : Array Slot), Zs w (dC mm) A s.heap (w.2.1 + (71 + mm)) G H locs → lv_has ls 4 [(0, .ref (w.2.1 + (6))), (1, .ref (w.2.1 + (8 + 8 * j))), (2, zV w (nx X ((0 * 6 + X 67 (20 * (j : Int) + 0)) * 10 + X 67 (20 * (j : Int) + 1)) i))] → W p l e (headSpec wsX5_prevotesNew { frames := 5, cells := (mU mm ((prevN X j).getD X) - mm), slots := (8 * (mU mm ((prevN X j).getD X) - mm)), locals := 108 }).room s m ([.ref (w.2.1 + (6)), .ref (w.2.1 + (8 + 8 * j))] : List Value).toArray below meth c H locs (0 + 0) (0 + 0) (MQ below (zQi w (dC (mU mm ((prevN X j).getD X))) (w.2.1 + (71 + mU mm ((prevN X j).getD X))) (bI ((prevN X j).isSome = true)) (fun C => Sim C ((prevN X j).getD X) (mU mm ((prevN X j).getD X))) A) ([.ref (w.2.1 + (6)), .ref (w.2.1 + (8 + 8 * j))] : List Value).toArray s ((mU mm ((prevN X j).getD X) - mm)) ((8 * (mU mm ((prevN X j).getD X) - mm))) A) (F0 m 26 ls []) := by
      intro nf
      induction nf with
      | zero => intro i  h26_0 h26_1 h26_2; exact absurd h26_0 (by omega)
      | succ nf ih_26 =>
        intro i  h26_0 h26_1 h26_2 H locs ls hZ hl
        refine z_vload_n (w := w) F dX5_prevotesNew_26 rfl (lv_at hl 2 rfl) ?_
        refine z_ifnull (tgt := 119) F dX5_prevotesNew_27 (by decide) (fun c_27 => ?_) (fun c_27 => ?_)
        · skip
          have hnf : fstB (newP X j) (X 64 7).toNat 0 = none := by rw [← h26_2, fstB_skip (L := (X 64 7).toNat) (q := (X 64 7).toNat) (by omega) (by omega) (fun y a b c => nx_neg c_27 y a (by omega) (newP_slot c)), Nat.sub_self]; rfl
          refine z_iconst F dX5_prevotesNew_119 ?_
          have hno : prevN X j = none := prevN_n (by omega) hnf
          have hst : ((prevN X j).getD X) = X := by rw [hno]; rfl
          have hue : mm = mU mm ((prevN X j).getD X) := by rw [hst, mU_self (by omega)]
          have hfin : Sim (G) ((prevN X j).getD X) (mU mm ((prevN X j).getD X)) := by rw [← hue, hst]; exact hM
          rw [hue] at hZ
          exact z_zret F hr hlocks hZ (by first | exact bI_0 (by rw [hno]; exact fun z => by cases z) | exact bI_1 (by rw [hso]; rfl)) (by omega) hfin dX5_prevotesNew_120 (by omega) (by omega)
        · skip
          obtain ⟨q, hq, hq1, hq2, hq3, hq4⟩ := nx_pos (X := X) (k := (0 * 6 + X 67 (20 * (j : Int) + 0)) * 10 + X 67 (20 * (j : Int) + 1)) (i := i) (by assumption)
          rw [hq, zV_nat] at hl
          obtain ⟨⟨e0, e1, e2, e3, e4, e5⟩, e6, e7⟩ := hS5 q hq2
          have hqr := let_rng hI (l := (q : Int)) ⟨by omega, hq2⟩
          have hqs := (slotL_eq hI hq2 (kd := 0) (h' := X 67 (20 * (j : Int) + 0)) (r := X 67 (20 * (j : Int) + 1)) (by omega) (by omega) (by omega)).mp hq3
          have hv0 := (hI.2.2.2.2.2.1 (q : Int) (by omega) hq2).1.2.2.2.2.2.1 hqs.1
          refine z_aload_n F dX5_prevotesNew_30 rfl (lv_at hl 0 rfl) ?_
          refine z_aload_n F dX5_prevotesNew_31 rfl (lv_at hl 1 rfl) ?_
          refine z_aload_n F dX5_prevotesNew_32 rfl (lv_at hl 2 rfl) ?_
          refine z_bxi hZ (va_runV (As := [.ref (w.2.1 + (8 + 8 * j)), .ref (w.2.1 + (71 + q))]) (rest := []) F (k_X5_counts l w (dC mm) A (dC_A hA) (w.2.1 + (71 + mm)) G X mm (fun i h => dC_s h) (fun i h => dC_l h) hM hI j hj0 q (by omega)) (cwV 2 F.2.2.2.2 gX5_prevotesNew_X5_counts rfl rfl rfl (by decide +kernel) ⟨Nat.le_of_ble_eq_true rfl, Nat.le_of_ble_eq_true rfl⟩) (z_preV hK hZ (6) (dC_s (by omega)) rfl (by decide) rfl _) rfl rfl hl.1 rfl (lv_room (Nat.le_of_ble_eq_true rfl)) dX5_prevotesNew_33 ⟨by show 0 + 0 + (0) ≤ (mU mm ((prevN X j).getD X) - mm); omega, by show 0 + 0 + (0) ≤ (8 * (mU mm ((prevN X j).getD X) - mm)); omega⟩) (fun H locs hZ => ?_)
          refine z_ifB_eq (tgt := 111) F dX5_prevotesNew_36 (by decide) (fun c_36 => ?_) (fun c_36 => ?_)
          · skip
            refine z_aload_n F dX5_prevotesNew_111 rfl (lv_at hl 2 rfl) ?_
            refine z_get F hK hZ (71 + q) (dC_l (by omega)) (shp_let q) (by decide) rfl hin2 7 (by decide) mX5_prevotesNew_153 rfl rfl dX5_prevotesNew_112 ?_
            rw [show G (71 + q) 7 = nx X ((0 * 6 + X 67 (20 * (j : Int) + 0)) * 10 + X 67 (20 * (j : Int) + 1)) (q + 1) from by rw [e7, hq3]]
            refine z_vstore_n (lv' := [(2, zV w (nx X ((0 * 6 + X 67 (20 * (j : Int) + 0)) * 10 + X 67 (20 * (j : Int) + 1)) (q + 1))), (0, .ref (w.2.1 + (6))), (1, .ref (w.2.1 + (8 + 8 * j)))]) F dX5_prevotesNew_115 rfl hl (by decide) (by unfold zV; (repeat' split) <;> rfl) (fun ls hl => ?_)
            refine lv_goto (tgt := 26) F.1 F.2.1 dX5_prevotesNew_116 (by decide) ?_
            exact ih_26 (q + 1) (by omega) (by omega) (by rw [← h26_2, fstB_skip (L := (X 64 7).toNat) hq1 (by omega) (fun y a b c => hq4 y a b (newP_slot c)), fstB_f (k := (X 64 7).toNat - q) (i := q) (by omega) (fun z => by have y := (newP_iff hI hq2 (by omega) (by omega) hq3).mp z; first | exact c_36 y.1 | (have y2 := y.2; omega)), Nat.sub_sub]) _ _ _ hZ (lv_sub hl [1, 2, 0] rfl)
          · skip
            refine z_aload_n F dX5_prevotesNew_39 rfl (lv_at hl 2 rfl) ?_
            refine z_get F hK hZ (71 + q) (dC_l (by omega)) (shp_let q) (by decide) rfl hin2 5 (by decide) mX5_prevotesNew_161 rfl rfl dX5_prevotesNew_40 ?_
            have r_4 := hZ.2.1.1 (71 + q) (5)
            refine z_topI (show G (71 + q) 5 = X 69 (6 * (q : Int) + 5) from e5) ?_
            refine z_iconst F dX5_prevotesNew_43 ?_
            refine z_icmp_ne (tgt := 111) F (by omega) (by omega) dX5_prevotesNew_44 (by decide) (fun c_44 => ?_) (fun c_44 => ?_)
            · skip
              refine z_aload_n F dX5_prevotesNew_111 rfl (lv_at hl 2 rfl) ?_
              refine z_get F hK hZ (71 + q) (dC_l (by omega)) (shp_let q) (by decide) rfl hin2 7 (by decide) mX5_prevotesNew_153 rfl rfl dX5_prevotesNew_112 ?_
              rw [show G (71 + q) 7 = nx X ((0 * 6 + X 67 (20 * (j : Int) + 0)) * 10 + X 67 (20 * (j : Int) + 1)) (q + 1) from by rw [e7, hq3]]
              refine z_vstore_n (lv' := [(2, zV w (nx X ((0 * 6 + X 67 (20 * (j : Int) + 0)) * 10 + X 67 (20 * (j : Int) + 1)) (q + 1))), (0, .ref (w.2.1 + (6))), (1, .ref (w.2.1 + (8 + 8 * j)))]) F dX5_prevotesNew_115 rfl hl (by decide) (by unfold zV; (repeat' split) <;> rfl) (fun ls hl => ?_)
              refine lv_goto (tgt := 26) F.1 F.2.1 dX5_prevotesNew_116 (by decide) ?_
              exact ih_26 (q + 1) (by omega) (by omega) (by rw [← h26_2, fstB_skip (L := (X 64 7).toNat) hq1 (by omega) (fun y a b c => hq4 y a b (newP_slot c)), fstB_f (k := (X 64 7).toNat - q) (i := q) (by omega) (fun z => by have y := (newP_iff hI hq2 (by omega) (by omega) hq3).mp z; first | exact c_36 y.1 | (have y2 := y.2; omega)), Nat.sub_sub]) _ _ _ hZ (lv_sub hl [1, 2, 0] rfl)
            · skip
              refine z_aload_n F dX5_prevotesNew_47 rfl (lv_at hl 1 rfl) ?_
              refine z_get F hK hZ (8 + 8 * j) (dC_s (by omega)) (shp_seat j hj) (by decide) rfl hin6 10 (by decide) mX5_prevotesNew_164 rfl rfl dX5_prevotesNew_48 ?_
              refine z_bxi hZ (va_runV (As := []) (rest := []) F (k_X3_isNone l w (dC mm) A (dC_A hA) (w.2.1 + (71 + mm)) G (8 + 8 * j + 1) (dC_s (by omega)) (shp_lock j hj)) (cwV 0 F.2.2.2.2 gX5_prevotesNew_X3_isNone rfl rfl rfl (by decide +kernel) ⟨Nat.le_of_ble_eq_true rfl, Nat.le_of_ble_eq_true rfl⟩) (z_preV hK hZ (8 + 8 * j + 1) (dC_s (by omega)) (shp_lock j hj) (by decide) rfl _) rfl rfl hl.1 rfl (lv_room (Nat.le_of_ble_eq_true rfl)) dX5_prevotesNew_51 ⟨by show 0 + 0 + 0 + (0) ≤ (mU mm ((prevN X j).getD X) - mm); omega, by show 0 + 0 + 0 + (0) ≤ (8 * (mU mm ((prevN X j).getD X) - mm)); omega⟩) (fun H locs hZ => ?_)
              refine z_ifB_ne (tgt := 71) F dX5_prevotesNew_54 (by decide) (fun c_54 => ?_) (fun c_54 => ?_)
              · skip
                refine z_iconst F dX5_prevotesNew_71 ?_
                refine lv_goto (tgt := 76) F.1 F.2.1 dX5_prevotesNew_72 (by decide) ?_
                refine z_istore_n (lv' := [(3, .int (zI (1))), (0, .ref (w.2.1 + (6))), (1, .ref (w.2.1 + (8 + 8 * j))), (2, .ref (w.2.1 + (71 + q)))]) F dX5_prevotesNew_76 rfl hl (by decide) rfl (fun ls hl => ?_)
                refine z_aload_n F dX5_prevotesNew_77 rfl (lv_at hl 1 rfl) ?_
                refine z_aload_n F dX5_prevotesNew_78 rfl (lv_at hl 2 rfl) ?_
                refine z_iconst F dX5_prevotesNew_79 ?_
                refine z_iload_n F dX5_prevotesNew_80 rfl (lv_at hl 0 rfl) ?_
                refine z_if_eq (tgt := 105) F (by omega) dX5_prevotesNew_81 (by decide) (fun c_81 => ?_) (fun c_81 => ?_)
                · skip
                  exfalso; omega
                · skip
                  refine z_aload_n F dX5_prevotesNew_84 rfl (lv_at hl 2 rfl) ?_
                  refine z_get F hK hZ (8 + 8 * j) (dC_s (by omega)) (shp_seat j hj) (by decide) rfl hin6 12 (by decide) mX5_prevotesNew_167 rfl rfl dX5_prevotesNew_85 ?_
                  refine z_aload_n F dX5_prevotesNew_88 rfl (lv_at hl 3 rfl) ?_
                  refine z_get F hK hZ (71 + q) (dC_l (by omega)) (shp_let q) (by decide) rfl hin2 4 (by decide) mX5_prevotesNew_123 rfl rfl dX5_prevotesNew_89 ?_
                  have r_5 := hZ.2.1.1 (71 + q) (4)
                  refine z_topI (show G (71 + q) 4 = X 69 (6 * (q : Int) + 4) from e4) ?_
                  refine z_bxi hZ (va_runV (As := [.int (zI (X 69 (6 * (q : Int) + 4)))]) (rest := [.int (zI (1)), .ref (w.2.1 + (8 + 8 * j)), .ref (w.2.1 + (6))]) F (k_X0_isRight l w (dC mm) A (dC_A hA) (w.2.1 + (71 + mm)) G (fun i h => dC_s h) j hj (X 69 (6 * (q : Int) + 4)) (by omega)) (cwV 1 F.2.2.2.2 gX5_prevotesNew_X0_isRight rfl rfl rfl (by decide +kernel) ⟨Nat.le_of_ble_eq_true rfl, Nat.le_of_ble_eq_true rfl⟩) (z_preV hK hZ (8 + 8 * j + 3) (dC_s (by omega)) (shp_chain j hj) (by decide) rfl _) rfl rfl hl.1 rfl (lv_room (Nat.le_of_ble_eq_true rfl)) dX5_prevotesNew_92 ⟨by show 0 + 0 + 0 + 0 + (0) ≤ (mU mm ((prevN X j).getD X) - mm); omega, by show 0 + 0 + 0 + 0 + (0) ≤ (8 * (mU mm ((prevN X j).getD X) - mm)); omega⟩) (fun H locs hZ => ?_)
                  refine z_topI (show bI (isRC (G (8 + 8 * j + 4)) (X 69 (6 * (q : Int) + 4)) = true) = bI (isR X j (X 69 (6 * (q : Int) + 4)) = true) from by rw [isR_eq hM hj (by omega)]) ?_
                  refine z_ifB_eq (tgt := 105) F dX5_prevotesNew_95 (by decide) (fun c_95 => ?_) (fun c_95 => ?_)
                  · skip
                    refine z_iconst F dX5_prevotesNew_105 ?_
                    have hso : prevN X j = some (castsM X j 1 (-1)) := prevN_t (by omega) (by rw [← h26_2, fstB_skip (L := (X 64 7).toNat) hq1 (by omega) (fun y a b c => hq4 y a b (newP_slot c)), fstB_t (by omega) ((newP_iff hI hq2 (by omega) (by omega) hq3).mpr ⟨c_36, by omega⟩)]) (by unfold newV; first | exact if_pos ⟨c_95, by omega⟩ | exact if_neg (fun z => c_95 z.1) | exact if_neg (fun z => by have z2 := z.2; omega))
                    have hst : ((prevN X j).getD X) = (castsM X j 1 (-1)) := by rw [hso]; rfl
                    have hue : mU mm (castsM X j 1 (-1)) = mU mm ((prevN X j).getD X) := by rw [hst]
                    have huC1 := mU_c mm (castsM X j 1 (-1))
                    refine z_backv hZ (va_runV (As := [.ref (w.2.1 + (8 + 8 * j)), .int (zI (1)), .int (zI (-1))]) (rest := []) F (k_X5_vote l w A hA mm G X hM hI j (by omega) (by omega) 1 (-1) (by omega) (by omega)) (cwV 3 F.2.2.2.2 gX5_prevotesNew_X5_vote rfl rfl rfl (by decide +kernel) ⟨Nat.le_of_ble_eq_true rfl, Nat.le_of_ble_eq_true rfl⟩) (z_preV hK hZ (6) (dC_s (by omega)) rfl (by decide) rfl _) rfl rfl hl.1 rfl (lv_room (Nat.le_of_ble_eq_true rfl)) dX5_prevotesNew_106 ⟨by show 0 + 0 + 0 + 0 + 0 + (mU mm (castsM X j 1 (-1)) - mm) ≤ (mU mm ((prevN X j).getD X) - mm); omega, by show 0 + 0 + 0 + 0 + 0 + (8 * (mU mm (castsM X j 1 (-1)) - mm)) ≤ (8 * (mU mm ((prevN X j).getD X) - mm)); omega⟩) (fun C1 H locs hC1 hZ => ?_)
                    refine z_iconst F dX5_prevotesNew_109 ?_
                    have hfin : Sim (C1) ((prevN X j).getD X) (mU mm ((prevN X j).getD X)) := by rw [hst]; exact hC1
                    rw [hue] at hZ
                    exact z_zret F hr hlocks hZ (by first | exact bI_0 (by rw [hno]; exact fun z => by cases z) | exact bI_1 (by rw [hso]; rfl)) (by omega) hfin dX5_prevotesNew_110 (by omega) (by omega)
                  · skip
                    refine z_aload_n F dX5_prevotesNew_98 rfl (lv_at hl 3 rfl) ?_
                    refine z_get F hK hZ (71 + q) (dC_l (by omega)) (shp_let q) (by decide) rfl hin2 4 (by decide) mX5_prevotesNew_123 rfl rfl dX5_prevotesNew_99 ?_
                    have r_6 := hZ.2.1.1 (71 + q) (4)
                    refine z_topI (show G (71 + q) 4 = X 69 (6 * (q : Int) + 4) from e4) ?_
                    refine lv_goto (tgt := 106) F.1 F.2.1 dX5_prevotesNew_102 (by decide) ?_
                    have hso : prevN X j = some (castsM X j 1 (X 69 (6 * (q : Int) + 4))) := prevN_t (by omega) (by rw [← h26_2, fstB_skip (L := (X 64 7).toNat) hq1 (by omega) (fun y a b c => hq4 y a b (newP_slot c)), fstB_t (by omega) ((newP_iff hI hq2 (by omega) (by omega) hq3).mpr ⟨c_36, by omega⟩)]) (by unfold newV; first | exact if_pos ⟨c_95, by omega⟩ | exact if_neg (fun z => c_95 z.1) | exact if_neg (fun z => by have z2 := z.2; omega))
                    have hst : ((prevN X j).getD X) = (castsM X j 1 (X 69 (6 * (q : Int) + 4))) := by rw [hso]; rfl
                    have hue : mU mm (castsM X j 1 (X 69 (6 * (q : Int) + 4))) = mU mm ((prevN X j).getD X) := by rw [hst]
                    have huC2 := mU_c mm (castsM X j 1 (X 69 (6 * (q : Int) + 4)))
                    refine z_backv hZ (va_runV (As := [.ref (w.2.1 + (8 + 8 * j)), .int (zI (1)), .int (zI (X 69 (6 * (q : Int) + 4)))]) (rest := []) F (k_X5_vote l w A hA mm G X hM hI j (by omega) (by omega) 1 (X 69 (6 * (q : Int) + 4)) (by omega) (by omega)) (cwV 3 F.2.2.2.2 gX5_prevotesNew_X5_vote rfl rfl rfl (by decide +kernel) ⟨Nat.le_of_ble_eq_true rfl, Nat.le_of_ble_eq_true rfl⟩) (z_preV hK hZ (6) (dC_s (by omega)) rfl (by decide) rfl _) rfl rfl hl.1 rfl (lv_room (Nat.le_of_ble_eq_true rfl)) dX5_prevotesNew_106 ⟨by show 0 + 0 + 0 + 0 + 0 + (mU mm (castsM X j 1 (X 69 (6 * (q : Int) + 4))) - mm) ≤ (mU mm ((prevN X j).getD X) - mm); omega, by show 0 + 0 + 0 + 0 + 0 + (8 * (mU mm (castsM X j 1 (X 69 (6 * (q : Int) + 4))) - mm)) ≤ (8 * (mU mm ((prevN X j).getD X) - mm)); omega⟩) (fun C2 H locs hC2 hZ => ?_)
                    refine z_iconst F dX5_prevotesNew_109 ?_
                    have hfin : Sim (C2) ((prevN X j).getD X) (mU mm ((prevN X j).getD X)) := by rw [hst]; exact hC2
                    rw [hue] at hZ
                    exact z_zret F hr hlocks hZ (by first | exact bI_0 (by rw [hno]; exact fun z => by cases z) | exact bI_1 (by rw [hso]; rfl)) (by omega) hfin dX5_prevotesNew_110 (by omega) (by omega)
              · skip
                refine z_aload_n F dX5_prevotesNew_57 rfl (lv_at hl 1 rfl) ?_
                refine z_get F hK hZ (8 + 8 * j) (dC_s (by omega)) (shp_seat j hj) (by decide) rfl hin6 10 (by decide) mX5_prevotesNew_164 rfl rfl dX5_prevotesNew_58 ?_
                refine z_get F hK hZ (8 + 8 * j + 1) (dC_s (by omega)) (shp_lock j hj) (by decide) rfl hin3 0 (by decide) mX5_prevotesNew_81 rfl rfl dX5_prevotesNew_61 ?_
                have r_7 := hZ.2.1.1 (8 + 8 * j + 1) (0)
                refine z_aload_n F dX5_prevotesNew_64 rfl (lv_at hl 2 rfl) ?_
                refine z_get F hK hZ (71 + q) (dC_l (by omega)) (shp_let q) (by decide) rfl hin2 4 (by decide) mX5_prevotesNew_123 rfl rfl dX5_prevotesNew_65 ?_
                have r_8 := hZ.2.1.1 (71 + q) (4)
                refine z_topI (show G (71 + q) 4 = X 69 (6 * (q : Int) + 4) from e4) ?_
                refine z_icmp_ne (tgt := 75) F (by omega) (by omega) dX5_prevotesNew_68 (by decide) (fun c_68 => ?_) (fun c_68 => ?_)
                · skip
                  refine z_iconst F dX5_prevotesNew_75 ?_
                  refine z_istore_n (lv' := [(3, .int (zI (0))), (0, .ref (w.2.1 + (6))), (1, .ref (w.2.1 + (8 + 8 * j))), (2, .ref (w.2.1 + (71 + q)))]) F dX5_prevotesNew_76 rfl hl (by decide) rfl (fun ls hl => ?_)
                  refine z_aload_n F dX5_prevotesNew_77 rfl (lv_at hl 1 rfl) ?_
                  refine z_aload_n F dX5_prevotesNew_78 rfl (lv_at hl 2 rfl) ?_
                  refine z_iconst F dX5_prevotesNew_79 ?_
                  refine z_iload_n F dX5_prevotesNew_80 rfl (lv_at hl 0 rfl) ?_
                  refine z_if_eq (tgt := 105) F (by omega) dX5_prevotesNew_81 (by decide) (fun c_81 => ?_) (fun c_81 => ?_)
                  · skip
                    refine z_iconst F dX5_prevotesNew_105 ?_
                    have hso : prevN X j = some (castsM X j 1 (-1)) := prevN_t (by omega) (by rw [← h26_2, fstB_skip (L := (X 64 7).toNat) hq1 (by omega) (fun y a b c => hq4 y a b (newP_slot c)), fstB_t (by omega) ((newP_iff hI hq2 (by omega) (by omega) hq3).mpr ⟨c_36, by omega⟩)]) (by unfold newV; first | exact if_pos ⟨c_95, by omega⟩ | exact if_neg (fun z => c_95 z.1) | exact if_neg (fun z => by have z2 := z.2; omega))
                    have hst : ((prevN X j).getD X) = (castsM X j 1 (-1)) := by rw [hso]; rfl
                    have hue : mU mm (castsM X j 1 (-1)) = mU mm ((prevN X j).getD X) := by rw [hst]
                    have huC3 := mU_c mm (castsM X j 1 (-1))
                    refine z_backv hZ (va_runV (As := [.ref (w.2.1 + (8 + 8 * j)), .int (zI (1)), .int (zI (-1))]) (rest := []) F (k_X5_vote l w A hA mm G X hM hI j (by omega) (by omega) 1 (-1) (by omega) (by omega)) (cwV 3 F.2.2.2.2 gX5_prevotesNew_X5_vote rfl rfl rfl (by decide +kernel) ⟨Nat.le_of_ble_eq_true rfl, Nat.le_of_ble_eq_true rfl⟩) (z_preV hK hZ (6) (dC_s (by omega)) rfl (by decide) rfl _) rfl rfl hl.1 rfl (lv_room (Nat.le_of_ble_eq_true rfl)) dX5_prevotesNew_106 ⟨by show 0 + 0 + 0 + 0 + (mU mm (castsM X j 1 (-1)) - mm) ≤ (mU mm ((prevN X j).getD X) - mm); omega, by show 0 + 0 + 0 + 0 + (8 * (mU mm (castsM X j 1 (-1)) - mm)) ≤ (8 * (mU mm ((prevN X j).getD X) - mm)); omega⟩) (fun C3 H locs hC3 hZ => ?_)
                    refine z_iconst F dX5_prevotesNew_109 ?_
                    have hfin : Sim (C3) ((prevN X j).getD X) (mU mm ((prevN X j).getD X)) := by rw [hst]; exact hC3
                    rw [hue] at hZ
                    exact z_zret F hr hlocks hZ (by first | exact bI_0 (by rw [hno]; exact fun z => by cases z) | exact bI_1 (by rw [hso]; rfl)) (by omega) hfin dX5_prevotesNew_110 (by omega) (by omega)
                  · skip
                    exfalso; omega
                · skip
                  refine z_iconst F dX5_prevotesNew_71 ?_
                  refine lv_goto (tgt := 76) F.1 F.2.1 dX5_prevotesNew_72 (by decide) ?_
                  refine z_istore_n (lv' := [(3, .int (zI (1))), (0, .ref (w.2.1 + (6))), (1, .ref (w.2.1 + (8 + 8 * j))), (2, .ref (w.2.1 + (71 + q)))]) F dX5_prevotesNew_76 rfl hl (by decide) rfl (fun ls hl => ?_)
                  refine z_aload_n F dX5_prevotesNew_77 rfl (lv_at hl 1 rfl) ?_
                  refine z_aload_n F dX5_prevotesNew_78 rfl (lv_at hl 2 rfl) ?_
                  refine z_iconst F dX5_prevotesNew_79 ?_
                  refine z_iload_n F dX5_prevotesNew_80 rfl (lv_at hl 0 rfl) ?_
                  refine z_if_eq (tgt := 105) F (by omega) dX5_prevotesNew_81 (by decide) (fun c_81 => ?_) (fun c_81 => ?_)
                  · skip
                    exfalso; omega
                  · skip
                    refine z_aload_n F dX5_prevotesNew_84 rfl (lv_at hl 2 rfl) ?_
                    refine z_get F hK hZ (8 + 8 * j) (dC_s (by omega)) (shp_seat j hj) (by decide) rfl hin6 12 (by decide) mX5_prevotesNew_167 rfl rfl dX5_prevotesNew_85 ?_
                    refine z_aload_n F dX5_prevotesNew_88 rfl (lv_at hl 3 rfl) ?_
                    refine z_get F hK hZ (71 + q) (dC_l (by omega)) (shp_let q) (by decide) rfl hin2 4 (by decide) mX5_prevotesNew_123 rfl rfl dX5_prevotesNew_89 ?_
                    have r_9 := hZ.2.1.1 (71 + q) (4)
                    refine z_topI (show G (71 + q) 4 = X 69 (6 * (q : Int) + 4) from e4) ?_
                    refine z_bxi hZ (va_runV (As := [.int (zI (X 69 (6 * (q : Int) + 4)))]) (rest := [.int (zI (1)), .ref (w.2.1 + (8 + 8 * j)), .ref (w.2.1 + (6))]) F (k_X0_isRight l w (dC mm) A (dC_A hA) (w.2.1 + (71 + mm)) G (fun i h => dC_s h) j hj (X 69 (6 * (q : Int) + 4)) (by omega)) (cwV 1 F.2.2.2.2 gX5_prevotesNew_X0_isRight rfl rfl rfl (by decide +kernel) ⟨Nat.le_of_ble_eq_true rfl, Nat.le_of_ble_eq_true rfl⟩) (z_preV hK hZ (8 + 8 * j + 3) (dC_s (by omega)) (shp_chain j hj) (by decide) rfl _) rfl rfl hl.1 rfl (lv_room (Nat.le_of_ble_eq_true rfl)) dX5_prevotesNew_92 ⟨by show 0 + 0 + 0 + 0 + (0) ≤ (mU mm ((prevN X j).getD X) - mm); omega, by show 0 + 0 + 0 + 0 + (0) ≤ (8 * (mU mm ((prevN X j).getD X) - mm)); omega⟩) (fun H locs hZ => ?_)
                    refine z_topI (show bI (isRC (G (8 + 8 * j + 4)) (X 69 (6 * (q : Int) + 4)) = true) = bI (isR X j (X 69 (6 * (q : Int) + 4)) = true) from by rw [isR_eq hM hj (by omega)]) ?_
                    refine z_ifB_eq (tgt := 105) F dX5_prevotesNew_95 (by decide) (fun c_95 => ?_) (fun c_95 => ?_)
                    · skip
                      refine z_iconst F dX5_prevotesNew_105 ?_
                      have hso : prevN X j = some (castsM X j 1 (-1)) := prevN_t (by omega) (by rw [← h26_2, fstB_skip (L := (X 64 7).toNat) hq1 (by omega) (fun y a b c => hq4 y a b (newP_slot c)), fstB_t (by omega) ((newP_iff hI hq2 (by omega) (by omega) hq3).mpr ⟨c_36, by omega⟩)]) (by unfold newV; first | exact if_pos ⟨c_95, by omega⟩ | exact if_neg (fun z => c_95 z.1) | exact if_neg (fun z => by have z2 := z.2; omega))
                      have hst : ((prevN X j).getD X) = (castsM X j 1 (-1)) := by rw [hso]; rfl
                      have hue : mU mm (castsM X j 1 (-1)) = mU mm ((prevN X j).getD X) := by rw [hst]
                      have huC4 := mU_c mm (castsM X j 1 (-1))
                      refine z_backv hZ (va_runV (As := [.ref (w.2.1 + (8 + 8 * j)), .int (zI (1)), .int (zI (-1))]) (rest := []) F (k_X5_vote l w A hA mm G X hM hI j (by omega) (by omega) 1 (-1) (by omega) (by omega)) (cwV 3 F.2.2.2.2 gX5_prevotesNew_X5_vote rfl rfl rfl (by decide +kernel) ⟨Nat.le_of_ble_eq_true rfl, Nat.le_of_ble_eq_true rfl⟩) (z_preV hK hZ (6) (dC_s (by omega)) rfl (by decide) rfl _) rfl rfl hl.1 rfl (lv_room (Nat.le_of_ble_eq_true rfl)) dX5_prevotesNew_106 ⟨by show 0 + 0 + 0 + 0 + 0 + (mU mm (castsM X j 1 (-1)) - mm) ≤ (mU mm ((prevN X j).getD X) - mm); omega, by show 0 + 0 + 0 + 0 + 0 + (8 * (mU mm (castsM X j 1 (-1)) - mm)) ≤ (8 * (mU mm ((prevN X j).getD X) - mm)); omega⟩) (fun C4 H locs hC4 hZ => ?_)
                      refine z_iconst F dX5_prevotesNew_109 ?_
                      have hfin : Sim (C4) ((prevN X j).getD X) (mU mm ((prevN X j).getD X)) := by rw [hst]; exact hC4
                      rw [hue] at hZ
                      exact z_zret F hr hlocks hZ (by first | exact bI_0 (by rw [hno]; exact fun z => by cases z) | exact bI_1 (by rw [hso]; rfl)) (by omega) hfin dX5_prevotesNew_110 (by omega) (by omega)
                    · skip
                      refine z_aload_n F dX5_prevotesNew_98 rfl (lv_at hl 3 rfl) ?_
                      refine z_get F hK hZ (71 + q) (dC_l (by omega)) (shp_let q) (by decide) rfl hin2 4 (by decide) mX5_prevotesNew_123 rfl rfl dX5_prevotesNew_99 ?_
                      have r_10 := hZ.2.1.1 (71 + q) (4)
                      refine z_topI (show G (71 + q) 4 = X 69 (6 * (q : Int) + 4) from e4) ?_
                      refine lv_goto (tgt := 106) F.1 F.2.1 dX5_prevotesNew_102 (by decide) ?_
                      have hso : prevN X j = some (castsM X j 1 (X 69 (6 * (q : Int) + 4))) := prevN_t (by omega) (by rw [← h26_2, fstB_skip (L := (X 64 7).toNat) hq1 (by omega) (fun y a b c => hq4 y a b (newP_slot c)), fstB_t (by omega) ((newP_iff hI hq2 (by omega) (by omega) hq3).mpr ⟨c_36, by omega⟩)]) (by unfold newV; first | exact if_pos ⟨c_95, by omega⟩ | exact if_neg (fun z => c_95 z.1) | exact if_neg (fun z => by have z2 := z.2; omega))
                      have hst : ((prevN X j).getD X) = (castsM X j 1 (X 69 (6 * (q : Int) + 4))) := by rw [hso]; rfl
                      have hue : mU mm (castsM X j 1 (X 69 (6 * (q : Int) + 4))) = mU mm ((prevN X j).getD X) := by rw [hst]
                      have huC5 := mU_c mm (castsM X j 1 (X 69 (6 * (q : Int) + 4)))
                      refine z_backv hZ (va_runV (As := [.ref (w.2.1 + (8 + 8 * j)), .int (zI (1)), .int (zI (X 69 (6 * (q : Int) + 4)))]) (rest := []) F (k_X5_vote l w A hA mm G X hM hI j (by omega) (by omega) 1 (X 69 (6 * (q : Int) + 4)) (by omega) (by omega)) (cwV 3 F.2.2.2.2 gX5_prevotesNew_X5_vote rfl rfl rfl (by decide +kernel) ⟨Nat.le_of_ble_eq_true rfl, Nat.le_of_ble_eq_true rfl⟩) (z_preV hK hZ (6) (dC_s (by omega)) rfl (by decide) rfl _) rfl rfl hl.1 rfl (lv_room (Nat.le_of_ble_eq_true rfl)) dX5_prevotesNew_106 ⟨by show 0 + 0 + 0 + 0 + 0 + (mU mm (castsM X j 1 (X 69 (6 * (q : Int) + 4))) - mm) ≤ (mU mm ((prevN X j).getD X) - mm); omega, by show 0 + 0 + 0 + 0 + 0 + (8 * (mU mm (castsM X j 1 (X 69 (6 * (q : Int) + 4))) - mm)) ≤ (8 * (mU mm ((prevN X j).getD X) - mm)); omega⟩) (fun C5 H locs hC5 hZ => ?_)
                      refine z_iconst F dX5_prevotesNew_109 ?_
                      have hfin : Sim (C5) ((prevN X j).getD X) (mU mm ((prevN X j).getD X)) := by rw [hst]; exact hC5
                      rw [hue] at hZ
                      exact z_zret F hr hlocks hZ (by first | exact bI_0 (by rw [hno]; exact fun z => by cases z) | exact bI_1 (by rw [hso]; rfl)) (by omega) hfin dX5_prevotesNew_110 (by omega) (by omega)
    exact L_26 ((X 64 7).toNat + 1) 0 (by omega) (by omega) rfl _ _ _ hZ (lv_sub hl [1, 2, 0] rfl)
  · skip
    refine z_iconst F dX5_prevotesNew_7 ?_
    have hno : prevN X j = none := prevN_s c_4
    have hst : ((prevN X j).getD X) = X := by rw [hno]; rfl
    have hue : mm = mU mm ((prevN X j).getD X) := by rw [hst, mU_self (by omega)]
    have hfin : Sim (G) ((prevN X j).getD X) (mU mm ((prevN X j).getD X)) := by rw [← hue, hst]; exact hM
    rw [hue] at hZ
    exact z_zret F hr hlocks hZ (by first | exact bI_0 (by rw [hno]; exact fun z => by cases z) | exact bI_1 (by rw [hso]; rfl)) (by omega) hfin dX5_prevotesNew_8 (by omega) (by omega)

theorem mX5_prevotesOld_15 : Cond.fieldLink RX5 15 "LockedChain$Rules" "post" "LLockedChain$Post;" ∈ wsX5_prevotesOld := by decide +kernel
theorem mX5_prevotesOld_25 : Cond.fieldLink RX5 25 "LockedChain$Seat" "step" "I" ∈ wsX5_prevotesOld := by decide +kernel
theorem mX5_prevotesOld_33 : Cond.fieldLink RX5 33 "LockedChain$Seat" "round" "I" ∈ wsX5_prevotesOld := by decide +kernel
theorem mX5_prevotesOld_48 : Cond.fieldLink RX5 48 "LockedChain$Seat" "height" "I" ∈ wsX5_prevotesOld := by decide +kernel
theorem mX5_prevotesOld_81 : Cond.fieldLink RX5 81 "LockedChain$Mark" "value" "I" ∈ wsX5_prevotesOld := by decide +kernel
theorem mX5_prevotesOld_84 : Cond.fieldLink RX5 84 "LockedChain$Mark" "round" "I" ∈ wsX5_prevotesOld := by decide +kernel
theorem mX5_prevotesOld_123 : Cond.fieldLink RX5 123 "LockedChain$Letter" "value" "I" ∈ wsX5_prevotesOld := by decide +kernel
theorem mX5_prevotesOld_153 : Cond.fieldLink RX5 153 "LockedChain$Letter" "next" "LLockedChain$Letter;" ∈ wsX5_prevotesOld := by decide +kernel
theorem mX5_prevotesOld_161 : Cond.fieldLink RX5 161 "LockedChain$Letter" "vr" "I" ∈ wsX5_prevotesOld := by decide +kernel
theorem mX5_prevotesOld_164 : Cond.fieldLink RX5 164 "LockedChain$Seat" "locked" "LLockedChain$Mark;" ∈ wsX5_prevotesOld := by decide +kernel
theorem mX5_prevotesOld_167 : Cond.fieldLink RX5 167 "LockedChain$Seat" "chain" "LLockedChain$Chain;" ∈ wsX5_prevotesOld := by decide +kernel
set_option maxHeartbeats 4000000 in
set_option maxRecDepth 100000 in
theorem k_X5_prevotesOld (l : Launch) (w : zW) (A : Nat → Prop) (hA : ∀ i, i < 64 ∨ 71 ≤ i → A (w.2.1 + i)) (mm : Nat) (G X : zM) (hM : Sim G X mm) (hI : Inv X) (j : Nat) (hj0 : (j : Int) < X 64 0) (hh : X 67 (20 * (j : Int) + 0) ≤ 5) : Met l yX5_prevotesOld wsX5_prevotesOld { frames := 5, cells := (mU mm ((prevO X j).getD X) - mm), slots := (8 * (mU mm ((prevO X j).getD X) - mm)), locals := 108 } (zPre w (dC mm) (w.2.1 + (71 + mm)) G [.ref (w.2.1 + (6)), .ref (w.2.1 + (8 + 8 * j))]) (zQi w (dC (mU mm ((prevO X j).getD X))) (w.2.1 + (71 + mU mm ((prevO X j).getD X))) (bI ((prevO X j).isSome = true)) (fun C => Sim C ((prevO X j).getD X) (mU mm ((prevO X j).getD X))) A) ((mU mm ((prevO X j).getD X) - mm)) ((8 * (mU mm ((prevO X j).getD X) - mm))) A := by
  refine Met.ofW (cc := cX5_prevotesOld) (maxL := 5) (ret := (some .boolean)) (by decide) rfl ?_
  intro p e s m args below meth c s₁ B hml hv
  obtain ⟨rfl, hsz, hP, hK⟩ := hv
  have F : CallFix p m c cX5_prevotesOld 5 s _ wsX5_prevotesOld RX5 := ⟨B.exec, B.bytes, hml, findClass_of_methodNamed B.named, atoms_spec (ws := wsX5_prevotesOld) B.pre⟩
  have hr := B.returns
  have hlocks := B.notSynchronized
  have hZ : Zs w (dC mm) A s.heap (w.2.1 + (71 + mm)) G s.heap [] := ⟨hsz, hP, va_S.rf⟩
  have hl := lv_entry ([.ref (w.2.1 + (6)), .ref (w.2.1 + (8 + 8 * j))]) (n := 5) (Nat.le_of_ble_eq_true rfl)
  rw [lg_entry_eq]
  generalize (lg_sl ([.ref (w.2.1 + (6)), .ref (w.2.1 + (8 + 8 * j))]) ++ List.replicate (5 - (lg_sl ([.ref (w.2.1 + (6)), .ref (w.2.1 + (8 + 8 * j))])).length) Slot.unset).toArray = ls at hl ⊢
  have hl : lv_has ls 5 [(0, .ref (w.2.1 + (6))), (1, .ref (w.2.1 + (8 + 8 * j)))] := hl
  have hin2 : ∀ v ∈ u_ws RX2 TX2 8, v ∈ wsX5_prevotesOld := by decide +kernel
  have hin3 : ∀ v ∈ u_ws RX3 TX3 2, v ∈ wsX5_prevotesOld := by decide +kernel
  have hin5 : ∀ v ∈ u_ws RX5 TX5 2, v ∈ wsX5_prevotesOld := by decide +kernel
  have hin6 : ∀ v ∈ u_ws RX6 TX6 15, v ∈ wsX5_prevotesOld := by decide +kernel
  have hn := hI.1
  have hLL := hI.2.2.2.1
  have hj : j < 7 := by omega
  have hS : PostS G X mm := hM.1
  obtain ⟨hS1, hS2, hS3, hS4, hS5⟩ := hM.1
  have hC0 := hM.2.1
  have sf := Sim_f hM hj
  have sr := seat_rng hI (s := (j : Int)) (by omega)
  have hu := mU_c mm ((prevO X j).getD X)
  have lk := Sim_lk hM hj
  refine z_aload_n F dX5_prevotesOld_0 rfl (lv_at hl 1 rfl) ?_
  refine z_get F hK hZ (8 + 8 * j) (dC_s (by omega)) (shp_seat j hj) (by decide) rfl hin6 4 (by decide) mX5_prevotesOld_25 rfl rfl dX5_prevotesOld_1 ?_
  have r_1 := hZ.2.1.1 (8 + 8 * j) (4)
  refine z_topI (show G (8 + 8 * j) 4 = X 67 (20 * (j : Int) + 2) from sf.2.2.2.2.1) ?_
  refine z_if_eq (tgt := 9) F (by omega) dX5_prevotesOld_4 (by decide) (fun c_4 => ?_) (fun c_4 => ?_)
  · skip
    refine z_aload_n F dX5_prevotesOld_9 rfl (lv_at hl 0 rfl) ?_
    refine z_get F hK hZ (6) (dC_s (by omega)) rfl (by decide) rfl hin5 1 (by decide) mX5_prevotesOld_15 rfl rfl dX5_prevotesOld_10 ?_
    refine z_iconst F dX5_prevotesOld_13 ?_
    refine z_aload_n F dX5_prevotesOld_14 rfl (lv_at hl 1 rfl) ?_
    refine z_get F hK hZ (8 + 8 * j) (dC_s (by omega)) (shp_seat j hj) (by decide) rfl hin6 2 (by decide) mX5_prevotesOld_48 rfl rfl dX5_prevotesOld_15 ?_
    have r_2 := hZ.2.1.1 (8 + 8 * j) (2)
    refine z_topI (show G (8 + 8 * j) 2 = X 67 (20 * (j : Int) + 0) from sf.2.2.1) ?_
    refine z_aload_n F dX5_prevotesOld_18 rfl (lv_at hl 1 rfl) ?_
    refine z_get F hK hZ (8 + 8 * j) (dC_s (by omega)) (shp_seat j hj) (by decide) rfl hin6 3 (by decide) mX5_prevotesOld_33 rfl rfl dX5_prevotesOld_19 ?_
    have r_3 := hZ.2.1.1 (8 + 8 * j) (3)
    refine z_topI (show G (8 + 8 * j) 3 = X 67 (20 * (j : Int) + 1) from sf.2.2.2.1) ?_
    refine z_bxr hZ (va_runV (As := [.int (zI (0)), .int (zI (X 67 (20 * (j : Int) + 0))), .int (zI (X 67 (20 * (j : Int) + 1)))]) (rest := []) F (k_X4_first l w (dC mm) A (dC_A hA) (w.2.1 + (71 + mm)) G (fun i h => dC_s h) 0 (X 67 (20 * (j : Int) + 0)) (X 67 (20 * (j : Int) + 1)) (by omega) (by omega) (by omega)) (cwV 3 F.2.2.2.2 gX5_prevotesOld_X4_first rfl rfl rfl (by decide +kernel) ⟨Nat.le_of_ble_eq_true rfl, Nat.le_of_ble_eq_true rfl⟩) (z_preV hK hZ (2) (dC_s (by omega)) rfl (by decide) rfl _) rfl rfl hl.1 rfl (lv_room (Nat.le_of_ble_eq_true rfl)) dX5_prevotesOld_22 ⟨by show 0 + (0) ≤ (mU mm ((prevO X j).getD X) - mm); omega, by show 0 + (0) ≤ (8 * (mU mm ((prevO X j).getD X) - mm)); omega⟩) (fun H locs hZ => ?_)
    rw [show G 4 ((0 * 6 + (X 67 (20 * (j : Int) + 0))) * 10 + (X 67 (20 * (j : Int) + 1))) = nx X ((0 * 6 + X 67 (20 * (j : Int) + 0)) * 10 + (X 67 (20 * (j : Int) + 1))) 0 from (hS4 _ (by omega) (by omega)).1]
    refine z_vstore_n (lv' := [(2, zV w (nx X ((0 * 6 + X 67 (20 * (j : Int) + 0)) * 10 + (X 67 (20 * (j : Int) + 1))) 0)), (0, .ref (w.2.1 + (6))), (1, .ref (w.2.1 + (8 + 8 * j)))]) F dX5_prevotesOld_25 rfl hl (by decide) (by unfold zV; (repeat' split) <;> rfl) (fun ls hl => ?_)
    have L_26 : ∀ (nf : Nat) (i : Nat), ((X 64 7).toNat + 1 ≤ i + nf) → (i ≤ (X 64 7).toNat) → (fstB (oldP X j) ((X 64 7).toNat - i) i = fstB (oldP X j) (X 64 7).toNat 0) →  ∀ (H : Heap) (locs : List Loc) (ls : Array Slot), Zs w (dC mm) A s.heap (w.2.1 + (71 + mm)) G H locs → lv_has ls 5 [(0, .ref (w.2.1 + (6))), (1, .ref (w.2.1 + (8 + 8 * j))), (2, zV w (nx X ((0 * 6 + X 67 (20 * (j : Int) + 0)) * 10 + X 67 (20 * (j : Int) + 1)) i))] → W p l e (headSpec wsX5_prevotesOld { frames := 5, cells := (mU mm ((prevO X j).getD X) - mm), slots := (8 * (mU mm ((prevO X j).getD X) - mm)), locals := 108 }).room s m ([.ref (w.2.1 + (6)), .ref (w.2.1 + (8 + 8 * j))] : List Value).toArray below meth c H locs (0 + 0) (0 + 0) (MQ below (zQi w (dC (mU mm ((prevO X j).getD X))) (w.2.1 + (71 + mU mm ((prevO X j).getD X))) (bI ((prevO X j).isSome = true)) (fun C => Sim C ((prevO X j).getD X) (mU mm ((prevO X j).getD X))) A) ([.ref (w.2.1 + (6)), .ref (w.2.1 + (8 + 8 * j))] : List Value).toArray s ((mU mm ((prevO X j).getD X) - mm)) ((8 * (mU mm ((prevO X j).getD X) - mm))) A) (F0 m 26 ls []) := by
      intro nf
      induction nf with
      | zero => intro i  h26_0 h26_1 h26_2; exact absurd h26_0 (by omega)
      | succ nf ih_26 =>
        intro i  h26_0 h26_1 h26_2 H locs ls hZ hl
        refine z_vload_n (w := w) F dX5_prevotesOld_26 rfl (lv_at hl 2 rfl) ?_
        refine z_ifnull (tgt := 173) F dX5_prevotesOld_27 (by decide) (fun c_27 => ?_) (fun c_27 => ?_)
        · skip
          have hnf : fstB (oldP X j) (X 64 7).toNat 0 = none := by rw [← h26_2, fstB_skip (L := (X 64 7).toNat) (q := (X 64 7).toNat) (by omega) (by omega) (fun y a b c => nx_neg c_27 y a (by omega) (oldP_slot c)), Nat.sub_self]; rfl
          refine z_iconst F dX5_prevotesOld_173 ?_
          have hno : prevO X j = none := prevO_n (by omega) hnf
          have hst : ((prevO X j).getD X) = X := by rw [hno]; rfl
          have hue : mm = mU mm ((prevO X j).getD X) := by rw [hst, mU_self (by omega)]
          have hfin : Sim (G) ((prevO X j).getD X) (mU mm ((prevO X j).getD X)) := by rw [← hue, hst]; exact hM
          rw [hue] at hZ
          exact z_zret F hr hlocks hZ (by first | exact bI_0 (by rw [hno]; exact fun z => by cases z) | exact bI_1 (by rw [hso]; rfl)) (by omega) hfin dX5_prevotesOld_174 (by omega) (by omega)
        · skip
          obtain ⟨q, hq, hq1, hq2, hq3, hq4⟩ := nx_pos (X := X) (k := (0 * 6 + X 67 (20 * (j : Int) + 0)) * 10 + X 67 (20 * (j : Int) + 1)) (i := i) (by assumption)
          rw [hq, zV_nat] at hl
          obtain ⟨⟨e0, e1, e2, e3, e4, e5⟩, e6, e7⟩ := hS5 q hq2
          have hqr := let_rng hI (l := (q : Int)) ⟨by omega, hq2⟩
          have hqs := (slotL_eq hI hq2 (kd := 0) (h' := X 67 (20 * (j : Int) + 0)) (r := X 67 (20 * (j : Int) + 1)) (by omega) (by omega) (by omega)).mp hq3
          have hv0 := (hI.2.2.2.2.2.1 (q : Int) (by omega) hq2).1.2.2.2.2.2.1 hqs.1
          refine z_aload_n F dX5_prevotesOld_30 rfl (lv_at hl 2 rfl) ?_
          refine z_get F hK hZ (71 + q) (dC_l (by omega)) (shp_let q) (by decide) rfl hin2 5 (by decide) mX5_prevotesOld_161 rfl rfl dX5_prevotesOld_31 ?_
          have r_4 := hZ.2.1.1 (71 + q) (5)
          refine z_topI (show G (71 + q) 5 = X 69 (6 * (q : Int) + 5) from e5) ?_
          refine z_iconst F dX5_prevotesOld_34 ?_
          refine z_icmp_eq (tgt := 53) F (by omega) (by omega) dX5_prevotesOld_35 (by decide) (fun c_35 => ?_) (fun c_35 => ?_)
          · skip
            refine z_iconst F dX5_prevotesOld_53 ?_
            refine z_istore_n (lv' := [(3, .int (zI (0))), (0, .ref (w.2.1 + (6))), (1, .ref (w.2.1 + (8 + 8 * j))), (2, .ref (w.2.1 + (71 + q)))]) F dX5_prevotesOld_54 rfl hl (by decide) rfl (fun ls hl => ?_)
            refine z_iload_n F dX5_prevotesOld_55 rfl (lv_at hl 0 rfl) ?_
            refine z_if_eq (tgt := 165) F (by omega) dX5_prevotesOld_56 (by decide) (fun c_56 => ?_) (fun c_56 => ?_)
            · skip
              refine z_aload_n F dX5_prevotesOld_165 rfl (lv_at hl 3 rfl) ?_
              refine z_get F hK hZ (71 + q) (dC_l (by omega)) (shp_let q) (by decide) rfl hin2 7 (by decide) mX5_prevotesOld_153 rfl rfl dX5_prevotesOld_166 ?_
              rw [show G (71 + q) 7 = nx X ((0 * 6 + X 67 (20 * (j : Int) + 0)) * 10 + X 67 (20 * (j : Int) + 1)) (q + 1) from by rw [e7, hq3]]
              refine z_vstore_n (lv' := [(2, zV w (nx X ((0 * 6 + X 67 (20 * (j : Int) + 0)) * 10 + X 67 (20 * (j : Int) + 1)) (q + 1))), (3, .int (zI (0))), (0, .ref (w.2.1 + (6))), (1, .ref (w.2.1 + (8 + 8 * j)))]) F dX5_prevotesOld_169 rfl hl (by decide) (by unfold zV; (repeat' split) <;> rfl) (fun ls hl => ?_)
              refine lv_goto (tgt := 26) F.1 F.2.1 dX5_prevotesOld_170 (by decide) ?_
              exact ih_26 (q + 1) (by omega) (by omega) (by rw [← h26_2, fstB_skip (L := (X 64 7).toNat) hq1 (by omega) (fun y a b c => hq4 y a b (oldP_slot c)), fstB_f (k := (X 64 7).toNat - q) (i := q) (by omega) (fun z => by have y := (oldP_iff hI hq2 (by omega) (by omega) hq3).mp z; first | exact c_65 y.2.1 | exact c_82 y.2.2 | (have y2 := y.1; omega)), Nat.sub_sub]) _ _ _ hZ (lv_sub hl [2, 3, 0] rfl)
            · skip
              exfalso; omega
          · skip
            refine z_aload_n F dX5_prevotesOld_38 rfl (lv_at hl 2 rfl) ?_
            refine z_get F hK hZ (71 + q) (dC_l (by omega)) (shp_let q) (by decide) rfl hin2 5 (by decide) mX5_prevotesOld_161 rfl rfl dX5_prevotesOld_39 ?_
            have r_5 := hZ.2.1.1 (71 + q) (5)
            refine z_topI (show G (71 + q) 5 = X 69 (6 * (q : Int) + 5) from e5) ?_
            refine z_aload_n F dX5_prevotesOld_42 rfl (lv_at hl 1 rfl) ?_
            refine z_get F hK hZ (8 + 8 * j) (dC_s (by omega)) (shp_seat j hj) (by decide) rfl hin6 3 (by decide) mX5_prevotesOld_33 rfl rfl dX5_prevotesOld_43 ?_
            have r_6 := hZ.2.1.1 (8 + 8 * j) (3)
            refine z_topI (show G (8 + 8 * j) 3 = X 67 (20 * (j : Int) + 1) from sf.2.2.2.1) ?_
            refine z_icmp_ge (tgt := 53) F (by omega) (by omega) dX5_prevotesOld_46 (by decide) (fun c_46 => ?_) (fun c_46 => ?_)
            · skip
              refine z_iconst F dX5_prevotesOld_53 ?_
              refine z_istore_n (lv' := [(3, .int (zI (0))), (0, .ref (w.2.1 + (6))), (1, .ref (w.2.1 + (8 + 8 * j))), (2, .ref (w.2.1 + (71 + q)))]) F dX5_prevotesOld_54 rfl hl (by decide) rfl (fun ls hl => ?_)
              refine z_iload_n F dX5_prevotesOld_55 rfl (lv_at hl 0 rfl) ?_
              refine z_if_eq (tgt := 165) F (by omega) dX5_prevotesOld_56 (by decide) (fun c_56 => ?_) (fun c_56 => ?_)
              · skip
                refine z_aload_n F dX5_prevotesOld_165 rfl (lv_at hl 3 rfl) ?_
                refine z_get F hK hZ (71 + q) (dC_l (by omega)) (shp_let q) (by decide) rfl hin2 7 (by decide) mX5_prevotesOld_153 rfl rfl dX5_prevotesOld_166 ?_
                rw [show G (71 + q) 7 = nx X ((0 * 6 + X 67 (20 * (j : Int) + 0)) * 10 + X 67 (20 * (j : Int) + 1)) (q + 1) from by rw [e7, hq3]]
                refine z_vstore_n (lv' := [(2, zV w (nx X ((0 * 6 + X 67 (20 * (j : Int) + 0)) * 10 + X 67 (20 * (j : Int) + 1)) (q + 1))), (3, .int (zI (0))), (0, .ref (w.2.1 + (6))), (1, .ref (w.2.1 + (8 + 8 * j)))]) F dX5_prevotesOld_169 rfl hl (by decide) (by unfold zV; (repeat' split) <;> rfl) (fun ls hl => ?_)
                refine lv_goto (tgt := 26) F.1 F.2.1 dX5_prevotesOld_170 (by decide) ?_
                exact ih_26 (q + 1) (by omega) (by omega) (by rw [← h26_2, fstB_skip (L := (X 64 7).toNat) hq1 (by omega) (fun y a b c => hq4 y a b (oldP_slot c)), fstB_f (k := (X 64 7).toNat - q) (i := q) (by omega) (fun z => by have y := (oldP_iff hI hq2 (by omega) (by omega) hq3).mp z; first | exact c_65 y.2.1 | exact c_82 y.2.2 | (have y2 := y.1; omega)), Nat.sub_sub]) _ _ _ hZ (lv_sub hl [2, 3, 0] rfl)
              · skip
                exfalso; omega
            · skip
              refine z_iconst F dX5_prevotesOld_49 ?_
              refine lv_goto (tgt := 54) F.1 F.2.1 dX5_prevotesOld_50 (by decide) ?_
              refine z_istore_n (lv' := [(3, .int (zI (1))), (0, .ref (w.2.1 + (6))), (1, .ref (w.2.1 + (8 + 8 * j))), (2, .ref (w.2.1 + (71 + q)))]) F dX5_prevotesOld_54 rfl hl (by decide) rfl (fun ls hl => ?_)
              refine z_iload_n F dX5_prevotesOld_55 rfl (lv_at hl 0 rfl) ?_
              refine z_if_eq (tgt := 165) F (by omega) dX5_prevotesOld_56 (by decide) (fun c_56 => ?_) (fun c_56 => ?_)
              · skip
                exfalso; omega
              · skip
                refine z_aload_n F dX5_prevotesOld_59 rfl (lv_at hl 1 rfl) ?_
                refine z_aload_n F dX5_prevotesOld_60 rfl (lv_at hl 2 rfl) ?_
                refine z_aload_n F dX5_prevotesOld_61 rfl (lv_at hl 3 rfl) ?_
                refine z_bxi hZ (va_runV (As := [.ref (w.2.1 + (8 + 8 * j)), .ref (w.2.1 + (71 + q))]) (rest := []) F (k_X5_counts l w (dC mm) A (dC_A hA) (w.2.1 + (71 + mm)) G X mm (fun i h => dC_s h) (fun i h => dC_l h) hM hI j hj0 q (by omega)) (cwV 2 F.2.2.2.2 gX5_prevotesOld_X5_counts rfl rfl rfl (by decide +kernel) ⟨Nat.le_of_ble_eq_true rfl, Nat.le_of_ble_eq_true rfl⟩) (z_preV hK hZ (6) (dC_s (by omega)) rfl (by decide) rfl _) rfl rfl hl.1 rfl (lv_room (Nat.le_of_ble_eq_true rfl)) dX5_prevotesOld_62 ⟨by show 0 + 0 + (0) ≤ (mU mm ((prevO X j).getD X) - mm); omega, by show 0 + 0 + (0) ≤ (8 * (mU mm ((prevO X j).getD X) - mm)); omega⟩) (fun H locs hZ => ?_)
                refine z_ifB_eq (tgt := 165) F dX5_prevotesOld_65 (by decide) (fun c_65 => ?_) (fun c_65 => ?_)
                · skip
                  refine z_aload_n F dX5_prevotesOld_165 rfl (lv_at hl 3 rfl) ?_
                  refine z_get F hK hZ (71 + q) (dC_l (by omega)) (shp_let q) (by decide) rfl hin2 7 (by decide) mX5_prevotesOld_153 rfl rfl dX5_prevotesOld_166 ?_
                  rw [show G (71 + q) 7 = nx X ((0 * 6 + X 67 (20 * (j : Int) + 0)) * 10 + X 67 (20 * (j : Int) + 1)) (q + 1) from by rw [e7, hq3]]
                  refine z_vstore_n (lv' := [(2, zV w (nx X ((0 * 6 + X 67 (20 * (j : Int) + 0)) * 10 + X 67 (20 * (j : Int) + 1)) (q + 1))), (3, .int (zI (1))), (0, .ref (w.2.1 + (6))), (1, .ref (w.2.1 + (8 + 8 * j)))]) F dX5_prevotesOld_169 rfl hl (by decide) (by unfold zV; (repeat' split) <;> rfl) (fun ls hl => ?_)
                  refine lv_goto (tgt := 26) F.1 F.2.1 dX5_prevotesOld_170 (by decide) ?_
                  exact ih_26 (q + 1) (by omega) (by omega) (by rw [← h26_2, fstB_skip (L := (X 64 7).toNat) hq1 (by omega) (fun y a b c => hq4 y a b (oldP_slot c)), fstB_f (k := (X 64 7).toNat - q) (i := q) (by omega) (fun z => by have y := (oldP_iff hI hq2 (by omega) (by omega) hq3).mp z; first | exact c_65 y.2.1 | exact c_82 y.2.2 | (have y2 := y.1; omega)), Nat.sub_sub]) _ _ _ hZ (lv_sub hl [2, 3, 0] rfl)
                · skip
                  refine z_aload_n F dX5_prevotesOld_68 rfl (lv_at hl 1 rfl) ?_
                  refine z_aload_n F dX5_prevotesOld_69 rfl (lv_at hl 2 rfl) ?_
                  refine z_iconst F dX5_prevotesOld_70 ?_
                  refine z_aload_n F dX5_prevotesOld_71 rfl (lv_at hl 3 rfl) ?_
                  refine z_get F hK hZ (71 + q) (dC_l (by omega)) (shp_let q) (by decide) rfl hin2 5 (by decide) mX5_prevotesOld_161 rfl rfl dX5_prevotesOld_72 ?_
                  have r_7 := hZ.2.1.1 (71 + q) (5)
                  refine z_topI (show G (71 + q) 5 = X 69 (6 * (q : Int) + 5) from e5) ?_
                  refine z_aload_n F dX5_prevotesOld_75 rfl (lv_at hl 3 rfl) ?_
                  refine z_get F hK hZ (71 + q) (dC_l (by omega)) (shp_let q) (by decide) rfl hin2 4 (by decide) mX5_prevotesOld_123 rfl rfl dX5_prevotesOld_76 ?_
                  have r_8 := hZ.2.1.1 (71 + q) (4)
                  refine z_topI (show G (71 + q) 4 = X 69 (6 * (q : Int) + 4) from e4) ?_
                  refine z_bxi hZ (va_runV (As := [.ref (w.2.1 + (8 + 8 * j)), .int (zI (1)), .int (zI (X 69 (6 * (q : Int) + 5))), .int (zI (X 69 (6 * (q : Int) + 4)))]) (rest := []) F (k_X5_hasMany l w (dC mm) A (dC_A hA) (w.2.1 + (71 + mm)) G X mm (fun i h => dC_s h) (fun i h => dC_l h) hM hI j hj0 (by omega) 1 (X 69 (6 * (q : Int) + 5)) (X 69 (6 * (q : Int) + 4)) (by omega) (by omega) (by omega)) (cwV 4 F.2.2.2.2 gX5_prevotesOld_X5_hasMany rfl rfl rfl (by decide +kernel) ⟨Nat.le_of_ble_eq_true rfl, Nat.le_of_ble_eq_true rfl⟩) (z_preV hK hZ (6) (dC_s (by omega)) rfl (by decide) rfl _) rfl rfl hl.1 rfl (lv_room (Nat.le_of_ble_eq_true rfl)) dX5_prevotesOld_79 ⟨by show 0 + 0 + 0 + (0) ≤ (mU mm ((prevO X j).getD X) - mm); omega, by show 0 + 0 + 0 + (0) ≤ (8 * (mU mm ((prevO X j).getD X) - mm)); omega⟩) (fun H locs hZ => ?_)
                  refine z_ifB_eq (tgt := 165) F dX5_prevotesOld_82 (by decide) (fun c_82 => ?_) (fun c_82 => ?_)
                  · skip
                    refine z_aload_n F dX5_prevotesOld_165 rfl (lv_at hl 3 rfl) ?_
                    refine z_get F hK hZ (71 + q) (dC_l (by omega)) (shp_let q) (by decide) rfl hin2 7 (by decide) mX5_prevotesOld_153 rfl rfl dX5_prevotesOld_166 ?_
                    rw [show G (71 + q) 7 = nx X ((0 * 6 + X 67 (20 * (j : Int) + 0)) * 10 + X 67 (20 * (j : Int) + 1)) (q + 1) from by rw [e7, hq3]]
                    refine z_vstore_n (lv' := [(2, zV w (nx X ((0 * 6 + X 67 (20 * (j : Int) + 0)) * 10 + X 67 (20 * (j : Int) + 1)) (q + 1))), (3, .int (zI (1))), (0, .ref (w.2.1 + (6))), (1, .ref (w.2.1 + (8 + 8 * j)))]) F dX5_prevotesOld_169 rfl hl (by decide) (by unfold zV; (repeat' split) <;> rfl) (fun ls hl => ?_)
                    refine lv_goto (tgt := 26) F.1 F.2.1 dX5_prevotesOld_170 (by decide) ?_
                    exact ih_26 (q + 1) (by omega) (by omega) (by rw [← h26_2, fstB_skip (L := (X 64 7).toNat) hq1 (by omega) (fun y a b c => hq4 y a b (oldP_slot c)), fstB_f (k := (X 64 7).toNat - q) (i := q) (by omega) (fun z => by have y := (oldP_iff hI hq2 (by omega) (by omega) hq3).mp z; first | exact c_65 y.2.1 | exact c_82 y.2.2 | (have y2 := y.1; omega)), Nat.sub_sub]) _ _ _ hZ (lv_sub hl [2, 3, 0] rfl)
                  · skip
                    refine z_aload_n F dX5_prevotesOld_85 rfl (lv_at hl 2 rfl) ?_
                    refine z_get F hK hZ (8 + 8 * j) (dC_s (by omega)) (shp_seat j hj) (by decide) rfl hin6 10 (by decide) mX5_prevotesOld_164 rfl rfl dX5_prevotesOld_86 ?_
                    refine z_bxi hZ (va_runV (As := []) (rest := []) F (k_X3_isNone l w (dC mm) A (dC_A hA) (w.2.1 + (71 + mm)) G (8 + 8 * j + 1) (dC_s (by omega)) (shp_lock j hj)) (cwV 0 F.2.2.2.2 gX5_prevotesOld_X3_isNone rfl rfl rfl (by decide +kernel) ⟨Nat.le_of_ble_eq_true rfl, Nat.le_of_ble_eq_true rfl⟩) (z_preV hK hZ (8 + 8 * j + 1) (dC_s (by omega)) (shp_lock j hj) (by decide) rfl _) rfl rfl hl.1 rfl (lv_room (Nat.le_of_ble_eq_true rfl)) dX5_prevotesOld_89 ⟨by show 0 + 0 + 0 + 0 + (0) ≤ (mU mm ((prevO X j).getD X) - mm); omega, by show 0 + 0 + 0 + 0 + (0) ≤ (8 * (mU mm ((prevO X j).getD X) - mm)); omega⟩) (fun H locs hZ => ?_)
                    refine z_ifB_ne (tgt := 123) F dX5_prevotesOld_92 (by decide) (fun c_92 => ?_) (fun c_92 => ?_)
                    · skip
                      refine z_iconst F dX5_prevotesOld_123 ?_
                      refine lv_goto (tgt := 128) F.1 F.2.1 dX5_prevotesOld_124 (by decide) ?_
                      refine z_istore (lv' := [(4, .int (zI (1))), (3, .int (zI (1))), (0, .ref (w.2.1 + (6))), (1, .ref (w.2.1 + (8 + 8 * j))), (2, .ref (w.2.1 + (71 + q)))]) F dX5_prevotesOld_128 hl (by decide) rfl (fun ls hl => ?_)
                      refine z_aload_n F dX5_prevotesOld_130 rfl (lv_at hl 2 rfl) ?_
                      refine z_aload_n F dX5_prevotesOld_131 rfl (lv_at hl 3 rfl) ?_
                      refine z_iconst F dX5_prevotesOld_132 ?_
                      refine z_iload F dX5_prevotesOld_133 (lv_at hl 0 rfl) ?_
                      refine z_if_eq (tgt := 159) F (by omega) dX5_prevotesOld_135 (by decide) (fun c_135 => ?_) (fun c_135 => ?_)
                      · skip
                        exfalso; omega
                      · skip
                        refine z_aload_n F dX5_prevotesOld_138 rfl (lv_at hl 3 rfl) ?_
                        refine z_get F hK hZ (8 + 8 * j) (dC_s (by omega)) (shp_seat j hj) (by decide) rfl hin6 12 (by decide) mX5_prevotesOld_167 rfl rfl dX5_prevotesOld_139 ?_
                        refine z_aload_n F dX5_prevotesOld_142 rfl (lv_at hl 4 rfl) ?_
                        refine z_get F hK hZ (71 + q) (dC_l (by omega)) (shp_let q) (by decide) rfl hin2 4 (by decide) mX5_prevotesOld_123 rfl rfl dX5_prevotesOld_143 ?_
                        have r_9 := hZ.2.1.1 (71 + q) (4)
                        refine z_topI (show G (71 + q) 4 = X 69 (6 * (q : Int) + 4) from e4) ?_
                        refine z_bxi hZ (va_runV (As := [.int (zI (X 69 (6 * (q : Int) + 4)))]) (rest := [.int (zI (1)), .ref (w.2.1 + (8 + 8 * j)), .ref (w.2.1 + (6))]) F (k_X0_isRight l w (dC mm) A (dC_A hA) (w.2.1 + (71 + mm)) G (fun i h => dC_s h) j hj (X 69 (6 * (q : Int) + 4)) (by omega)) (cwV 1 F.2.2.2.2 gX5_prevotesOld_X0_isRight rfl rfl rfl (by decide +kernel) ⟨Nat.le_of_ble_eq_true rfl, Nat.le_of_ble_eq_true rfl⟩) (z_preV hK hZ (8 + 8 * j + 3) (dC_s (by omega)) (shp_chain j hj) (by decide) rfl _) rfl rfl hl.1 rfl (lv_room (Nat.le_of_ble_eq_true rfl)) dX5_prevotesOld_146 ⟨by show 0 + 0 + 0 + 0 + 0 + (0) ≤ (mU mm ((prevO X j).getD X) - mm); omega, by show 0 + 0 + 0 + 0 + 0 + (0) ≤ (8 * (mU mm ((prevO X j).getD X) - mm)); omega⟩) (fun H locs hZ => ?_)
                        refine z_topI (show bI (isRC (G (8 + 8 * j + 4)) (X 69 (6 * (q : Int) + 4)) = true) = bI (isR X j (X 69 (6 * (q : Int) + 4)) = true) from by rw [isR_eq hM hj (by omega)]) ?_
                        refine z_ifB_eq (tgt := 159) F dX5_prevotesOld_149 (by decide) (fun c_149 => ?_) (fun c_149 => ?_)
                        · skip
                          refine z_iconst F dX5_prevotesOld_159 ?_
                          have hso : prevO X j = some (castsM X j 1 (-1)) := prevO_t (by omega) (by rw [← h26_2, fstB_skip (L := (X 64 7).toNat) hq1 (by omega) (fun y a b c => hq4 y a b (oldP_slot c)), fstB_t (by omega) ((oldP_iff hI hq2 (by omega) (by omega) hq3).mpr ⟨by omega, c_65, c_82⟩)]) (by unfold oldV; first | exact if_pos ⟨c_149, by omega⟩ | exact if_neg (fun z => c_149 z.1) | exact if_neg (fun z => by have z2 := z.2; omega))
                          have hst : ((prevO X j).getD X) = (castsM X j 1 (-1)) := by rw [hso]; rfl
                          have hue : mU mm (castsM X j 1 (-1)) = mU mm ((prevO X j).getD X) := by rw [hst]
                          have huC1 := mU_c mm (castsM X j 1 (-1))
                          refine z_backv hZ (va_runV (As := [.ref (w.2.1 + (8 + 8 * j)), .int (zI (1)), .int (zI (-1))]) (rest := []) F (k_X5_vote l w A hA mm G X hM hI j (by omega) (by omega) 1 (-1) (by omega) (by omega)) (cwV 3 F.2.2.2.2 gX5_prevotesOld_X5_vote rfl rfl rfl (by decide +kernel) ⟨Nat.le_of_ble_eq_true rfl, Nat.le_of_ble_eq_true rfl⟩) (z_preV hK hZ (6) (dC_s (by omega)) rfl (by decide) rfl _) rfl rfl hl.1 rfl (lv_room (Nat.le_of_ble_eq_true rfl)) dX5_prevotesOld_160 ⟨by show 0 + 0 + 0 + 0 + 0 + 0 + (mU mm (castsM X j 1 (-1)) - mm) ≤ (mU mm ((prevO X j).getD X) - mm); omega, by show 0 + 0 + 0 + 0 + 0 + 0 + (8 * (mU mm (castsM X j 1 (-1)) - mm)) ≤ (8 * (mU mm ((prevO X j).getD X) - mm)); omega⟩) (fun C1 H locs hC1 hZ => ?_)
                          refine z_iconst F dX5_prevotesOld_163 ?_
                          have hfin : Sim (C1) ((prevO X j).getD X) (mU mm ((prevO X j).getD X)) := by rw [hst]; exact hC1
                          rw [hue] at hZ
                          exact z_zret F hr hlocks hZ (by first | exact bI_0 (by rw [hno]; exact fun z => by cases z) | exact bI_1 (by rw [hso]; rfl)) (by omega) hfin dX5_prevotesOld_164 (by omega) (by omega)
                        · skip
                          refine z_aload_n F dX5_prevotesOld_152 rfl (lv_at hl 4 rfl) ?_
                          refine z_get F hK hZ (71 + q) (dC_l (by omega)) (shp_let q) (by decide) rfl hin2 4 (by decide) mX5_prevotesOld_123 rfl rfl dX5_prevotesOld_153 ?_
                          have r_10 := hZ.2.1.1 (71 + q) (4)
                          refine z_topI (show G (71 + q) 4 = X 69 (6 * (q : Int) + 4) from e4) ?_
                          refine lv_goto (tgt := 160) F.1 F.2.1 dX5_prevotesOld_156 (by decide) ?_
                          have hso : prevO X j = some (castsM X j 1 (X 69 (6 * (q : Int) + 4))) := prevO_t (by omega) (by rw [← h26_2, fstB_skip (L := (X 64 7).toNat) hq1 (by omega) (fun y a b c => hq4 y a b (oldP_slot c)), fstB_t (by omega) ((oldP_iff hI hq2 (by omega) (by omega) hq3).mpr ⟨by omega, c_65, c_82⟩)]) (by unfold oldV; first | exact if_pos ⟨c_149, by omega⟩ | exact if_neg (fun z => c_149 z.1) | exact if_neg (fun z => by have z2 := z.2; omega))
                          have hst : ((prevO X j).getD X) = (castsM X j 1 (X 69 (6 * (q : Int) + 4))) := by rw [hso]; rfl
                          have hue : mU mm (castsM X j 1 (X 69 (6 * (q : Int) + 4))) = mU mm ((prevO X j).getD X) := by rw [hst]
                          have huC2 := mU_c mm (castsM X j 1 (X 69 (6 * (q : Int) + 4)))
                          refine z_backv hZ (va_runV (As := [.ref (w.2.1 + (8 + 8 * j)), .int (zI (1)), .int (zI (X 69 (6 * (q : Int) + 4)))]) (rest := []) F (k_X5_vote l w A hA mm G X hM hI j (by omega) (by omega) 1 (X 69 (6 * (q : Int) + 4)) (by omega) (by omega)) (cwV 3 F.2.2.2.2 gX5_prevotesOld_X5_vote rfl rfl rfl (by decide +kernel) ⟨Nat.le_of_ble_eq_true rfl, Nat.le_of_ble_eq_true rfl⟩) (z_preV hK hZ (6) (dC_s (by omega)) rfl (by decide) rfl _) rfl rfl hl.1 rfl (lv_room (Nat.le_of_ble_eq_true rfl)) dX5_prevotesOld_160 ⟨by show 0 + 0 + 0 + 0 + 0 + 0 + (mU mm (castsM X j 1 (X 69 (6 * (q : Int) + 4))) - mm) ≤ (mU mm ((prevO X j).getD X) - mm); omega, by show 0 + 0 + 0 + 0 + 0 + 0 + (8 * (mU mm (castsM X j 1 (X 69 (6 * (q : Int) + 4))) - mm)) ≤ (8 * (mU mm ((prevO X j).getD X) - mm)); omega⟩) (fun C2 H locs hC2 hZ => ?_)
                          refine z_iconst F dX5_prevotesOld_163 ?_
                          have hfin : Sim (C2) ((prevO X j).getD X) (mU mm ((prevO X j).getD X)) := by rw [hst]; exact hC2
                          rw [hue] at hZ
                          exact z_zret F hr hlocks hZ (by first | exact bI_0 (by rw [hno]; exact fun z => by cases z) | exact bI_1 (by rw [hso]; rfl)) (by omega) hfin dX5_prevotesOld_164 (by omega) (by omega)
                    · skip
                      refine z_aload_n F dX5_prevotesOld_95 rfl (lv_at hl 2 rfl) ?_
                      refine z_get F hK hZ (8 + 8 * j) (dC_s (by omega)) (shp_seat j hj) (by decide) rfl hin6 10 (by decide) mX5_prevotesOld_164 rfl rfl dX5_prevotesOld_96 ?_
                      refine z_get F hK hZ (8 + 8 * j + 1) (dC_s (by omega)) (shp_lock j hj) (by decide) rfl hin3 1 (by decide) mX5_prevotesOld_84 rfl rfl dX5_prevotesOld_99 ?_
                      have r_11 := hZ.2.1.1 (8 + 8 * j + 1) (1)
                      refine z_aload_n F dX5_prevotesOld_102 rfl (lv_at hl 3 rfl) ?_
                      refine z_get F hK hZ (71 + q) (dC_l (by omega)) (shp_let q) (by decide) rfl hin2 5 (by decide) mX5_prevotesOld_161 rfl rfl dX5_prevotesOld_103 ?_
                      have r_12 := hZ.2.1.1 (71 + q) (5)
                      refine z_topI (show G (71 + q) 5 = X 69 (6 * (q : Int) + 5) from e5) ?_
                      refine z_icmp_le (tgt := 123) F (by omega) (by omega) dX5_prevotesOld_106 (by decide) (fun c_106 => ?_) (fun c_106 => ?_)
                      · skip
                        refine z_iconst F dX5_prevotesOld_123 ?_
                        refine lv_goto (tgt := 128) F.1 F.2.1 dX5_prevotesOld_124 (by decide) ?_
                        refine z_istore (lv' := [(4, .int (zI (1))), (3, .int (zI (1))), (0, .ref (w.2.1 + (6))), (1, .ref (w.2.1 + (8 + 8 * j))), (2, .ref (w.2.1 + (71 + q)))]) F dX5_prevotesOld_128 hl (by decide) rfl (fun ls hl => ?_)
                        refine z_aload_n F dX5_prevotesOld_130 rfl (lv_at hl 2 rfl) ?_
                        refine z_aload_n F dX5_prevotesOld_131 rfl (lv_at hl 3 rfl) ?_
                        refine z_iconst F dX5_prevotesOld_132 ?_
                        refine z_iload F dX5_prevotesOld_133 (lv_at hl 0 rfl) ?_
                        refine z_if_eq (tgt := 159) F (by omega) dX5_prevotesOld_135 (by decide) (fun c_135 => ?_) (fun c_135 => ?_)
                        · skip
                          exfalso; omega
                        · skip
                          refine z_aload_n F dX5_prevotesOld_138 rfl (lv_at hl 3 rfl) ?_
                          refine z_get F hK hZ (8 + 8 * j) (dC_s (by omega)) (shp_seat j hj) (by decide) rfl hin6 12 (by decide) mX5_prevotesOld_167 rfl rfl dX5_prevotesOld_139 ?_
                          refine z_aload_n F dX5_prevotesOld_142 rfl (lv_at hl 4 rfl) ?_
                          refine z_get F hK hZ (71 + q) (dC_l (by omega)) (shp_let q) (by decide) rfl hin2 4 (by decide) mX5_prevotesOld_123 rfl rfl dX5_prevotesOld_143 ?_
                          have r_13 := hZ.2.1.1 (71 + q) (4)
                          refine z_topI (show G (71 + q) 4 = X 69 (6 * (q : Int) + 4) from e4) ?_
                          refine z_bxi hZ (va_runV (As := [.int (zI (X 69 (6 * (q : Int) + 4)))]) (rest := [.int (zI (1)), .ref (w.2.1 + (8 + 8 * j)), .ref (w.2.1 + (6))]) F (k_X0_isRight l w (dC mm) A (dC_A hA) (w.2.1 + (71 + mm)) G (fun i h => dC_s h) j hj (X 69 (6 * (q : Int) + 4)) (by omega)) (cwV 1 F.2.2.2.2 gX5_prevotesOld_X0_isRight rfl rfl rfl (by decide +kernel) ⟨Nat.le_of_ble_eq_true rfl, Nat.le_of_ble_eq_true rfl⟩) (z_preV hK hZ (8 + 8 * j + 3) (dC_s (by omega)) (shp_chain j hj) (by decide) rfl _) rfl rfl hl.1 rfl (lv_room (Nat.le_of_ble_eq_true rfl)) dX5_prevotesOld_146 ⟨by show 0 + 0 + 0 + 0 + 0 + (0) ≤ (mU mm ((prevO X j).getD X) - mm); omega, by show 0 + 0 + 0 + 0 + 0 + (0) ≤ (8 * (mU mm ((prevO X j).getD X) - mm)); omega⟩) (fun H locs hZ => ?_)
                          refine z_topI (show bI (isRC (G (8 + 8 * j + 4)) (X 69 (6 * (q : Int) + 4)) = true) = bI (isR X j (X 69 (6 * (q : Int) + 4)) = true) from by rw [isR_eq hM hj (by omega)]) ?_
                          refine z_ifB_eq (tgt := 159) F dX5_prevotesOld_149 (by decide) (fun c_149 => ?_) (fun c_149 => ?_)
                          · skip
                            refine z_iconst F dX5_prevotesOld_159 ?_
                            have hso : prevO X j = some (castsM X j 1 (-1)) := prevO_t (by omega) (by rw [← h26_2, fstB_skip (L := (X 64 7).toNat) hq1 (by omega) (fun y a b c => hq4 y a b (oldP_slot c)), fstB_t (by omega) ((oldP_iff hI hq2 (by omega) (by omega) hq3).mpr ⟨by omega, c_65, c_82⟩)]) (by unfold oldV; first | exact if_pos ⟨c_149, by omega⟩ | exact if_neg (fun z => c_149 z.1) | exact if_neg (fun z => by have z2 := z.2; omega))
                            have hst : ((prevO X j).getD X) = (castsM X j 1 (-1)) := by rw [hso]; rfl
                            have hue : mU mm (castsM X j 1 (-1)) = mU mm ((prevO X j).getD X) := by rw [hst]
                            have huC3 := mU_c mm (castsM X j 1 (-1))
                            refine z_backv hZ (va_runV (As := [.ref (w.2.1 + (8 + 8 * j)), .int (zI (1)), .int (zI (-1))]) (rest := []) F (k_X5_vote l w A hA mm G X hM hI j (by omega) (by omega) 1 (-1) (by omega) (by omega)) (cwV 3 F.2.2.2.2 gX5_prevotesOld_X5_vote rfl rfl rfl (by decide +kernel) ⟨Nat.le_of_ble_eq_true rfl, Nat.le_of_ble_eq_true rfl⟩) (z_preV hK hZ (6) (dC_s (by omega)) rfl (by decide) rfl _) rfl rfl hl.1 rfl (lv_room (Nat.le_of_ble_eq_true rfl)) dX5_prevotesOld_160 ⟨by show 0 + 0 + 0 + 0 + 0 + 0 + (mU mm (castsM X j 1 (-1)) - mm) ≤ (mU mm ((prevO X j).getD X) - mm); omega, by show 0 + 0 + 0 + 0 + 0 + 0 + (8 * (mU mm (castsM X j 1 (-1)) - mm)) ≤ (8 * (mU mm ((prevO X j).getD X) - mm)); omega⟩) (fun C3 H locs hC3 hZ => ?_)
                            refine z_iconst F dX5_prevotesOld_163 ?_
                            have hfin : Sim (C3) ((prevO X j).getD X) (mU mm ((prevO X j).getD X)) := by rw [hst]; exact hC3
                            rw [hue] at hZ
                            exact z_zret F hr hlocks hZ (by first | exact bI_0 (by rw [hno]; exact fun z => by cases z) | exact bI_1 (by rw [hso]; rfl)) (by omega) hfin dX5_prevotesOld_164 (by omega) (by omega)
                          · skip
                            refine z_aload_n F dX5_prevotesOld_152 rfl (lv_at hl 4 rfl) ?_
                            refine z_get F hK hZ (71 + q) (dC_l (by omega)) (shp_let q) (by decide) rfl hin2 4 (by decide) mX5_prevotesOld_123 rfl rfl dX5_prevotesOld_153 ?_
                            have r_14 := hZ.2.1.1 (71 + q) (4)
                            refine z_topI (show G (71 + q) 4 = X 69 (6 * (q : Int) + 4) from e4) ?_
                            refine lv_goto (tgt := 160) F.1 F.2.1 dX5_prevotesOld_156 (by decide) ?_
                            have hso : prevO X j = some (castsM X j 1 (X 69 (6 * (q : Int) + 4))) := prevO_t (by omega) (by rw [← h26_2, fstB_skip (L := (X 64 7).toNat) hq1 (by omega) (fun y a b c => hq4 y a b (oldP_slot c)), fstB_t (by omega) ((oldP_iff hI hq2 (by omega) (by omega) hq3).mpr ⟨by omega, c_65, c_82⟩)]) (by unfold oldV; first | exact if_pos ⟨c_149, by omega⟩ | exact if_neg (fun z => c_149 z.1) | exact if_neg (fun z => by have z2 := z.2; omega))
                            have hst : ((prevO X j).getD X) = (castsM X j 1 (X 69 (6 * (q : Int) + 4))) := by rw [hso]; rfl
                            have hue : mU mm (castsM X j 1 (X 69 (6 * (q : Int) + 4))) = mU mm ((prevO X j).getD X) := by rw [hst]
                            have huC4 := mU_c mm (castsM X j 1 (X 69 (6 * (q : Int) + 4)))
                            refine z_backv hZ (va_runV (As := [.ref (w.2.1 + (8 + 8 * j)), .int (zI (1)), .int (zI (X 69 (6 * (q : Int) + 4)))]) (rest := []) F (k_X5_vote l w A hA mm G X hM hI j (by omega) (by omega) 1 (X 69 (6 * (q : Int) + 4)) (by omega) (by omega)) (cwV 3 F.2.2.2.2 gX5_prevotesOld_X5_vote rfl rfl rfl (by decide +kernel) ⟨Nat.le_of_ble_eq_true rfl, Nat.le_of_ble_eq_true rfl⟩) (z_preV hK hZ (6) (dC_s (by omega)) rfl (by decide) rfl _) rfl rfl hl.1 rfl (lv_room (Nat.le_of_ble_eq_true rfl)) dX5_prevotesOld_160 ⟨by show 0 + 0 + 0 + 0 + 0 + 0 + (mU mm (castsM X j 1 (X 69 (6 * (q : Int) + 4))) - mm) ≤ (mU mm ((prevO X j).getD X) - mm); omega, by show 0 + 0 + 0 + 0 + 0 + 0 + (8 * (mU mm (castsM X j 1 (X 69 (6 * (q : Int) + 4))) - mm)) ≤ (8 * (mU mm ((prevO X j).getD X) - mm)); omega⟩) (fun C4 H locs hC4 hZ => ?_)
                            refine z_iconst F dX5_prevotesOld_163 ?_
                            have hfin : Sim (C4) ((prevO X j).getD X) (mU mm ((prevO X j).getD X)) := by rw [hst]; exact hC4
                            rw [hue] at hZ
                            exact z_zret F hr hlocks hZ (by first | exact bI_0 (by rw [hno]; exact fun z => by cases z) | exact bI_1 (by rw [hso]; rfl)) (by omega) hfin dX5_prevotesOld_164 (by omega) (by omega)
                      · skip
                        refine z_aload_n F dX5_prevotesOld_109 rfl (lv_at hl 2 rfl) ?_
                        refine z_get F hK hZ (8 + 8 * j) (dC_s (by omega)) (shp_seat j hj) (by decide) rfl hin6 10 (by decide) mX5_prevotesOld_164 rfl rfl dX5_prevotesOld_110 ?_
                        refine z_get F hK hZ (8 + 8 * j + 1) (dC_s (by omega)) (shp_lock j hj) (by decide) rfl hin3 0 (by decide) mX5_prevotesOld_81 rfl rfl dX5_prevotesOld_113 ?_
                        have r_15 := hZ.2.1.1 (8 + 8 * j + 1) (0)
                        refine z_aload_n F dX5_prevotesOld_116 rfl (lv_at hl 3 rfl) ?_
                        refine z_get F hK hZ (71 + q) (dC_l (by omega)) (shp_let q) (by decide) rfl hin2 4 (by decide) mX5_prevotesOld_123 rfl rfl dX5_prevotesOld_117 ?_
                        have r_16 := hZ.2.1.1 (71 + q) (4)
                        refine z_topI (show G (71 + q) 4 = X 69 (6 * (q : Int) + 4) from e4) ?_
                        refine z_icmp_ne (tgt := 127) F (by omega) (by omega) dX5_prevotesOld_120 (by decide) (fun c_120 => ?_) (fun c_120 => ?_)
                        · skip
                          refine z_iconst F dX5_prevotesOld_127 ?_
                          refine z_istore (lv' := [(4, .int (zI (0))), (3, .int (zI (1))), (0, .ref (w.2.1 + (6))), (1, .ref (w.2.1 + (8 + 8 * j))), (2, .ref (w.2.1 + (71 + q)))]) F dX5_prevotesOld_128 hl (by decide) rfl (fun ls hl => ?_)
                          refine z_aload_n F dX5_prevotesOld_130 rfl (lv_at hl 2 rfl) ?_
                          refine z_aload_n F dX5_prevotesOld_131 rfl (lv_at hl 3 rfl) ?_
                          refine z_iconst F dX5_prevotesOld_132 ?_
                          refine z_iload F dX5_prevotesOld_133 (lv_at hl 0 rfl) ?_
                          refine z_if_eq (tgt := 159) F (by omega) dX5_prevotesOld_135 (by decide) (fun c_135 => ?_) (fun c_135 => ?_)
                          · skip
                            refine z_iconst F dX5_prevotesOld_159 ?_
                            have hso : prevO X j = some (castsM X j 1 (-1)) := prevO_t (by omega) (by rw [← h26_2, fstB_skip (L := (X 64 7).toNat) hq1 (by omega) (fun y a b c => hq4 y a b (oldP_slot c)), fstB_t (by omega) ((oldP_iff hI hq2 (by omega) (by omega) hq3).mpr ⟨by omega, c_65, c_82⟩)]) (by unfold oldV; first | exact if_pos ⟨c_149, by omega⟩ | exact if_neg (fun z => c_149 z.1) | exact if_neg (fun z => by have z2 := z.2; omega))
                            have hst : ((prevO X j).getD X) = (castsM X j 1 (-1)) := by rw [hso]; rfl
                            have hue : mU mm (castsM X j 1 (-1)) = mU mm ((prevO X j).getD X) := by rw [hst]
                            have huC5 := mU_c mm (castsM X j 1 (-1))
                            refine z_backv hZ (va_runV (As := [.ref (w.2.1 + (8 + 8 * j)), .int (zI (1)), .int (zI (-1))]) (rest := []) F (k_X5_vote l w A hA mm G X hM hI j (by omega) (by omega) 1 (-1) (by omega) (by omega)) (cwV 3 F.2.2.2.2 gX5_prevotesOld_X5_vote rfl rfl rfl (by decide +kernel) ⟨Nat.le_of_ble_eq_true rfl, Nat.le_of_ble_eq_true rfl⟩) (z_preV hK hZ (6) (dC_s (by omega)) rfl (by decide) rfl _) rfl rfl hl.1 rfl (lv_room (Nat.le_of_ble_eq_true rfl)) dX5_prevotesOld_160 ⟨by show 0 + 0 + 0 + 0 + 0 + (mU mm (castsM X j 1 (-1)) - mm) ≤ (mU mm ((prevO X j).getD X) - mm); omega, by show 0 + 0 + 0 + 0 + 0 + (8 * (mU mm (castsM X j 1 (-1)) - mm)) ≤ (8 * (mU mm ((prevO X j).getD X) - mm)); omega⟩) (fun C5 H locs hC5 hZ => ?_)
                            refine z_iconst F dX5_prevotesOld_163 ?_
                            have hfin : Sim (C5) ((prevO X j).getD X) (mU mm ((prevO X j).getD X)) := by rw [hst]; exact hC5
                            rw [hue] at hZ
                            exact z_zret F hr hlocks hZ (by first | exact bI_0 (by rw [hno]; exact fun z => by cases z) | exact bI_1 (by rw [hso]; rfl)) (by omega) hfin dX5_prevotesOld_164 (by omega) (by omega)
                          · skip
                            exfalso; omega
                        · skip
                          refine z_iconst F dX5_prevotesOld_123 ?_
                          refine lv_goto (tgt := 128) F.1 F.2.1 dX5_prevotesOld_124 (by decide) ?_
                          refine z_istore (lv' := [(4, .int (zI (1))), (3, .int (zI (1))), (0, .ref (w.2.1 + (6))), (1, .ref (w.2.1 + (8 + 8 * j))), (2, .ref (w.2.1 + (71 + q)))]) F dX5_prevotesOld_128 hl (by decide) rfl (fun ls hl => ?_)
                          refine z_aload_n F dX5_prevotesOld_130 rfl (lv_at hl 2 rfl) ?_
                          refine z_aload_n F dX5_prevotesOld_131 rfl (lv_at hl 3 rfl) ?_
                          refine z_iconst F dX5_prevotesOld_132 ?_
                          refine z_iload F dX5_prevotesOld_133 (lv_at hl 0 rfl) ?_
                          refine z_if_eq (tgt := 159) F (by omega) dX5_prevotesOld_135 (by decide) (fun c_135 => ?_) (fun c_135 => ?_)
                          · skip
                            exfalso; omega
                          · skip
                            refine z_aload_n F dX5_prevotesOld_138 rfl (lv_at hl 3 rfl) ?_
                            refine z_get F hK hZ (8 + 8 * j) (dC_s (by omega)) (shp_seat j hj) (by decide) rfl hin6 12 (by decide) mX5_prevotesOld_167 rfl rfl dX5_prevotesOld_139 ?_
                            refine z_aload_n F dX5_prevotesOld_142 rfl (lv_at hl 4 rfl) ?_
                            refine z_get F hK hZ (71 + q) (dC_l (by omega)) (shp_let q) (by decide) rfl hin2 4 (by decide) mX5_prevotesOld_123 rfl rfl dX5_prevotesOld_143 ?_
                            have r_17 := hZ.2.1.1 (71 + q) (4)
                            refine z_topI (show G (71 + q) 4 = X 69 (6 * (q : Int) + 4) from e4) ?_
                            refine z_bxi hZ (va_runV (As := [.int (zI (X 69 (6 * (q : Int) + 4)))]) (rest := [.int (zI (1)), .ref (w.2.1 + (8 + 8 * j)), .ref (w.2.1 + (6))]) F (k_X0_isRight l w (dC mm) A (dC_A hA) (w.2.1 + (71 + mm)) G (fun i h => dC_s h) j hj (X 69 (6 * (q : Int) + 4)) (by omega)) (cwV 1 F.2.2.2.2 gX5_prevotesOld_X0_isRight rfl rfl rfl (by decide +kernel) ⟨Nat.le_of_ble_eq_true rfl, Nat.le_of_ble_eq_true rfl⟩) (z_preV hK hZ (8 + 8 * j + 3) (dC_s (by omega)) (shp_chain j hj) (by decide) rfl _) rfl rfl hl.1 rfl (lv_room (Nat.le_of_ble_eq_true rfl)) dX5_prevotesOld_146 ⟨by show 0 + 0 + 0 + 0 + 0 + (0) ≤ (mU mm ((prevO X j).getD X) - mm); omega, by show 0 + 0 + 0 + 0 + 0 + (0) ≤ (8 * (mU mm ((prevO X j).getD X) - mm)); omega⟩) (fun H locs hZ => ?_)
                            refine z_topI (show bI (isRC (G (8 + 8 * j + 4)) (X 69 (6 * (q : Int) + 4)) = true) = bI (isR X j (X 69 (6 * (q : Int) + 4)) = true) from by rw [isR_eq hM hj (by omega)]) ?_
                            refine z_ifB_eq (tgt := 159) F dX5_prevotesOld_149 (by decide) (fun c_149 => ?_) (fun c_149 => ?_)
                            · skip
                              refine z_iconst F dX5_prevotesOld_159 ?_
                              have hso : prevO X j = some (castsM X j 1 (-1)) := prevO_t (by omega) (by rw [← h26_2, fstB_skip (L := (X 64 7).toNat) hq1 (by omega) (fun y a b c => hq4 y a b (oldP_slot c)), fstB_t (by omega) ((oldP_iff hI hq2 (by omega) (by omega) hq3).mpr ⟨by omega, c_65, c_82⟩)]) (by unfold oldV; first | exact if_pos ⟨c_149, by omega⟩ | exact if_neg (fun z => c_149 z.1) | exact if_neg (fun z => by have z2 := z.2; omega))
                              have hst : ((prevO X j).getD X) = (castsM X j 1 (-1)) := by rw [hso]; rfl
                              have hue : mU mm (castsM X j 1 (-1)) = mU mm ((prevO X j).getD X) := by rw [hst]
                              have huC6 := mU_c mm (castsM X j 1 (-1))
                              refine z_backv hZ (va_runV (As := [.ref (w.2.1 + (8 + 8 * j)), .int (zI (1)), .int (zI (-1))]) (rest := []) F (k_X5_vote l w A hA mm G X hM hI j (by omega) (by omega) 1 (-1) (by omega) (by omega)) (cwV 3 F.2.2.2.2 gX5_prevotesOld_X5_vote rfl rfl rfl (by decide +kernel) ⟨Nat.le_of_ble_eq_true rfl, Nat.le_of_ble_eq_true rfl⟩) (z_preV hK hZ (6) (dC_s (by omega)) rfl (by decide) rfl _) rfl rfl hl.1 rfl (lv_room (Nat.le_of_ble_eq_true rfl)) dX5_prevotesOld_160 ⟨by show 0 + 0 + 0 + 0 + 0 + 0 + (mU mm (castsM X j 1 (-1)) - mm) ≤ (mU mm ((prevO X j).getD X) - mm); omega, by show 0 + 0 + 0 + 0 + 0 + 0 + (8 * (mU mm (castsM X j 1 (-1)) - mm)) ≤ (8 * (mU mm ((prevO X j).getD X) - mm)); omega⟩) (fun C6 H locs hC6 hZ => ?_)
                              refine z_iconst F dX5_prevotesOld_163 ?_
                              have hfin : Sim (C6) ((prevO X j).getD X) (mU mm ((prevO X j).getD X)) := by rw [hst]; exact hC6
                              rw [hue] at hZ
                              exact z_zret F hr hlocks hZ (by first | exact bI_0 (by rw [hno]; exact fun z => by cases z) | exact bI_1 (by rw [hso]; rfl)) (by omega) hfin dX5_prevotesOld_164 (by omega) (by omega)
                            · skip
                              refine z_aload_n F dX5_prevotesOld_152 rfl (lv_at hl 4 rfl) ?_
                              refine z_get F hK hZ (71 + q) (dC_l (by omega)) (shp_let q) (by decide) rfl hin2 4 (by decide) mX5_prevotesOld_123 rfl rfl dX5_prevotesOld_153 ?_
                              have r_18 := hZ.2.1.1 (71 + q) (4)
                              refine z_topI (show G (71 + q) 4 = X 69 (6 * (q : Int) + 4) from e4) ?_
                              refine lv_goto (tgt := 160) F.1 F.2.1 dX5_prevotesOld_156 (by decide) ?_
                              have hso : prevO X j = some (castsM X j 1 (X 69 (6 * (q : Int) + 4))) := prevO_t (by omega) (by rw [← h26_2, fstB_skip (L := (X 64 7).toNat) hq1 (by omega) (fun y a b c => hq4 y a b (oldP_slot c)), fstB_t (by omega) ((oldP_iff hI hq2 (by omega) (by omega) hq3).mpr ⟨by omega, c_65, c_82⟩)]) (by unfold oldV; first | exact if_pos ⟨c_149, by omega⟩ | exact if_neg (fun z => c_149 z.1) | exact if_neg (fun z => by have z2 := z.2; omega))
                              have hst : ((prevO X j).getD X) = (castsM X j 1 (X 69 (6 * (q : Int) + 4))) := by rw [hso]; rfl
                              have hue : mU mm (castsM X j 1 (X 69 (6 * (q : Int) + 4))) = mU mm ((prevO X j).getD X) := by rw [hst]
                              have huC7 := mU_c mm (castsM X j 1 (X 69 (6 * (q : Int) + 4)))
                              refine z_backv hZ (va_runV (As := [.ref (w.2.1 + (8 + 8 * j)), .int (zI (1)), .int (zI (X 69 (6 * (q : Int) + 4)))]) (rest := []) F (k_X5_vote l w A hA mm G X hM hI j (by omega) (by omega) 1 (X 69 (6 * (q : Int) + 4)) (by omega) (by omega)) (cwV 3 F.2.2.2.2 gX5_prevotesOld_X5_vote rfl rfl rfl (by decide +kernel) ⟨Nat.le_of_ble_eq_true rfl, Nat.le_of_ble_eq_true rfl⟩) (z_preV hK hZ (6) (dC_s (by omega)) rfl (by decide) rfl _) rfl rfl hl.1 rfl (lv_room (Nat.le_of_ble_eq_true rfl)) dX5_prevotesOld_160 ⟨by show 0 + 0 + 0 + 0 + 0 + 0 + (mU mm (castsM X j 1 (X 69 (6 * (q : Int) + 4))) - mm) ≤ (mU mm ((prevO X j).getD X) - mm); omega, by show 0 + 0 + 0 + 0 + 0 + 0 + (8 * (mU mm (castsM X j 1 (X 69 (6 * (q : Int) + 4))) - mm)) ≤ (8 * (mU mm ((prevO X j).getD X) - mm)); omega⟩) (fun C7 H locs hC7 hZ => ?_)
                              refine z_iconst F dX5_prevotesOld_163 ?_
                              have hfin : Sim (C7) ((prevO X j).getD X) (mU mm ((prevO X j).getD X)) := by rw [hst]; exact hC7
                              rw [hue] at hZ
                              exact z_zret F hr hlocks hZ (by first | exact bI_0 (by rw [hno]; exact fun z => by cases z) | exact bI_1 (by rw [hso]; rfl)) (by omega) hfin dX5_prevotesOld_164 (by omega) (by omega)
    exact L_26 ((X 64 7).toNat + 1) 0 (by omega) (by omega) rfl _ _ _ hZ (lv_sub hl [1, 2, 0] rfl)
  · skip
    refine z_iconst F dX5_prevotesOld_7 ?_
    have hno : prevO X j = none := prevO_s c_4
    have hst : ((prevO X j).getD X) = X := by rw [hno]; rfl
    have hue : mm = mU mm ((prevO X j).getD X) := by rw [hst, mU_self (by omega)]
    have hfin : Sim (G) ((prevO X j).getD X) (mU mm ((prevO X j).getD X)) := by rw [← hue, hst]; exact hM
    rw [hue] at hZ
    exact z_zret F hr hlocks hZ (by first | exact bI_0 (by rw [hno]; exact fun z => by cases z) | exact bI_1 (by rw [hso]; rfl)) (by omega) hfin dX5_prevotesOld_8 (by omega) (by omega)
