theorem mX7_begin_10 : Cond.fieldLink RX7 10 "LockedChain" "council" "LLockedChain$Council;" ∈ wsX7_begin := by decide +kernel
theorem mX7_begin_19 : Cond.fieldLink RX7 19 "LockedChain" "post" "LLockedChain$Post;" ∈ wsX7_begin := by decide +kernel
theorem mX7_begin_28 : Cond.fieldLink RX7 28 "LockedChain" "rules" "LLockedChain$Rules;" ∈ wsX7_begin := by decide +kernel
theorem mX7_begin_41 : Cond.fieldLink RX7 41 "LockedChain" "begun" "Z" ∈ wsX7_begin := by decide +kernel
set_option maxHeartbeats 4000000 in
set_option maxRecDepth 100000 in
theorem k_X7_begin (l : Launch) (w : zW) (A : Nat → Prop) (hA : ∀ i, i < 64 ∨ 71 ≤ i → A (w.2.1 + i)) (mm : Nat) (G X : zM) (hM : Sim G X mm) (hI : Inv X) (hB : InvB X) : Met l yX7_begin wsX7_begin { frames := 7, cells := (mU mm (mBegin X) - mm), slots := (8 * (mU mm (mBegin X) - mm)), locals := 155 } (zPre w (dC mm) (w.2.1 + (71 + mm)) G [.ref (w.2.1 + (0))]) (zQi w (dC (mU mm (mBegin X))) (w.2.1 + (71 + mU mm (mBegin X))) (rBegin X) (fun C => Sim C (mBegin X) (mU mm (mBegin X))) A) ((mU mm (mBegin X) - mm)) ((8 * (mU mm (mBegin X) - mm))) A := by
  refine Met.ofW (cc := cX7_begin) (maxL := 3) (ret := (some .int)) (by decide) rfl ?_
  intro p e s m args below meth c s₁ B hml hv
  obtain ⟨rfl, hsz, hP, hK⟩ := hv
  have F : CallFix p m c cX7_begin 3 s _ wsX7_begin RX7 := ⟨B.exec, B.bytes, hml, findClass_of_methodNamed B.named, atoms_spec (ws := wsX7_begin) B.pre⟩
  have hr := B.returns
  have hlocks := B.notSynchronized
  have hZ : Zs w (dC mm) A s.heap (w.2.1 + (71 + mm)) G s.heap [] := ⟨hsz, hP, va_S.rf⟩
  have hl := lv_entry ([.ref (w.2.1 + (0))]) (n := 3) (Nat.le_of_ble_eq_true rfl)
  rw [lg_entry_eq]
  generalize (lg_sl ([.ref (w.2.1 + (0))]) ++ List.replicate (3 - (lg_sl ([.ref (w.2.1 + (0))])).length) Slot.unset).toArray = ls at hl ⊢
  have hl : lv_has ls 3 [(0, .ref (w.2.1 + (0)))] := hl
  have hin7 : ∀ v ∈ u_ws RX7 TX7 6, v ∈ wsX7_begin := by decide +kernel
  have hn := hI.1
  have hLL := hI.2.2.2.1
  have hS : PostS G X mm := hM.1
  obtain ⟨hS1, hS2, hS3, hS4, hS5⟩ := hM.1
  have hC0 := hM.2.1
  have hu := mU_c mm (mBegin X)
  refine z_aload_n F dX7_begin_0 rfl (lv_at hl 0 rfl) ?_
  refine z_get F hK hZ (0) (dC_s (by omega)) rfl (by decide) rfl hin7 4 (by decide) mX7_begin_41 rfl rfl dX7_begin_1 ?_
  have r_1 := hZ.2.1.1 (0) (4)
  refine z_topI (show G 0 4 = X 64 2 from hC0.1) ?_
  have r_2 : -2147483648 ≤ X 64 2 ∧ X 64 2 < 2147483648 := by rw [← show G 0 4 = X 64 2 from hC0.1]; exact hZ.2.1.1 _ _
  refine z_if_eq (tgt := 10) F (by omega) dX7_begin_4 (by decide) (fun c_4 => ?_) (fun c_4 => ?_)
  · skip
    refine z_aload_n F dX7_begin_10 rfl (lv_at hl 0 rfl) ?_
    refine z_iconst F dX7_begin_11 ?_
    refine z_put (z := 1) F hK hZ (dC_A hA) (0) (dC_s (by omega)) rfl (by decide) rfl hin7 tyX7 tyX7_ok nmX7 4 (by decide) mX7_begin_41 rfl rfl rfl rfl (by omega) (kz := 4) rfl rfl (Nat.le_of_ble_eq_true rfl) dX7_begin_12 (fun H locs hZ => ?_)
    have hbg : (mBegin X) = beginM X := by rw [mBegin, if_neg (by omega)]
    have hbn := Inv_begin hI hB (by omega)
    have hM0 : Sim (up G 0 4 1) (up X 64 2 1) (mU mm (up X 64 2 1)) := by rw [show mU mm (up X 64 2 1) = mm from mU_self hM.1.2.1.1]; exact Sim_begun hM
    rw [show mm = mU mm (up X 64 2 1) from (mU_self (X := up X 64 2 1) hM.1.2.1.1).symm] at hZ
    have n0 : up X 64 2 1 64 0 = X 64 0 := rfl
    refine z_iconst F dX7_begin_15 ?_
    refine z_istore_n (lv' := [(1, .int (zI (0))), (0, .ref (w.2.1 + (0)))]) F dX7_begin_16 rfl hl (by decide) rfl (fun ls hl => ?_)
    have L_17 : ∀ (nf : Nat) (i : Nat) (Cy Xy : zM), ((X 64 0).toNat + 1 ≤ i + nf) → (i ≤ (X 64 0).toNat) → (Sim Cy Xy (mU mm Xy) ∧ Inv Xy) → (Xy 64 0 = X 64 0) → (∀ z : Int, (i : Int) ≤ z → z < Xy 64 0 → Xy 67 (20 * z + 0) ≤ 5) → (beginS ((X 64 0).toNat - i) i Xy = beginM X) →  ∀ (H : Heap) (locs : List Loc) (ls : Array Slot), Zs w (dC (mU mm Xy)) A s.heap (w.2.1 + (71 + mU mm Xy)) Cy H locs → lv_has ls 3 [(0, .ref (w.2.1 + (0))), (1, .int (zI ((i : Int))))] → W p l e (headSpec wsX7_begin { frames := 7, cells := (mU mm (mBegin X) - mm), slots := (8 * (mU mm (mBegin X) - mm)), locals := 155 }).room s m ([.ref (w.2.1 + (0))] : List Value).toArray below meth c H locs (mU mm Xy - mm) (8 * (mU mm Xy - mm)) (MQ below (zQi w (dC (mU mm (mBegin X))) (w.2.1 + (71 + mU mm (mBegin X))) (rBegin X) (fun C => Sim C (mBegin X) (mU mm (mBegin X))) A) ([.ref (w.2.1 + (0))] : List Value).toArray s ((mU mm (mBegin X) - mm)) ((8 * (mU mm (mBegin X) - mm))) A) (F0 m 17 ls []) := by
      intro nf
      induction nf with
      | zero => intro i  Cy Xy  h17_0 h17_1 h17_2 h17_3 h17_4 h17_5; exact absurd h17_0 (by omega)
      | succ nf ih_17 =>
        intro i  Cy Xy  h17_0 h17_1 h17_2 h17_3 h17_4 h17_5 H locs ls hZ hl
        have hMy := h17_2.1
        have hIy := h17_2.2
        have hC0y := hMy.2.1
        have hny := hIy.1
        have hTy : Xy 64 7 ≤ (mBegin X) 64 7 := by rw [hbg]; exact beginS_le (n := (X 64 0).toNat) (i := i) hIy (by omega) h17_4 h17_5
        refine z_iload_n F dX7_begin_17 rfl (lv_at hl 1 rfl) ?_
        refine z_aload_n F dX7_begin_18 rfl (lv_at hl 0 rfl) ?_
        refine z_get F hK hZ (0) (dC_s (by omega)) rfl (by decide) rfl hin7 0 (by decide) mX7_begin_10 rfl rfl dX7_begin_19 ?_
        refine z_bxi hZ (va_runV (As := []) (rest := [.int (zI ((i : Int)))]) F (k_X1_size l w (dC (mU mm Xy)) A (dC_A hA) (w.2.1 + (71 + (mU mm Xy))) Cy (fun i h => dC_s h)) (cwV 0 F.2.2.2.2 gX7_begin_X1_size rfl rfl rfl (by decide +kernel) ⟨Nat.le_of_ble_eq_true rfl, Nat.le_of_ble_eq_true rfl⟩) (z_preV hK hZ (1) (dC_s (by omega)) rfl (by decide) rfl _) rfl rfl hl.1 rfl (lv_room (Nat.le_of_ble_eq_true rfl)) dX7_begin_22 ⟨mU_at hTy, mU_at8 hTy⟩) (fun H locs hZ => ?_)
        refine z_topI (show Cy 1 0 = Xy 64 0 from hC0y.2.2) ?_
        refine z_icmp_ge (tgt := 61) F (by omega) (by omega) dX7_begin_25 (by decide) (fun c_25 => ?_) (fun c_25 => ?_)
        · skip
          have hst : (mBegin X) = Xy := by rw [hbg, ← h17_5, show (X 64 0).toNat - i = 0 by omega]; rfl
          refine z_aload_n F dX7_begin_61 rfl (lv_at hl 0 rfl) ?_
          refine z_get F hK hZ (0) (dC_s (by omega)) rfl (by decide) rfl hin7 1 (by decide) mX7_begin_19 rfl rfl dX7_begin_62 ?_
          refine z_bxi hZ (va_runV (As := []) (rest := []) F (k_X4_sent l w (dC (mU mm Xy)) A (dC_A hA) (w.2.1 + (71 + (mU mm Xy))) Cy (fun i h => dC_s h)) (cwV 0 F.2.2.2.2 gX7_begin_X4_sent rfl rfl rfl (by decide +kernel) ⟨Nat.le_of_ble_eq_true rfl, Nat.le_of_ble_eq_true rfl⟩) (z_preV hK hZ (2) (dC_s (by omega)) rfl (by decide) rfl _) rfl rfl hl.1 rfl (lv_room (Nat.le_of_ble_eq_true rfl)) dX7_begin_65 ⟨mU_at hTy, mU_at8 hTy⟩) (fun H locs hZ => ?_)
          refine z_topI (show Cy 2 3 = (mBegin X) 64 7 from by rw [hMy.1.1, hst]) ?_
          have hfin : Sim Cy (mBegin X) (mU mm (mBegin X)) := by rw [hst]; exact hMy
          rw [← hst] at hZ
          exact z_iret F hr hlocks hZ (by rw [rBegin, mBegin, if_neg (by omega), if_neg (by omega)]) hfin dX7_begin_68 (by first | exact Nat.zero_le _ | (rw [hst]; exact Nat.le_refl _)) (by first | exact Nat.zero_le _ | (rw [hst]; exact Nat.le_refl _))
        · skip
          refine z_aload_n F dX7_begin_28 rfl (lv_at hl 0 rfl) ?_
          refine z_iload_n F dX7_begin_29 rfl (lv_at hl 1 rfl) ?_
          refine z_bxr hZ (va_runV (As := [.int (zI ((i : Int)))]) (rest := []) F (k_X7_honest l w (dC (mU mm Xy)) A (dC_A hA) (w.2.1 + (71 + (mU mm Xy))) Cy Xy (mU mm Xy) (fun i h => dC_s h) (fun i h => dC_l h) hMy hIy ((i : Int)) (by omega)) (cwV 1 F.2.2.2.2 gX7_begin_X7_honest rfl rfl rfl (by decide +kernel) ⟨Nat.le_of_ble_eq_true rfl, Nat.le_of_ble_eq_true rfl⟩) (z_preV hK hZ (0) (dC_s (by omega)) rfl (by decide) rfl _) rfl rfl hl.1 rfl (lv_room (Nat.le_of_ble_eq_true rfl)) dX7_begin_30 ⟨mU_at hTy, mU_at8 hTy⟩) (fun H locs hZ => ?_)
          refine z_vstore_n (lv' := [(2, zV w (hoV Xy ((i : Int)))), (0, .ref (w.2.1 + (0))), (1, .int (zI ((i : Int))))]) F dX7_begin_33 rfl hl (by decide) (by unfold zV; (repeat' split) <;> rfl) (fun ls hl => ?_)
          refine z_vload_n (w := w) F dX7_begin_34 rfl (lv_at hl 0 rfl) ?_
          refine z_ifnull (tgt := 55) F dX7_begin_35 (by decide) (fun c_35 => ?_) (fun c_35 => ?_)
          · skip
            refine z_iinc (k := 2) (z := (i : Int)) (lv' := [(1, .int (zI ((i : Int) + 1))), (2, zV w (hoV Xy ((i : Int)))), (0, .ref (w.2.1 + (0)))]) F dX7_begin_55 hl rfl (by decide) (by unfold zV; (repeat' split) <;> rfl) (fun ls hl => ?_)
            refine lv_goto (tgt := 17) F.1 F.2.1 dX7_begin_58 (by decide) ?_
            exact W.widen (Nat.le_refl _) (Nat.le_refl _) (ih_17 (i + 1) Cy Xy (by omega) (by omega) h17_2 h17_3 (fun z a b => h17_4 z (by omega) b) (by rw [← h17_5, beginS_f (by omega) (hoV_neg (by omega) c_35), Nat.sub_sub]) _ _ _ hZ (lv_sub hl [2, 0] rfl))
          · skip
            obtain ⟨hj_i, hj0_i, hf_i, hz_i⟩ := hoV_pos hny (by assumption)
            rw [hz_i, zV_nat] at hl
            refine z_aload_n F dX7_begin_38 rfl (lv_at hl 1 rfl) ?_
            refine z_get F hK hZ (0) (dC_s (by omega)) rfl (by decide) rfl hin7 2 (by decide) mX7_begin_28 rfl rfl dX7_begin_39 ?_
            refine z_aload_n F dX7_begin_42 rfl (lv_at hl 0 rfl) ?_
            refine z_iconst F dX7_begin_43 ?_
            have hhi := h17_4 (i : Int) (by omega) (by omega)
            have hns := Nx_starts hIy (s := (i : Int)) (r := 0) (by omega) hf_i hhi (by omega)
            have hnr := Nx_rules hns.1 (s := (i : Int)) (by rw [hns.2.1.1]; omega)
            have hb2 := h17_5.symm.trans (beginS_t (by omega) hf_i)
            rw [Nat.sub_sub] at hb2
            have hFx : Fx Xy (rulesM (startsM Xy (i : Int) 0) (i : Int)) (i : Int) := (Fx_starts Xy (i : Int) 0).tr (Fx_rulesF fuelR (startsM Xy (i : Int) 0))
            have hn2 := hns.tr hnr
            have h52 : ∀ z : Int, ((i + 1 : Nat) : Int) ≤ z → z < rulesM (startsM Xy (i : Int) 0) (i : Int) 64 0 → rulesM (startsM Xy (i : Int) 0) (i : Int) 67 (20 * z + 0) ≤ 5 := fun z a b => by rw [hFx (20 * z + 0) (by omega)]; exact h17_4 z (by omega) (by rw [hn2.2.1.1] at b; exact b)
            have hT2 : rulesM (startsM Xy (i : Int) 0) (i : Int) 64 7 ≤ (mBegin X) 64 7 := by rw [hbg]; exact beginS_le (n := (X 64 0).toNat) (i := i + 1) hnr.1 (by rw [hn2.2.1.1]; omega) h52 hb2.symm
            have hle1 : Xy 64 7 ≤ (startsM Xy i 0) 64 7 := hns.2.2.2.2
            have hT1 : (startsM Xy i 0) 64 7 ≤ (mBegin X) 64 7 := Int.le_trans hnr.2.2.2.2 hT2
            refine z_backv hZ (va_runV (As := [.ref (w.2.1 + (8 + 8 * i)), .int (zI (0))]) (rest := []) F (k_X5_start l w A hA (mU mm Xy) Cy Xy hMy hIy i (by omega) hhi 0 (by omega)) (cwV 2 F.2.2.2.2 gX7_begin_X5_start rfl rfl rfl (by decide +kernel) ⟨Nat.le_of_ble_eq_true rfl, Nat.le_of_ble_eq_true rfl⟩) (z_preV hK hZ (6) (dC_s (by omega)) rfl (by decide) rfl _) rfl rfl hl.1 rfl (lv_room (Nat.le_of_ble_eq_true rfl)) dX7_begin_44 ⟨mU_st hle1 hT1, mU_st8 hle1 hT1⟩) (fun C1 H locs hC1 hZ => ?_)
            have hq1 : mU (mU mm Xy) (startsM Xy i 0) = mU mm (startsM Xy i 0) := mU_mU hle1
            rw [hq1] at hZ hC1
            refine W.widen (show mU mm Xy - mm + 0 + 0 + (mU (mU mm Xy) (startsM Xy i 0) - (mU mm Xy)) ≤ mU mm (startsM Xy i 0) - mm from mU_st hle1 (Int.le_refl _)) (show 8 * (mU mm Xy - mm) + 0 + 0 + (8 * (mU (mU mm Xy) (startsM Xy i 0) - (mU mm Xy))) ≤ 8 * (mU mm (startsM Xy i 0) - mm) from mU_st8 hle1 (Int.le_refl _)) ?_
            obtain ⟨X1, hX1⟩ : ∃ zz : zM, zz = (startsM Xy i 0) := ⟨_, rfl⟩
            rw [← hX1] at hZ hC1 hT1 hle1
            rw [← hX1]
            have hM1 := hC1
            have hI1 : Inv X1 := by rw [hX1]; exact hns.1
            have hC01 := hM1.2.1
            rw [← hX1] at hnr hb2 h52 hT2 hn2
            have h651 : X1 65 (i : Int) = 0 := by rw [hX1, hns.2.2.1]; exact hf_i
            have h6401 : X1 64 0 = Xy 64 0 := by rw [hX1]; exact hns.2.1.1
            refine z_aload_n F dX7_begin_47 rfl (lv_at hl 1 rfl) ?_
            refine z_get F hK hZ (0) (dC_s (by omega)) rfl (by decide) rfl hin7 2 (by decide) mX7_begin_28 rfl rfl dX7_begin_48 ?_
            refine z_aload_n F dX7_begin_51 rfl (lv_at hl 0 rfl) ?_
            have hle2 : X1 64 7 ≤ (rulesM X1 i) 64 7 := hnr.2.2.2.2
            have hT2 : (rulesM X1 i) 64 7 ≤ (mBegin X) 64 7 := hT2
            refine z_backv hZ (va_runV (As := [.ref (w.2.1 + (8 + 8 * i))]) (rest := []) F (k_X5_go l w A hA (mU mm X1) C1 X1 hM1 hI1 i (by omega) h651) (cwV 1 F.2.2.2.2 gX7_begin_X5_go rfl rfl rfl (by decide +kernel) ⟨Nat.le_of_ble_eq_true rfl, Nat.le_of_ble_eq_true rfl⟩) (z_preV hK hZ (6) (dC_s (by omega)) rfl (by decide) rfl _) rfl rfl hl.1 rfl (lv_room (Nat.le_of_ble_eq_true rfl)) dX7_begin_52 ⟨mU_st hle2 hT2, mU_st8 hle2 hT2⟩) (fun C2 H locs hC2 hZ => ?_)
            have hq2 : mU (mU mm X1) (rulesM X1 i) = mU mm (rulesM X1 i) := mU_mU hle2
            rw [hq2] at hZ hC2
            refine W.widen (show mU mm X1 - mm + (mU (mU mm X1) (rulesM X1 i) - (mU mm X1)) ≤ mU mm (rulesM X1 i) - mm from mU_st hle2 (Int.le_refl _)) (show 8 * (mU mm X1 - mm) + (8 * (mU (mU mm X1) (rulesM X1 i) - (mU mm X1))) ≤ 8 * (mU mm (rulesM X1 i) - mm) from mU_st8 hle2 (Int.le_refl _)) ?_
            obtain ⟨X2, hX2⟩ : ∃ zz : zM, zz = (rulesM X1 i) := ⟨_, rfl⟩
            rw [← hX2] at hZ hC2 hT2 hle2
            rw [← hX2]
            have hM2 := hC2
            have hI2 : Inv X2 := by rw [hX2]; exact hnr.1
            have hC02 := hM2.2.1
            rw [← hX2] at hb2 h52 hn2
            refine z_iinc (k := 2) (z := (i : Int)) (lv' := [(1, .int (zI ((i : Int) + 1))), (2, .ref (w.2.1 + (8 + 8 * i))), (0, .ref (w.2.1 + (0)))]) F dX7_begin_55 hl rfl (by decide) rfl (fun ls hl => ?_)
            refine lv_goto (tgt := 17) F.1 F.2.1 dX7_begin_58 (by decide) ?_
            exact W.widen (Nat.le_refl _) (Nat.le_refl _) (ih_17 (i + 1) C2 X2 (by omega) (by omega) ⟨hM2, hI2⟩ (by rw [hn2.2.1.1]; exact h17_3) h52 hb2.symm _ _ _ hZ (lv_sub hl [2, 0] rfl))
    exact W.widen (Nat.zero_le _) (Nat.zero_le _) (L_17 ((X 64 0).toNat + 1) 0 (up G 0 4 1) (up X 64 2 1) (by omega) (by omega) ⟨hM0, Inv_begun hI⟩ rfl (fun z a b => by rw [up_cell _ _ _ (show (67 : Nat) ≠ 64 by decide), ((hB (by omega)).2 z (by omega) (by omega)).1]; decide) rfl _ _ _ hZ (lv_sub hl [1, 0] rfl))
  · skip
    refine z_bipush F (by decide) dX7_begin_7 ?_
    have hst : (mBegin X) = X := by rw [mBegin, if_pos (by omega)]
    have hue : mm = mU mm (mBegin X) := by rw [hst, mU_self (by omega)]
    have hfin : Sim (G) (mBegin X) (mU mm (mBegin X)) := by rw [← hue, hst]; exact hM
    rw [hue] at hZ
    exact z_iret F hr hlocks hZ (by rw [rBegin, if_pos (by omega)]) hfin dX7_begin_9 (by first | exact Nat.zero_le _ | (rw [hst]; exact Nat.le_refl _)) (by first | exact Nat.zero_le _ | (rw [hst]; exact Nat.le_refl _))
