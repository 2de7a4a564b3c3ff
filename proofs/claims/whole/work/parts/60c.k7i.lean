theorem mX7_fair_41 : Cond.fieldLink RX7 41 "LockedChain" "begun" "Z" ∈ wsX7_fair := by decide +kernel
set_option maxHeartbeats 4000000 in
set_option maxRecDepth 100000 in
theorem k_X7_fair (l : Launch) (w : zW) (A : Nat → Prop) (hA : ∀ i, i < 64 ∨ 71 ≤ i → A (w.2.1 + i)) (mm : Nat) (G X : zM) (hM : Sim G X mm) (hI : Inv X) (k : Int) (hk : -2147483648 ≤ k ∧ k < 2147483648) : Met l yX7_fair wsX7_fair { frames := 8, cells := (mU mm (mFair X k) - mm), slots := (8 * (mU mm (mFair X k) - mm)), locals := 180 } (zPre w (dC mm) (w.2.1 + (71 + mm)) G [.ref (w.2.1 + (0)), .int (zI (k))]) (zQi w (dC (mU mm (mFair X k))) (w.2.1 + (71 + mU mm (mFair X k))) (rFair X k) (fun C => Sim C (mFair X k) (mU mm (mFair X k))) A) ((mU mm (mFair X k) - mm)) ((8 * (mU mm (mFair X k) - mm))) A := by
  refine Met.ofW (cc := cX7_fair) (maxL := 3) (ret := (some .int)) (by decide) rfl ?_
  intro p e s m args below meth c s₁ B hml hv
  obtain ⟨rfl, hsz, hP, hK⟩ := hv
  have F : CallFix p m c cX7_fair 3 s _ wsX7_fair RX7 := ⟨B.exec, B.bytes, hml, findClass_of_methodNamed B.named, atoms_spec (ws := wsX7_fair) B.pre⟩
  have hr := B.returns
  have hlocks := B.notSynchronized
  have hZ : Zs w (dC mm) A s.heap (w.2.1 + (71 + mm)) G s.heap [] := ⟨hsz, hP, va_S.rf⟩
  have hl := lv_entry ([.ref (w.2.1 + (0)), .int (zI (k))]) (n := 3) (Nat.le_of_ble_eq_true rfl)
  rw [lg_entry_eq]
  generalize (lg_sl ([.ref (w.2.1 + (0)), .int (zI (k))]) ++ List.replicate (3 - (lg_sl ([.ref (w.2.1 + (0)), .int (zI (k))])).length) Slot.unset).toArray = ls at hl ⊢
  have hl : lv_has ls 3 [(0, .ref (w.2.1 + (0))), (1, .int (zI (k)))] := hl
  have hin7 : ∀ v ∈ u_ws RX7 TX7 6, v ∈ wsX7_fair := by decide +kernel
  have hn := hI.1
  have hLL := hI.2.2.2.1
  have hS : PostS G X mm := hM.1
  obtain ⟨hS1, hS2, hS3, hS4, hS5⟩ := hM.1
  have hC0 := hM.2.1
  have hu := mU_c mm (mFair X k)
  refine z_iload_n F dX7_fair_0 rfl (lv_at hl 1 rfl) ?_
  refine z_iconst F dX7_fair_1 ?_
  refine z_icmp_lt (tgt := 11) F (by omega) (by omega) dX7_fair_2 (by decide) (fun c_2 => ?_) (fun c_2 => ?_)
  · skip
    have hbad : ¬ (1 ≤ k ∧ k ≤ 30) := by omega
    refine z_iconst F dX7_fair_11 ?_
    have hst : (mFair X k) = X := by rw [mFair, if_pos hbad]
    have hue : mm = mU mm (mFair X k) := by rw [hst, mU_self (by omega)]
    have hfin : Sim (G) (mFair X k) (mU mm (mFair X k)) := by rw [← hue, hst]; exact hM
    rw [hue] at hZ
    exact z_iret F hr hlocks hZ (by rw [rFair, if_pos hbad]) hfin dX7_fair_12 (by first | exact Nat.zero_le _ | (rw [hst]; exact Nat.le_refl _)) (by first | exact Nat.zero_le _ | (rw [hst]; exact Nat.le_refl _))
  · skip
    refine z_iload_n F dX7_fair_5 rfl (lv_at hl 1 rfl) ?_
    refine z_bipush F (by decide) dX7_fair_6 ?_
    refine z_icmp_le (tgt := 13) F (by omega) (by omega) dX7_fair_8 (by decide) (fun c_8 => ?_) (fun c_8 => ?_)
    · skip
      refine z_aload_n F dX7_fair_13 rfl (lv_at hl 0 rfl) ?_
      refine z_get F hK hZ (0) (dC_s (by omega)) rfl (by decide) rfl hin7 4 (by decide) mX7_fair_41 rfl rfl dX7_fair_14 ?_
      have r_1 := hZ.2.1.1 (0) (4)
      refine z_topI (show G 0 4 = X 64 2 from hC0.1) ?_
      have r_2 : -2147483648 ≤ X 64 2 ∧ X 64 2 < 2147483648 := by rw [← show G 0 4 = X 64 2 from hC0.1]; exact hZ.2.1.1 _ _
      refine z_if_ne (tgt := 23) F (by omega) dX7_fair_17 (by decide) (fun c_17 => ?_) (fun c_17 => ?_)
      · skip
        have hmf : (mFair X k) = (fairF k.toNat 0 X).1 := by rw [mFair, if_neg (by omega), if_neg (by omega)]
        rw [← mU_self hM.1.2.1.1] at hZ
        refine z_iconst F dX7_fair_23 ?_
        refine z_istore_n (lv' := [(2, .int (zI (0))), (0, .ref (w.2.1 + (0))), (1, .int (zI (k)))]) F dX7_fair_24 rfl hl (by decide) rfl (fun ls hl => ?_)
        have L_25 : ∀ (nf : Nat) (i : Nat) (Cy Xy : zM), (k.toNat + 1 ≤ i + nf) → (i ≤ k.toNat) → (Sim Cy Xy (mU mm Xy) ∧ Inv Xy) → (fairF (k.toNat - i) (i : Int) Xy = fairF k.toNat 0 X) →  ∀ (H : Heap) (locs : List Loc) (ls : Array Slot), Zs w (dC (mU mm Xy)) A s.heap (w.2.1 + (71 + mU mm Xy)) Cy H locs → lv_has ls 3 [(0, .ref (w.2.1 + (0))), (1, .int (zI (k))), (2, .int (zI ((i : Int))))] → W p l e (headSpec wsX7_fair { frames := 8, cells := (mU mm (mFair X k) - mm), slots := (8 * (mU mm (mFair X k) - mm)), locals := 180 }).room s m ([.ref (w.2.1 + (0)), .int (zI (k))] : List Value).toArray below meth c H locs (mU mm Xy - mm) (8 * (mU mm Xy - mm)) (MQ below (zQi w (dC (mU mm (mFair X k))) (w.2.1 + (71 + mU mm (mFair X k))) (rFair X k) (fun C => Sim C (mFair X k) (mU mm (mFair X k))) A) ([.ref (w.2.1 + (0)), .int (zI (k))] : List Value).toArray s ((mU mm (mFair X k) - mm)) ((8 * (mU mm (mFair X k) - mm))) A) (F0 m 25 ls []) := by
          intro nf
          induction nf with
          | zero => intro i  Cy Xy  h25_0 h25_1 h25_2 h25_3; exact absurd h25_0 (by omega)
          | succ nf ih_25 =>
            intro i  Cy Xy  h25_0 h25_1 h25_2 h25_3 H locs ls hZ hl
            have hMy := h25_2.1
            have hIy := h25_2.2
            have hC0y := hMy.2.1
            have hny := hIy.1
            have hLLy := hIy.2.2.2.1
            have hTy := (by rw [hmf, ← h25_3]; exact (Nx_fair _ _ h25_2.2).2.2.2.2 : Xy 64 7 ≤ (mFair X k) 64 7)
            refine z_iload_n F dX7_fair_25 rfl (lv_at hl 2 rfl) ?_
            refine z_iload_n F dX7_fair_26 rfl (lv_at hl 1 rfl) ?_
            refine z_icmp_ge (tgt := 52) F (by omega) (by omega) dX7_fair_27 (by decide) (fun c_27 => ?_) (fun c_27 => ?_)
            · skip
              refine z_iload_n F dX7_fair_52 rfl (lv_at hl 1 rfl) ?_
              have hfe : fairF k.toNat 0 X = (Xy, (i : Int)) := by rw [← h25_3, show k.toNat - i = 0 by omega]; rfl
              have hst : (mFair X k) = Xy := by rw [hmf, hfe]
              have hfin : Sim Cy (mFair X k) (mU mm (mFair X k)) := by rw [hst]; exact hMy
              rw [← hst] at hZ
              exact z_iret F hr hlocks hZ (by rw [rFair, if_neg (by omega), if_neg (by omega), hfe]; show k = (i : Int); omega) hfin dX7_fair_53 (by first | exact Nat.zero_le _ | (rw [hst]; exact Nat.le_refl _)) (by first | exact Nat.zero_le _ | (rw [hst]; exact Nat.le_refl _))
            · skip
              refine z_aload_n F dX7_fair_30 rfl (lv_at hl 0 rfl) ?_
              have hnb := Nx_bring hIy
              have hTt : (turnsM Xy).1 64 7 ≤ (mFair X k) 64 7 := by rw [hmf, ← h25_3]; exact fair_le hIy (by omega)
              have hle1 : Xy 64 7 ≤ (bringM Xy).1 64 7 := hnb.1.2.2.2.2
              have hT1 : (bringM Xy).1 64 7 ≤ (mFair X k) 64 7 := Int.le_trans (bring_le hIy) hTt
              refine z_backi hZ (va_runV (As := []) (rest := []) F (k_X7_bringAllLetters l w A hA (mU mm Xy) Cy Xy hMy hIy) (cwV 0 F.2.2.2.2 gX7_fair_X7_bringAllLetters rfl rfl rfl (by decide +kernel) ⟨Nat.le_of_ble_eq_true rfl, Nat.le_of_ble_eq_true rfl⟩) (z_preV hK hZ (0) (dC_s (by omega)) rfl (by decide) rfl _) rfl rfl hl.1 rfl (lv_room (Nat.le_of_ble_eq_true rfl)) dX7_fair_31 ⟨mU_st hle1 hT1, mU_st8 hle1 hT1⟩) (fun C1 H locs hC1 hZ => ?_)
              have hq1 : mU (mU mm Xy) (bringM Xy).1 = mU mm (bringM Xy).1 := mU_mU hle1
              rw [hq1] at hZ hC1
              refine W.widen (show mU mm Xy - mm + (mU (mU mm Xy) (bringM Xy).1 - (mU mm Xy)) ≤ mU mm (bringM Xy).1 - mm from mU_st hle1 (Int.le_refl _)) (show 8 * (mU mm Xy - mm) + (8 * (mU (mU mm Xy) (bringM Xy).1 - (mU mm Xy))) ≤ 8 * (mU mm (bringM Xy).1 - mm) from mU_st8 hle1 (Int.le_refl _)) ?_
              obtain ⟨X1, hX1⟩ : ∃ zz : zM, zz = (bringM Xy).1 := ⟨_, rfl⟩
              rw [← hX1] at hZ hC1 hT1 hle1
              rw [← hX1]
              have hM1 := hC1
              have hI1 : Inv X1 := by rw [hX1]; exact hnb.1.1
              have hC01 := hM1.2.1
              refine z_if_ne (tgt := 46) F (by omega) dX7_fair_34 (by decide) (fun c_34 => ?_) (fun c_34 => ?_)
              · skip
                have htn : turnsM Xy = (X1, 1) := by rw [turns_t c_34, hX1]
                refine z_iinc (k := 2) (z := (i : Int)) (lv' := [(2, .int (zI ((i : Int) + 1))), (0, .ref (w.2.1 + (0))), (1, .int (zI (k)))]) F dX7_fair_46 hl rfl (by decide) rfl (fun ls hl => ?_)
                refine lv_goto (tgt := 25) F.1 F.2.1 dX7_fair_49 (by decide) ?_
                exact W.widen (Nat.le_refl _) (Nat.le_refl _) (ih_25 (i + 1) C1 X1 (by omega) (by omega) ⟨hM1, hI1⟩ (by rw [← h25_3, fairF_t (k := k.toNat - i) (d := (i : Int)) (M := Xy) (by omega) (by rw [htn]; show ((1 : Int) ≠ 0); decide), htn, Nat.sub_sub]; rfl) _ _ _ hZ (lv_sub hl [1, 2, 0] rfl))
              · skip
                refine z_aload_n F dX7_fair_37 rfl (lv_at hl 0 rfl) ?_
                have hng := Nx_ringT hI1
                have hrt : turnsM Xy = ringT X1 := by rw [turns_f hIy (by omega), hX1]
                have hle2 : X1 64 7 ≤ (ringT X1).1 64 7 := hng.1.2.2.2.2
                have hT2 : (ringT X1).1 64 7 ≤ (mFair X k) 64 7 := (by rw [← hrt]; exact hTt)
                refine z_backi hZ (va_runV (As := []) (rest := []) F (k_X7_ringAllTimers l w A hA (mU mm X1) C1 X1 hM1 hI1) (cwV 0 F.2.2.2.2 gX7_fair_X7_ringAllTimers rfl rfl rfl (by decide +kernel) ⟨Nat.le_of_ble_eq_true rfl, Nat.le_of_ble_eq_true rfl⟩) (z_preV hK hZ (0) (dC_s (by omega)) rfl (by decide) rfl _) rfl rfl hl.1 rfl (lv_room (Nat.le_of_ble_eq_true rfl)) dX7_fair_38 ⟨mU_st hle2 hT2, mU_st8 hle2 hT2⟩) (fun C2 H locs hC2 hZ => ?_)
                have hq2 : mU (mU mm X1) (ringT X1).1 = mU mm (ringT X1).1 := mU_mU hle2
                rw [hq2] at hZ hC2
                refine W.widen (show mU mm X1 - mm + (mU (mU mm X1) (ringT X1).1 - (mU mm X1)) ≤ mU mm (ringT X1).1 - mm from mU_st hle2 (Int.le_refl _)) (show 8 * (mU mm X1 - mm) + (8 * (mU (mU mm X1) (ringT X1).1 - (mU mm X1))) ≤ 8 * (mU mm (ringT X1).1 - mm) from mU_st8 hle2 (Int.le_refl _)) ?_
                obtain ⟨X2, hX2⟩ : ∃ zz : zM, zz = (ringT X1).1 := ⟨_, rfl⟩
                rw [← hX2] at hZ hC2 hT2 hle2
                rw [← hX2]
                have hM2 := hC2
                have hI2 : Inv X2 := by rw [hX2]; exact hng.1.1
                have hC02 := hM2.2.1
                refine z_if_ne (tgt := 46) F (by omega) dX7_fair_41 (by decide) (fun c_41 => ?_) (fun c_41 => ?_)
                · skip
                  refine z_iinc (k := 2) (z := (i : Int)) (lv' := [(2, .int (zI ((i : Int) + 1))), (0, .ref (w.2.1 + (0))), (1, .int (zI (k)))]) F dX7_fair_46 hl rfl (by decide) rfl (fun ls hl => ?_)
                  refine lv_goto (tgt := 25) F.1 F.2.1 dX7_fair_49 (by decide) ?_
                  exact W.widen (Nat.le_refl _) (Nat.le_refl _) (ih_25 (i + 1) C2 X2 (by omega) (by omega) ⟨hM2, hI2⟩ (by rw [← h25_3, fairF_t (k := k.toNat - i) (d := (i : Int)) (M := Xy) (by omega) (by rw [hrt]; exact c_41), hrt, Nat.sub_sub, hX2]; rfl) _ _ _ hZ (lv_sub hl [1, 2, 0] rfl))
                · skip
                  refine z_iload_n F dX7_fair_44 rfl (lv_at hl 2 rfl) ?_
                  have hfe : fairF k.toNat 0 X = (X2, (i : Int)) := by rw [← h25_3, fairF_f (k := k.toNat - i) (by omega) (by rw [hrt]; exact fun z => z (by omega)), hrt, hX2]
                  have hst : (mFair X k) = X2 := by rw [hmf, hfe]
                  have hfin : Sim C2 (mFair X k) (mU mm (mFair X k)) := by rw [hst]; exact hM2
                  rw [← hst] at hZ
                  exact z_iret F hr hlocks hZ (by rw [rFair, if_neg (by omega), if_neg (by omega), hfe]) hfin dX7_fair_45 (by first | exact Nat.zero_le _ | (rw [hst]; exact Nat.le_refl _)) (by first | exact Nat.zero_le _ | (rw [hst]; exact Nat.le_refl _))
        exact W.widen (Nat.zero_le _) (Nat.zero_le _) (L_25 (k.toNat + 1) 0 G X (by omega) (by omega) ⟨by rw [mU_self hM.1.2.1.1]; exact hM, hI⟩ rfl _ _ _ hZ (lv_sub hl [1, 2, 0] rfl))
      · skip
        refine z_bipush F (by decide) dX7_fair_20 ?_
        have hst : (mFair X k) = X := by rw [mFair, if_neg (by omega), if_pos (by omega)]
        have hue : mm = mU mm (mFair X k) := by rw [hst, mU_self (by omega)]
        have hfin : Sim (G) (mFair X k) (mU mm (mFair X k)) := by rw [← hue, hst]; exact hM
        rw [hue] at hZ
        exact z_iret F hr hlocks hZ (by rw [rFair, if_neg (by omega), if_pos (by omega)]) hfin dX7_fair_22 (by first | exact Nat.zero_le _ | (rw [hst]; exact Nat.le_refl _)) (by first | exact Nat.zero_le _ | (rw [hst]; exact Nat.le_refl _))
    · skip
      have hbad : ¬ (1 ≤ k ∧ k ≤ 30) := by omega
      refine z_iconst F dX7_fair_11 ?_
      have hst : (mFair X k) = X := by rw [mFair, if_pos hbad]
      have hue : mm = mU mm (mFair X k) := by rw [hst, mU_self (by omega)]
      have hfin : Sim (G) (mFair X k) (mU mm (mFair X k)) := by rw [← hue, hst]; exact hM
      rw [hue] at hZ
      exact z_iret F hr hlocks hZ (by rw [rFair, if_pos hbad]) hfin dX7_fair_12 (by first | exact Nat.zero_le _ | (rw [hst]; exact Nat.le_refl _)) (by first | exact Nat.zero_le _ | (rw [hst]; exact Nat.le_refl _))
