theorem mX7_say_19 : Cond.fieldLink RX7 19 "LockedChain" "post" "LLockedChain$Post;" ∈ wsX7_say := by decide +kernel
theorem mX7_say_41 : Cond.fieldLink RX7 41 "LockedChain" "begun" "Z" ∈ wsX7_say := by decide +kernel
theorem mX7_say_60 : Cond.fieldLink RX7 60 "LockedChain$Seat" "isFalse" "Z" ∈ wsX7_say := by decide +kernel
set_option maxHeartbeats 4000000 in
set_option maxRecDepth 100000 in
theorem k_X7_say (l : Launch) (w : zW) (A : Nat → Prop) (hA : ∀ i, i < 64 ∨ 71 ≤ i → A (w.2.1 + i)) (mm : Nat) (G X : zM) (hM : Sim G X mm) (hI : Inv X) (x kd h r v vr : Int) (hx : -2147483648 ≤ x ∧ x < 2147483648) (hkd : -2147483648 ≤ kd ∧ kd < 2147483648) (hh : -2147483648 ≤ h ∧ h < 2147483648) (hr : -2147483648 ≤ r ∧ r < 2147483648) (hv : -2147483648 ≤ v ∧ v < 2147483648) (hvr : -2147483648 ≤ vr ∧ vr < 2147483648) : Met l yX7_say wsX7_say { frames := 3, cells := (mU mm (mSay X x kd h r v vr) - mm), slots := (8 * (mU mm (mSay X x kd h r v vr) - mm)), locals := 61 } (zPre w (dC mm) (w.2.1 + (71 + mm)) G [.ref (w.2.1 + (0)), .int (zI (x)), .int (zI (kd)), .int (zI (h)), .int (zI (r)), .int (zI (v)), .int (zI (vr))]) (zQi w (dC (mU mm (mSay X x kd h r v vr))) (w.2.1 + (71 + mU mm (mSay X x kd h r v vr))) (rSay X x kd h r v vr) (fun C => Sim C (mSay X x kd h r v vr) (mU mm (mSay X x kd h r v vr))) A) ((mU mm (mSay X x kd h r v vr) - mm)) ((8 * (mU mm (mSay X x kd h r v vr) - mm))) A := by
  refine Met.ofW (cc := cX7_say) (maxL := 9) (ret := (some .int)) (by decide) rfl ?_
  intro p e s m args below meth c s₁ B hml hv
  obtain ⟨rfl, hsz, hP, hK⟩ := hv
  have F : CallFix p m c cX7_say 9 s _ wsX7_say RX7 := ⟨B.exec, B.bytes, hml, findClass_of_methodNamed B.named, atoms_spec (ws := wsX7_say) B.pre⟩
  have hr := B.returns
  have hlocks := B.notSynchronized
  have hZ : Zs w (dC mm) A s.heap (w.2.1 + (71 + mm)) G s.heap [] := ⟨hsz, hP, va_S.rf⟩
  have hl := lv_entry ([.ref (w.2.1 + (0)), .int (zI (x)), .int (zI (kd)), .int (zI (h)), .int (zI (r)), .int (zI (v)), .int (zI (vr))]) (n := 9) (Nat.le_of_ble_eq_true rfl)
  rw [lg_entry_eq]
  generalize (lg_sl ([.ref (w.2.1 + (0)), .int (zI (x)), .int (zI (kd)), .int (zI (h)), .int (zI (r)), .int (zI (v)), .int (zI (vr))]) ++ List.replicate (9 - (lg_sl ([.ref (w.2.1 + (0)), .int (zI (x)), .int (zI (kd)), .int (zI (h)), .int (zI (r)), .int (zI (v)), .int (zI (vr))])).length) Slot.unset).toArray = ls at hl ⊢
  have hl : lv_has ls 9 [(0, .ref (w.2.1 + (0))), (1, .int (zI (x))), (2, .int (zI (kd))), (3, .int (zI (h))), (4, .int (zI (r))), (5, .int (zI (v))), (6, .int (zI (vr)))] := hl
  have hin6 : ∀ v ∈ u_ws RX6 TX6 15, v ∈ wsX7_say := by decide +kernel
  have hin7 : ∀ v ∈ u_ws RX7 TX7 6, v ∈ wsX7_say := by decide +kernel
  have hn := hI.1
  have hLL := hI.2.2.2.1
  have hS : PostS G X mm := hM.1
  obtain ⟨hS1, hS2, hS3, hS4, hS5⟩ := hM.1
  have hC0 := hM.2.1
  have hu := mU_c mm (mSay X x kd h r v vr)
  refine z_aload_n F dX7_say_0 rfl (lv_at hl 0 rfl) ?_
  refine z_iload_n F dX7_say_1 rfl (lv_at hl 1 rfl) ?_
  refine z_bxr hZ (va_runV (As := [.int (zI (x))]) (rest := []) F (k_X7_seated l w (dC mm) A (dC_A hA) (w.2.1 + (71 + mm)) G X mm (fun i h => dC_s h) (fun i h => dC_l h) hM hI x (by omega)) (cwV 1 F.2.2.2.2 gX7_say_X7_seated rfl rfl rfl (by decide +kernel) ⟨Nat.le_of_ble_eq_true rfl, Nat.le_of_ble_eq_true rfl⟩) (z_preV hK hZ (0) (dC_s (by omega)) rfl (by decide) rfl _) rfl rfl hl.1 rfl (lv_room (Nat.le_of_ble_eq_true rfl)) dX7_say_2 ⟨by show 0 + (0) ≤ (mU mm (mSay X x kd h r v vr) - mm); omega, by show 0 + (0) ≤ (8 * (mU mm (mSay X x kd h r v vr) - mm)); omega⟩) (fun H locs hZ => ?_)
  refine z_vstore (lv' := [(7, zV w (stV X x)), (0, .ref (w.2.1 + (0))), (1, .int (zI (x))), (2, .int (zI (kd))), (3, .int (zI (h))), (4, .int (zI (r))), (5, .int (zI (v))), (6, .int (zI (vr)))]) F dX7_say_5 hl (by decide) (by unfold zV; (repeat' split) <;> rfl) (fun ls hl => ?_)
  refine z_vload (w := w) F dX7_say_7 (lv_at hl 0 rfl) ?_
  refine z_ifnull (tgt := 33) F dX7_say_9 (by decide) (fun c_9 => ?_) (fun c_9 => ?_)
  · skip
    have hng := stV_neg c_9
    have hbad : ¬ okSay X x kd h r v vr := fun q => by unfold okSay at q; omega
    refine z_iconst F dX7_say_33 ?_
    have hst : (mSay X x kd h r v vr) = X := by rw [mSay, if_pos hbad]
    have hue : mm = mU mm (mSay X x kd h r v vr) := by rw [hst, mU_self (by omega)]
    have hfin : Sim (G) (mSay X x kd h r v vr) (mU mm (mSay X x kd h r v vr)) := by rw [← hue, hst]; exact hM
    rw [hue] at hZ
    exact z_iret F hr hlocks hZ (by rw [rSay, if_pos hbad]) hfin dX7_say_34 (by omega) (by omega)
  · skip
    obtain ⟨j, rfl, hj0, hj, hz⟩ := stV_pos hn (by assumption)
    rw [hz, zV_nat] at hl
    refine z_iload_n F dX7_say_12 rfl (lv_at hl 3 rfl) ?_
    refine z_iload_n F dX7_say_13 rfl (lv_at hl 4 rfl) ?_
    refine z_iload F dX7_say_14 (lv_at hl 5 rfl) ?_
    refine z_bxi hZ (va_runS (As := [.int (zI (kd)), .int (zI (h)), .int (zI (r))]) (rest := []) F (k_X7_slot l w (dC mm) A (dC_A hA) (w.2.1 + (71 + mm)) G kd h r (by omega) (by omega) (by omega)) (va_cwS 3 F.2.2.2.2 gX7_say_X7_slot rfl rfl rfl (by decide +kernel) ⟨Nat.le_of_ble_eq_true rfl, Nat.le_of_ble_eq_true rfl⟩) (z_preS hK hZ _) rfl rfl hl.1 rfl (lv_room (Nat.le_of_ble_eq_true rfl)) dX7_say_16 ⟨by show 0 + 0 + (0) ≤ (mU mm (mSay X (j : Int) kd h r v vr) - mm); omega, by show 0 + 0 + (0) ≤ (8 * (mU mm (mSay X (j : Int) kd h r v vr) - mm)); omega⟩) (fun H locs hZ => ?_)
    have hslr := slF_rng kd h r
    refine z_if_lt (tgt := 33) F (by omega) dX7_say_19 (by decide) (fun c_19 => ?_) (fun c_19 => ?_)
    · skip
      have hsn := slF_neg c_19
      have hbad : ¬ okSay X (j : Int) kd h r v vr := fun q => by unfold okSay at q; omega
      refine z_iconst F dX7_say_33 ?_
      have hst : (mSay X (j : Int) kd h r v vr) = X := by rw [mSay, if_pos hbad]
      have hue : mm = mU mm (mSay X (j : Int) kd h r v vr) := by rw [hst, mU_self (by omega)]
      have hfin : Sim (G) (mSay X (j : Int) kd h r v vr) (mU mm (mSay X (j : Int) kd h r v vr)) := by rw [← hue, hst]; exact hM
      rw [hue] at hZ
      exact z_iret F hr hlocks hZ (by rw [rSay, if_pos hbad]) hfin dX7_say_34 (by omega) (by omega)
    · skip
      have hsp := slF_pos c_19
      refine z_iload_n F dX7_say_22 rfl (lv_at hl 3 rfl) ?_
      refine z_iload F dX7_say_23 (lv_at hl 6 rfl) ?_
      refine z_iload F dX7_say_25 (lv_at hl 7 rfl) ?_
      refine z_bxi hZ (va_runS (As := [.int (zI (kd)), .int (zI (v)), .int (zI (vr))]) (rest := []) F (k_X7_isSayable l w (dC mm) A (dC_A hA) (w.2.1 + (71 + mm)) G kd v vr (by omega) (by omega) (by omega)) (va_cwS 3 F.2.2.2.2 gX7_say_X7_isSayable rfl rfl rfl (by decide +kernel) ⟨Nat.le_of_ble_eq_true rfl, Nat.le_of_ble_eq_true rfl⟩) (z_preS hK hZ _) rfl rfl hl.1 rfl (lv_room (Nat.le_of_ble_eq_true rfl)) dX7_say_27 ⟨by show 0 + 0 + 0 + (0) ≤ (mU mm (mSay X (j : Int) kd h r v vr) - mm); omega, by show 0 + 0 + 0 + (0) ≤ (8 * (mU mm (mSay X (j : Int) kd h r v vr) - mm)); omega⟩) (fun H locs hZ => ?_)
      refine z_ifB_ne (tgt := 35) F dX7_say_30 (by decide) (fun c_30 => ?_) (fun c_30 => ?_)
      · skip
        have hok : okSay X (j : Int) kd h r v vr := by unfold okSay; omega
        refine z_aload F dX7_say_35 (lv_at hl 0 rfl) ?_
        refine z_get F hK hZ (8 + 8 * j) (dC_s (by omega)) (shp_seat j hj) (by decide) rfl hin6 1 (by decide) mX7_say_60 rfl rfl dX7_say_37 ?_
        have r_1 := hZ.2.1.1 (8 + 8 * j) (1)
        refine z_topI (show G (8 + 8 * j) 1 = X 65 (j : Int) from (Sim_f hM (j := j) (by omega)).2.1) ?_
        have r_2 : -2147483648 ≤ X 65 (j : Int) ∧ X 65 (j : Int) < 2147483648 := by rw [← show G (8 + 8 * j) 1 = X 65 (j : Int) from (Sim_f hM (j := j) (by omega)).2.1]; exact hZ.2.1.1 _ _
        refine z_if_eq (tgt := 50) F (by omega) dX7_say_40 (by decide) (fun c_40 => ?_) (fun c_40 => ?_)
        · skip
          refine z_bipush F (by decide) dX7_say_50 ?_
          have hst : (mSay X (j : Int) kd h r v vr) = X := by rw [mSay, if_neg (fun q => q hok), if_pos (by omega)]
          have hue : mm = mU mm (mSay X (j : Int) kd h r v vr) := by rw [hst, mU_self (by omega)]
          have hfin : Sim (G) (mSay X (j : Int) kd h r v vr) (mU mm (mSay X (j : Int) kd h r v vr)) := by rw [← hue, hst]; exact hM
          rw [hue] at hZ
          exact z_iret F hr hlocks hZ (by rw [rSay, if_neg (fun q => q hok), if_pos (by omega)]) hfin dX7_say_52 (by omega) (by omega)
        · skip
          refine z_aload_n F dX7_say_43 rfl (lv_at hl 1 rfl) ?_
          refine z_get F hK hZ (0) (dC_s (by omega)) rfl (by decide) rfl hin7 4 (by decide) mX7_say_41 rfl rfl dX7_say_44 ?_
          have r_3 := hZ.2.1.1 (0) (4)
          refine z_topI (show G 0 4 = X 64 2 from hC0.1) ?_
          have r_4 : -2147483648 ≤ X 64 2 ∧ X 64 2 < 2147483648 := by rw [← show G 0 4 = X 64 2 from hC0.1]; exact hZ.2.1.1 _ _
          refine z_if_ne (tgt := 53) F (by omega) dX7_say_47 (by decide) (fun c_47 => ?_) (fun c_47 => ?_)
          · skip
            refine z_aload_n F dX7_say_53 rfl (lv_at hl 1 rfl) ?_
            refine z_get F hK hZ (0) (dC_s (by omega)) rfl (by decide) rfl hin7 1 (by decide) mX7_say_19 rfl rfl dX7_say_54 ?_
            refine z_bxi hZ (va_runV (As := []) (rest := []) F (k_X4_isFull l w (dC mm) A (dC_A hA) (w.2.1 + (71 + mm)) G (fun i h => dC_s h)) (cwV 0 F.2.2.2.2 gX7_say_X4_isFull rfl rfl rfl (by decide +kernel) ⟨Nat.le_of_ble_eq_true rfl, Nat.le_of_ble_eq_true rfl⟩) (z_preV hK hZ (2) (dC_s (by omega)) rfl (by decide) rfl _) rfl rfl hl.1 rfl (lv_room (Nat.le_of_ble_eq_true rfl)) dX7_say_57 ⟨by show 0 + 0 + 0 + 0 + (0) ≤ (mU mm (mSay X (j : Int) kd h r v vr) - mm); omega, by show 0 + 0 + 0 + 0 + (0) ≤ (8 * (mU mm (mSay X (j : Int) kd h r v vr) - mm)); omega⟩) (fun H locs hZ => ?_)
            refine z_topI (show bI (400 ≤ G 2 3) = bI (400 ≤ X 64 7) from by rw [hS1]) ?_
            refine z_ifB_eq (tgt := 66) F dX7_say_60 (by decide) (fun c_60 => ?_) (fun c_60 => ?_)
            · skip
              refine z_aload_n F dX7_say_66 rfl (lv_at hl 1 rfl) ?_
              refine z_get F hK hZ (0) (dC_s (by omega)) rfl (by decide) rfl hin7 1 (by decide) mX7_say_19 rfl rfl dX7_say_67 ?_
              refine z_bxi hZ (va_runV (As := []) (rest := []) F (k_X4_sent l w (dC mm) A (dC_A hA) (w.2.1 + (71 + mm)) G (fun i h => dC_s h)) (cwV 0 F.2.2.2.2 gX7_say_X4_sent rfl rfl rfl (by decide +kernel) ⟨Nat.le_of_ble_eq_true rfl, Nat.le_of_ble_eq_true rfl⟩) (z_preV hK hZ (2) (dC_s (by omega)) rfl (by decide) rfl _) rfl rfl hl.1 rfl (lv_room (Nat.le_of_ble_eq_true rfl)) dX7_say_70 ⟨by show 0 + 0 + 0 + 0 + 0 + (0) ≤ (mU mm (mSay X (j : Int) kd h r v vr) - mm); omega, by show 0 + 0 + 0 + 0 + 0 + (0) ≤ (8 * (mU mm (mSay X (j : Int) kd h r v vr) - mm)); omega⟩) (fun H locs hZ => ?_)
              refine z_topI (show G 2 3 = X 64 7 from hM.1.1) ?_
              refine z_istore (lv' := [(8, .int (zI (X 64 7))), (7, .ref (w.2.1 + (8 + 8 * j))), (0, .ref (w.2.1 + (0))), (1, .int (zI ((j : Int)))), (2, .int (zI (kd))), (3, .int (zI (h))), (4, .int (zI (r))), (5, .int (zI (v))), (6, .int (zI (vr)))]) F dX7_say_73 hl (by decide) rfl (fun ls hl => ?_)
              refine z_aload_n F dX7_say_75 rfl (lv_at hl 2 rfl) ?_
              refine z_get F hK hZ (0) (dC_s (by omega)) rfl (by decide) rfl hin7 1 (by decide) mX7_say_19 rfl rfl dX7_say_76 ?_
              refine z_iload_n F dX7_say_79 rfl (lv_at hl 3 rfl) ?_
              refine z_iload_n F dX7_say_80 rfl (lv_at hl 4 rfl) ?_
              refine z_iload_n F dX7_say_81 rfl (lv_at hl 5 rfl) ?_
              refine z_iload F dX7_say_82 (lv_at hl 6 rfl) ?_
              refine z_iload F dX7_say_84 (lv_at hl 7 rfl) ?_
              refine z_iload_n F dX7_say_86 rfl (lv_at hl 4 rfl) ?_
              refine z_if_ne (tgt := 95) F (by omega) dX7_say_87 (by decide) (fun c_87 => ?_) (fun c_87 => ?_)
              · skip
                refine z_iconst F dX7_say_95 ?_
                refine z_iconst F dX7_say_96 ?_
                have hst : (mSay X (j : Int) kd h r v vr) = (sendsM X ((j : Int)) kd h r v (-1) 0) := by rw [mSay, if_neg (fun q => q hok), if_neg (by omega), if_neg (by omega)]; rw [if_neg (by omega)]
                have hue : mU mm (sendsM X ((j : Int)) kd h r v (-1) 0) = mU mm (mSay X (j : Int) kd h r v vr) := by rw [hst]
                refine z_backv hZ (va_runV (As := [.int (zI ((j : Int))), .int (zI (kd)), .int (zI (h)), .int (zI (r)), .int (zI (v)), .int (zI (-1)), .int (zI (0))]) (rest := []) F (k_X4_send l w A hA mm G X hS hI ((j : Int)) kd h r v (-1) 0 0 (by omega) (by omega) (by omega) (by omega) (by omega) (by omega) (by omega) (msk_own0 _)) (cwV 7 F.2.2.2.2 gX7_say_X4_send rfl rfl rfl (by decide +kernel) ⟨Nat.le_of_ble_eq_true rfl, Nat.le_of_ble_eq_true rfl⟩) (z_preV hK hZ (2) (dC_s (by omega)) rfl (by decide) rfl _) rfl rfl hl.1 rfl (lv_room (Nat.le_of_ble_eq_true rfl)) dX7_say_97 ⟨by show 0 + 0 + 0 + 0 + 0 + 0 + (mU mm (sendsM X ((j : Int)) kd h r v (-1) 0) - mm) ≤ (mU mm (mSay X (j : Int) kd h r v vr) - mm); omega, by show 0 + 0 + 0 + 0 + 0 + 0 + (8 * (mU mm (sendsM X ((j : Int)) kd h r v (-1) 0) - mm)) ≤ (8 * (mU mm (mSay X (j : Int) kd h r v vr) - mm)); omega⟩) (fun C1 H locs hC1 hZ => ?_)
                have hfin : Sim C1 (mSay X (j : Int) kd h r v vr) (mU mm (mSay X (j : Int) kd h r v vr)) := by rw [hst]; exact Sim_send hM hC1.1 hC1.2
                rw [hue] at hZ
                refine z_iload F dX7_say_100 (lv_at hl 0 rfl) ?_
                exact z_iret F hr hlocks hZ (by rw [rSay, if_neg (fun q => q hok), if_neg (by omega), if_neg (by omega)]) hfin dX7_say_102 (by omega) (by omega)
              · skip
                refine z_iload F dX7_say_90 (lv_at hl 8 rfl) ?_
                refine lv_goto (tgt := 96) F.1 F.2.1 dX7_say_92 (by decide) ?_
                refine z_iconst F dX7_say_96 ?_
                have hst : (mSay X (j : Int) kd h r v vr) = (sendsM X ((j : Int)) kd h r v vr 0) := by rw [mSay, if_neg (fun q => q hok), if_neg (by omega), if_neg (by omega)]; rw [if_pos (by omega)]
                have hue : mU mm (sendsM X ((j : Int)) kd h r v vr 0) = mU mm (mSay X (j : Int) kd h r v vr) := by rw [hst]
                refine z_backv hZ (va_runV (As := [.int (zI ((j : Int))), .int (zI (kd)), .int (zI (h)), .int (zI (r)), .int (zI (v)), .int (zI (vr)), .int (zI (0))]) (rest := []) F (k_X4_send l w A hA mm G X hS hI ((j : Int)) kd h r v vr 0 0 (by omega) (by omega) (by omega) (by omega) (by omega) (by omega) (by omega) (msk_own0 _)) (cwV 7 F.2.2.2.2 gX7_say_X4_send rfl rfl rfl (by decide +kernel) ⟨Nat.le_of_ble_eq_true rfl, Nat.le_of_ble_eq_true rfl⟩) (z_preV hK hZ (2) (dC_s (by omega)) rfl (by decide) rfl _) rfl rfl hl.1 rfl (lv_room (Nat.le_of_ble_eq_true rfl)) dX7_say_97 ⟨by show 0 + 0 + 0 + 0 + 0 + 0 + (mU mm (sendsM X ((j : Int)) kd h r v vr 0) - mm) ≤ (mU mm (mSay X (j : Int) kd h r v vr) - mm); omega, by show 0 + 0 + 0 + 0 + 0 + 0 + (8 * (mU mm (sendsM X ((j : Int)) kd h r v vr 0) - mm)) ≤ (8 * (mU mm (mSay X (j : Int) kd h r v vr) - mm)); omega⟩) (fun C1 H locs hC1 hZ => ?_)
                have hfin : Sim C1 (mSay X (j : Int) kd h r v vr) (mU mm (mSay X (j : Int) kd h r v vr)) := by rw [hst]; exact Sim_send hM hC1.1 hC1.2
                rw [hue] at hZ
                refine z_iload F dX7_say_100 (lv_at hl 0 rfl) ?_
                exact z_iret F hr hlocks hZ (by rw [rSay, if_neg (fun q => q hok), if_neg (by omega), if_neg (by omega)]) hfin dX7_say_102 (by omega) (by omega)
            · skip
              refine z_bipush F (by decide) dX7_say_63 ?_
              have hst : (mSay X (j : Int) kd h r v vr) = X := by rw [mSay, if_neg (fun q => q hok), if_neg (by omega), if_pos (by omega)]
              have hue : mm = mU mm (mSay X (j : Int) kd h r v vr) := by rw [hst, mU_self (by omega)]
              have hfin : Sim (G) (mSay X (j : Int) kd h r v vr) (mU mm (mSay X (j : Int) kd h r v vr)) := by rw [← hue, hst]; exact hM
              rw [hue] at hZ
              exact z_iret F hr hlocks hZ (by rw [rSay, if_neg (fun q => q hok), if_neg (by omega), if_pos (by omega)]) hfin dX7_say_65 (by omega) (by omega)
          · skip
            refine z_bipush F (by decide) dX7_say_50 ?_
            have hst : (mSay X (j : Int) kd h r v vr) = X := by rw [mSay, if_neg (fun q => q hok), if_pos (by omega)]
            have hue : mm = mU mm (mSay X (j : Int) kd h r v vr) := by rw [hst, mU_self (by omega)]
            have hfin : Sim (G) (mSay X (j : Int) kd h r v vr) (mU mm (mSay X (j : Int) kd h r v vr)) := by rw [← hue, hst]; exact hM
            rw [hue] at hZ
            exact z_iret F hr hlocks hZ (by rw [rSay, if_neg (fun q => q hok), if_pos (by omega)]) hfin dX7_say_52 (by omega) (by omega)
      · skip
        have hbad : ¬ okSay X (j : Int) kd h r v vr := fun q => by unfold okSay at q; omega
        refine z_iconst F dX7_say_33 ?_
        have hst : (mSay X (j : Int) kd h r v vr) = X := by rw [mSay, if_pos hbad]
        have hue : mm = mU mm (mSay X (j : Int) kd h r v vr) := by rw [hst, mU_self (by omega)]
        have hfin : Sim (G) (mSay X (j : Int) kd h r v vr) (mU mm (mSay X (j : Int) kd h r v vr)) := by rw [← hue, hst]; exact hM
        rw [hue] at hZ
        exact z_iret F hr hlocks hZ (by rw [rSay, if_pos hbad]) hfin dX7_say_34 (by omega) (by omega)
