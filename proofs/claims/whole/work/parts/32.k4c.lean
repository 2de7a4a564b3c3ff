set_option maxHeartbeats 4000000 in
set_option maxRecDepth 100000 in
theorem k_X2_init (l : Launch) (w : zW) (dom : Nat → Prop) (A : Nat → Prop) (hDA : ∀ i, dom i → A (w.2.1 + i)) (sz : Nat) (G : zM) (y : Nat) (hl0 : dom (71 + y)) : Met l yX2_init wsX2_init { frames := 1, cells := 0, slots := 0, locals := 12 } (zPre w dom sz G [.ref (w.2.1 + (71 + y))]) (zQv w dom sz (fun C => C = G) A) (0) (0) A := by
  refine Met.ofW (cc := cX2_init) (maxL := 1) (ret := none) (by decide) rfl ?_
  intro p e s m args below meth c s₁ B hml hv
  obtain ⟨rfl, hsz, hP, hK⟩ := hv
  have F : CallFix p m c cX2_init 1 s _ wsX2_init RX2 := ⟨B.exec, B.bytes, hml, findClass_of_methodNamed B.named, atoms_spec (ws := wsX2_init) B.pre⟩
  have hr := B.returns
  have hlocks := B.notSynchronized
  have hZ : Zs w dom A s.heap sz G s.heap [] := ⟨hsz, hP, va_S.rf⟩
  have hl := lv_entry ([.ref (w.2.1 + (71 + y))]) (n := 1) (Nat.le_of_ble_eq_true rfl)
  rw [lg_entry_eq]
  generalize (lg_sl ([.ref (w.2.1 + (71 + y))]) ++ List.replicate (1 - (lg_sl ([.ref (w.2.1 + (71 + y))])).length) Slot.unset).toArray = ls at hl ⊢
  have hl : lv_has ls 1 [(0, .ref (w.2.1 + (71 + y)))] := hl
  refine z_aload_n F dX2_init_0 rfl (lv_at hl 0 rfl) ?_
  refine W.objInit F.1 F.2.1 F.2.2.2.1 (F.2.2.2.2 (.methodLink RX2 1 objectInit) (by decide +kernel)) (F.2.2.2.2 (.instanceMethod objectInit) (by decide +kernel)) (F.2.2.2.2 (.code objectInit ⟨#[0xb1]⟩ 1 none) (by decide +kernel)) rfl (by rw [F.2.2.1]; exact hl.1) rfl dX2_init_1 (Nat.le_of_ble_eq_true rfl) (Nat.le_of_ble_eq_true rfl) ?_
  exact z_vret F hr hlocks hZ rfl dX2_init_4 (by omega) (by omega)

theorem mX4_send_11 : Cond.fieldLink RX4 11 "LockedChain$Post" "letters" "[LLockedChain$Letter;" ∈ wsX4_send := by decide +kernel
theorem mX4_send_17 : Cond.fieldLink RX4 17 "LockedChain$Post" "firsts" "[LLockedChain$Letter;" ∈ wsX4_send := by decide +kernel
theorem mX4_send_20 : Cond.fieldLink RX4 20 "LockedChain$Post" "lasts" "[LLockedChain$Letter;" ∈ wsX4_send := by decide +kernel
theorem mX4_send_23 : Cond.fieldLink RX4 23 "LockedChain$Post" "sent" "I" ∈ wsX4_send := by decide +kernel
theorem mX4_send_32 : Cond.fieldLink RX4 32 "LockedChain$Letter" "sender" "I" ∈ wsX4_send := by decide +kernel
theorem mX4_send_35 : Cond.fieldLink RX4 35 "LockedChain$Letter" "kind" "I" ∈ wsX4_send := by decide +kernel
theorem mX4_send_38 : Cond.fieldLink RX4 38 "LockedChain$Letter" "height" "I" ∈ wsX4_send := by decide +kernel
theorem mX4_send_41 : Cond.fieldLink RX4 41 "LockedChain$Letter" "round" "I" ∈ wsX4_send := by decide +kernel
theorem mX4_send_44 : Cond.fieldLink RX4 44 "LockedChain$Letter" "value" "I" ∈ wsX4_send := by decide +kernel
theorem mX4_send_47 : Cond.fieldLink RX4 47 "LockedChain$Letter" "vr" "I" ∈ wsX4_send := by decide +kernel
theorem mX4_send_50 : Cond.fieldLink RX4 50 "LockedChain$Letter" "came" "I" ∈ wsX4_send := by decide +kernel
theorem mX4_send_53 : Cond.fieldLink RX4 53 "LockedChain$Letter" "next" "LLockedChain$Letter;" ∈ wsX4_send := by decide +kernel
set_option maxHeartbeats 4000000 in
set_option maxRecDepth 100000 in
theorem k_X4_send (l : Launch) (w : zW) (A : Nat → Prop) (hA : ∀ i, i < 64 ∨ 71 ≤ i → A (w.2.1 + i)) (mm : Nat) (G X : zM) (hS : PostS G X mm) (hI : Inv X) (x kd h r v vr ca own : Int) (hx : 0 ≤ x ∧ x < X 64 0) (hk : 0 ≤ kd ∧ kd ≤ 2) (hh : 0 ≤ h ∧ h ≤ 5) (hro : 0 ≤ r ∧ r ≤ 9) (hv : -1 ≤ v ∧ v ≤ 99) (hvr : -1 ≤ vr ∧ vr ≤ 9) (hcr : 0 ≤ ca ∧ ca < 128) (hca : ca = msk (fun t => decide (own ≠ 0 ∧ (t : Int) = x)) 7) : Met l yX4_send wsX4_send { frames := 2, cells := (mU mm (sendsM X x kd h r v vr own) - mm), slots := (8 * (mU mm (sendsM X x kd h r v vr own) - mm)), locals := 32 } (zPre w (dC mm) (w.2.1 + (71 + mm)) G [.ref (w.2.1 + (2)), .int (zI (x)), .int (zI (kd)), .int (zI (h)), .int (zI (r)), .int (zI (v)), .int (zI (vr)), .int (zI (ca))]) (zQv w (dC (mU mm (sendsM X x kd h r v vr own))) (w.2.1 + (71 + mU mm (sendsM X x kd h r v vr own))) (fun C => PostS C (sendsM X x kd h r v vr own) (mU mm (sendsM X x kd h r v vr own)) ∧ ∀ i, i < 64 → i ≠ 2 → i ≠ 3 → i ≠ 4 → i ≠ 5 → C i = G i) A) ((mU mm (sendsM X x kd h r v vr own) - mm)) ((8 * (mU mm (sendsM X x kd h r v vr own) - mm))) A := by
  refine Met.ofW (cc := cX4_send) (maxL := 10) (ret := none) (by decide) rfl ?_
  intro p e s m args below meth c s₁ B hml hv
  obtain ⟨rfl, hsz, hP, hK⟩ := hv
  have F : CallFix p m c cX4_send 10 s _ wsX4_send RX4 := ⟨B.exec, B.bytes, hml, findClass_of_methodNamed B.named, atoms_spec (ws := wsX4_send) B.pre⟩
  have hr := B.returns
  have hlocks := B.notSynchronized
  have hZ : Zs w (dC mm) A s.heap (w.2.1 + (71 + mm)) G s.heap [] := ⟨hsz, hP, va_S.rf⟩
  have hl := lv_entry ([.ref (w.2.1 + (2)), .int (zI (x)), .int (zI (kd)), .int (zI (h)), .int (zI (r)), .int (zI (v)), .int (zI (vr)), .int (zI (ca))]) (n := 10) (Nat.le_of_ble_eq_true rfl)
  rw [lg_entry_eq]
  generalize (lg_sl ([.ref (w.2.1 + (2)), .int (zI (x)), .int (zI (kd)), .int (zI (h)), .int (zI (r)), .int (zI (v)), .int (zI (vr)), .int (zI (ca))]) ++ List.replicate (10 - (lg_sl ([.ref (w.2.1 + (2)), .int (zI (x)), .int (zI (kd)), .int (zI (h)), .int (zI (r)), .int (zI (v)), .int (zI (vr)), .int (zI (ca))])).length) Slot.unset).toArray = ls at hl ⊢
  have hl : lv_has ls 10 [(0, .ref (w.2.1 + (2))), (1, .int (zI (x))), (2, .int (zI (kd))), (3, .int (zI (h))), (4, .int (zI (r))), (5, .int (zI (v))), (6, .int (zI (vr))), (7, .int (zI (ca)))] := hl
  have hin2 : ∀ v ∈ u_ws RX2 TX2 8, v ∈ wsX4_send := by decide +kernel
  have hin4 : ∀ v ∈ u_ws RX4 TX4 4, v ∈ wsX4_send := by decide +kernel
  obtain ⟨hS1, hS2, hS3, hS4, hS5⟩ := hS
  have hS : PostS G X mm := ⟨hS1, hS2, hS3, hS4, hS5⟩
  have hn := hI.1
  have hLL := hI.2.2.2.1
  obtain ⟨L, hL⟩ : ∃ L : Nat, X 64 7 = (L : Int) := ⟨(X 64 7).toNat, by omega⟩
  have hLn : (X 64 7).toNat = L := by omega
  have hX2 : (sendsM X x kd h r v vr own) 64 7 = if X 64 7 = 400 then 400 else X 64 7 + 1 := by rw [sendsM_64, if_pos rfl]
  have hu := mU_c mm (sendsM X x kd h r v vr own)
  refine z_iload_n F dX4_send_0 rfl (lv_at hl 2 rfl) ?_
  refine z_iload_n F dX4_send_1 rfl (lv_at hl 3 rfl) ?_
  refine z_iload F dX4_send_2 (lv_at hl 4 rfl) ?_
  refine z_bxi hZ (va_runSN (As := [.int (zI (kd)), .int (zI (h)), .int (zI (r))]) (rest := []) F (k_X7_slot l w (dC mm) A (dC_A hA) (w.2.1 + (71 + mm)) G kd h r (by omega) (by omega) (by omega)) ⟨va_cnB 3 F.2.2.2.2 gX4_send_X7_slot_n27 rfl rfl rfl hK.2.1 (F.2.2.2.2 (.initialized RX7) (by decide +kernel)) (by decide +kernel) ⟨Nat.le_of_ble_eq_true rfl, Nat.le_of_ble_eq_true rfl⟩, F.2.2.2.2 (.static yX7_slot) (by decide +kernel), trivial⟩ (z_preS hK hZ _) rfl rfl hl.1 rfl (lv_room (Nat.le_of_ble_eq_true rfl)) dX4_send_4 ⟨by show 0 + (0) ≤ (mU mm (sendsM X x kd h r v vr own) - mm); omega, by show 0 + (0) ≤ (8 * (mU mm (sendsM X x kd h r v vr own) - mm)); omega⟩) (fun H locs hZ => ?_)
  refine z_topI (show slF kd h r = (kd * 6 + h) * 10 + r from if_pos (by omega)) ?_
  refine z_istore (lv' := [(8, .int (zI ((kd * 6 + h) * 10 + r))), (0, .ref (w.2.1 + (2))), (1, .int (zI (x))), (2, .int (zI (kd))), (3, .int (zI (h))), (4, .int (zI (r))), (5, .int (zI (v))), (6, .int (zI (vr))), (7, .int (zI (ca)))]) F dX4_send_7 hl (by decide) rfl (fun ls hl => ?_)
  refine z_iload F dX4_send_9 (lv_at hl 0 rfl) ?_
  refine z_if_lt (tgt := 53) F (by omega) dX4_send_11 (by decide) (fun c_11 => ?_) (fun c_11 => ?_)
  · skip
    exfalso; omega
  · skip
    refine z_iload F dX4_send_14 (lv_at hl 0 rfl) ?_
    refine z_aload_n F dX4_send_16 rfl (lv_at hl 1 rfl) ?_
    refine z_get F hK hZ (2) (dC_s (by omega)) rfl (by decide) rfl hin4 1 (by decide) mX4_send_17 rfl rfl dX4_send_17 ?_
    refine z_alen F hK hZ (4) (dC_s (by omega)) (by decide) rfl dX4_send_20 ?_
    refine z_icmp_ge (tgt := 53) F (by omega) (by omega) dX4_send_21 (by decide) (fun c_21 => ?_) (fun c_21 => ?_)
    · skip
      exfalso; omega
    · skip
      refine z_iload F dX4_send_24 (lv_at hl 0 rfl) ?_
      refine z_aload_n F dX4_send_26 rfl (lv_at hl 1 rfl) ?_
      refine z_get F hK hZ (2) (dC_s (by omega)) rfl (by decide) rfl hin4 2 (by decide) mX4_send_20 rfl rfl dX4_send_27 ?_
      refine z_alen F hK hZ (5) (dC_s (by omega)) (by decide) rfl dX4_send_30 ?_
      refine z_icmp_ge (tgt := 53) F (by omega) (by omega) dX4_send_31 (by decide) (fun c_31 => ?_) (fun c_31 => ?_)
      · skip
        exfalso; omega
      · skip
        refine z_aload_n F dX4_send_34 rfl (lv_at hl 1 rfl) ?_
        refine z_get F hK hZ (2) (dC_s (by omega)) rfl (by decide) rfl hin4 3 (by decide) mX4_send_23 rfl rfl dX4_send_35 ?_
        have r_1 := hZ.2.1.1 (2) (3)
        refine z_if_lt (tgt := 53) F (by omega) dX4_send_38 (by decide) (fun c_38 => ?_) (fun c_38 => ?_)
        · skip
          exfalso; omega
        · skip
          refine z_aload_n F dX4_send_41 rfl (lv_at hl 1 rfl) ?_
          refine z_get F hK hZ (2) (dC_s (by omega)) rfl (by decide) rfl hin4 3 (by decide) mX4_send_23 rfl rfl dX4_send_42 ?_
          have r_2 := hZ.2.1.1 (2) (3)
          refine z_aload_n F dX4_send_45 rfl (lv_at hl 1 rfl) ?_
          refine z_get F hK hZ (2) (dC_s (by omega)) rfl (by decide) rfl hin4 0 (by decide) mX4_send_11 rfl rfl dX4_send_46 ?_
          refine z_alen F hK hZ (3) (dC_s (by omega)) (by decide) rfl dX4_send_49 ?_
          refine z_icmp_lt (tgt := 54) F (by omega) (by omega) dX4_send_50 (by decide) (fun c_50 => ?_) (fun c_50 => ?_)
          · skip
            rw [if_neg (by omega)] at hX2
            refine z_aload_n F dX4_send_54 rfl (lv_at hl 1 rfl) ?_
            refine z_get F hK hZ (2) (dC_s (by omega)) rfl (by decide) rfl hin4 0 (by decide) mX4_send_11 rfl rfl dX4_send_55 ?_
            refine z_aload_n F dX4_send_58 rfl (lv_at hl 1 rfl) ?_
            refine z_get F hK hZ (2) (dC_s (by omega)) rfl (by decide) rfl hin4 3 (by decide) mX4_send_23 rfl rfl dX4_send_59 ?_
            have r_3 := hZ.2.1.1 (2) (3)
            refine z_aald F hK hZ (3) (dC_s (by omega)) (by decide) rfl (by decide) (by omega) (by omega) dX4_send_62 ?_
            refine z_ifnonnull (tgt := 82) F dX4_send_63 (by decide) (fun c_63 => ?_) (fun c_63 => ?_)
            · skip
              have hLm : L < mm := by rw [hS1, hL, hS3 L (by omega)] at c_63; exact Decidable.by_contra fun y => by rw [if_neg y] at c_63; omega
              obtain ⟨B, hB⟩ : ∃ B : zM, B = G := ⟨_, rfl⟩
              rw [← hB] at hZ
              have hB2 : B 2 3 = (L : Int) := by rw [hB]; omega
              have hB3 : ∀ j : Nat, j < 400 → B 3 (j : Int) = if j < mm then 71 + (j : Int) else -1 := by rw [hB]; exact hS3
              have hB4 : B 4 = G 4 := by rw [hB]
              have hB5 : B 5 = G 5 := by rw [hB]
              have hBl : ∀ y : Nat, y < L → B (71 + y) = G (71 + y) := fun y hy => by rw [hB]
              have hBo : ∀ i, i < 64 → i ≠ 2 → i ≠ 3 → i ≠ 4 → i ≠ 5 → B i = G i := fun i a b c d f => by rw [hB]
              have hub : mm = mU mm (sendsM X x kd h r v vr own) := by omega
              have hur : (mm = mm ∧ X 64 7 < (mm : Int)) ∨ (mm = mm + 1 ∧ X 64 7 = (mm : Int)) := by omega
              refine z_aload_n F dX4_send_82 rfl (lv_at hl 1 rfl) ?_
              refine z_get F hK hZ (2) (dC_s (by omega)) rfl (by decide) rfl hin4 0 (by decide) mX4_send_11 rfl rfl dX4_send_83 ?_
              refine z_aload_n F dX4_send_86 rfl (lv_at hl 1 rfl) ?_
              refine z_get F hK hZ (2) (dC_s (by omega)) rfl (by decide) rfl hin4 3 (by decide) mX4_send_23 rfl rfl dX4_send_87 ?_
              have r_4 := hZ.2.1.1 (2) (3)
              refine z_aald F hK hZ (3) (dC_s (by omega)) (by decide) rfl (by decide) (by omega) (by omega) dX4_send_90 ?_
              have hl9 : B (3) (B 2 3) = ((71 + L : Nat) : Int) := by rw [hB2, hB3 L (by omega), if_pos (by omega)]; omega
              rw [hl9, zV_nat]
              refine z_astore (lv' := [(9, .ref (w.2.1 + (71 + L))), (8, .int (zI ((kd * 6 + h) * 10 + r))), (0, .ref (w.2.1 + (2))), (1, .int (zI (x))), (2, .int (zI (kd))), (3, .int (zI (h))), (4, .int (zI (r))), (5, .int (zI (v))), (6, .int (zI (vr))), (7, .int (zI (ca)))]) F dX4_send_91 hl (by decide) rfl (fun ls hl => ?_)
              refine z_aload F dX4_send_93 (lv_at hl 0 rfl) ?_
              refine z_iload_n F dX4_send_95 rfl (lv_at hl 3 rfl) ?_
              refine z_put (z := x) F hK hZ (dC_A hA) (71 + L) (dC_l (by omega)) (shp_let L) (by decide) rfl hin2 tyX2 tyX2_ok nmX2 0 (by decide) mX4_send_32 rfl rfl rfl rfl (by omega) (kz := 0) rfl rfl (Nat.le_of_ble_eq_true rfl) dX4_send_96 (fun H locs hZ => ?_)
              refine z_aload F dX4_send_99 (lv_at hl 0 rfl) ?_
              refine z_iload_n F dX4_send_101 rfl (lv_at hl 4 rfl) ?_
              refine z_put (z := kd) F hK hZ (dC_A hA) (71 + L) (dC_l (by omega)) (shp_let L) (by decide) rfl hin2 tyX2 tyX2_ok nmX2 1 (by decide) mX4_send_35 rfl rfl rfl rfl (by omega) (kz := 1) rfl rfl (Nat.le_of_ble_eq_true rfl) dX4_send_102 (fun H locs hZ => ?_)
              refine z_aload F dX4_send_105 (lv_at hl 0 rfl) ?_
              refine z_iload_n F dX4_send_107 rfl (lv_at hl 5 rfl) ?_
              refine z_put (z := h) F hK hZ (dC_A hA) (71 + L) (dC_l (by omega)) (shp_let L) (by decide) rfl hin2 tyX2 tyX2_ok nmX2 2 (by decide) mX4_send_38 rfl rfl rfl rfl (by omega) (kz := 2) rfl rfl (Nat.le_of_ble_eq_true rfl) dX4_send_108 (fun H locs hZ => ?_)
              refine z_aload F dX4_send_111 (lv_at hl 0 rfl) ?_
              refine z_iload F dX4_send_113 (lv_at hl 6 rfl) ?_
              refine z_put (z := r) F hK hZ (dC_A hA) (71 + L) (dC_l (by omega)) (shp_let L) (by decide) rfl hin2 tyX2 tyX2_ok nmX2 3 (by decide) mX4_send_41 rfl rfl rfl rfl (by omega) (kz := 3) rfl rfl (Nat.le_of_ble_eq_true rfl) dX4_send_115 (fun H locs hZ => ?_)
              refine z_aload F dX4_send_118 (lv_at hl 0 rfl) ?_
              refine z_iload F dX4_send_120 (lv_at hl 7 rfl) ?_
              refine z_put (z := v) F hK hZ (dC_A hA) (71 + L) (dC_l (by omega)) (shp_let L) (by decide) rfl hin2 tyX2 tyX2_ok nmX2 4 (by decide) mX4_send_44 rfl rfl rfl rfl (by omega) (kz := 4) rfl rfl (Nat.le_of_ble_eq_true rfl) dX4_send_122 (fun H locs hZ => ?_)
              refine z_aload F dX4_send_125 (lv_at hl 0 rfl) ?_
              refine z_iload F dX4_send_127 (lv_at hl 8 rfl) ?_
              refine z_put (z := vr) F hK hZ (dC_A hA) (71 + L) (dC_l (by omega)) (shp_let L) (by decide) rfl hin2 tyX2 tyX2_ok nmX2 5 (by decide) mX4_send_47 rfl rfl rfl rfl (by omega) (kz := 5) rfl rfl (Nat.le_of_ble_eq_true rfl) dX4_send_129 (fun H locs hZ => ?_)
              refine z_aload F dX4_send_132 (lv_at hl 0 rfl) ?_
              refine z_iload F dX4_send_134 (lv_at hl 9 rfl) ?_
              refine z_put (z := ca) F hK hZ (dC_A hA) (71 + L) (dC_l (by omega)) (shp_let L) (by decide) rfl hin2 tyX2 tyX2_ok nmX2 6 (by decide) mX4_send_50 rfl rfl rfl rfl (by omega) (kz := 6) rfl rfl (Nat.le_of_ble_eq_true rfl) dX4_send_136 (fun H locs hZ => ?_)
              refine z_aload F dX4_send_139 (lv_at hl 0 rfl) ?_
              refine lv_null F.1 F.2.1 dX4_send_141 ?_
              rw [← zV_m1 w]
              refine z_put (z := -1) F hK hZ (dC_A hA) (71 + L) (dC_l (by omega)) (shp_let L) (by decide) rfl hin2 tyX2 tyX2_ok nmX2 7 (by decide) mX4_send_53 rfl rfl (zV_nar w _) (zV_fit w _) (by omega) (kz := 7) rfl rfl (Nat.le_of_ble_eq_true rfl) dX4_send_142 (fun H locs hZ => ?_)
              refine z_aload_n F dX4_send_145 rfl (lv_at hl 2 rfl) ?_
              refine z_get F hK hZ (2) (dC_s (by omega)) rfl (by decide) rfl hin4 2 (by decide) mX4_send_20 rfl rfl dX4_send_146 ?_
              refine z_iload F dX4_send_149 (lv_at hl 1 rfl) ?_
              refine z_aald F hK hZ (5) (dC_s (by omega)) (by decide) rfl (by decide) (by omega) (by omega) dX4_send_151 ?_
              rw [show (up (up (up (up (up (up (up (up B (71 + L) (0) (x)) (71 + L) (1) (kd)) (71 + L) (2) (h)) (71 + L) (3) (r)) (71 + L) (4) (v)) (71 + L) (5) (vr)) (71 + L) (6) (ca)) (71 + L) (7) (-1)) (5) ((kd * 6 + h) * 10 + r) = B (5) ((kd * 6 + h) * 10 + r) from (by rw [up_cell _ _ _ (by omega), up_cell _ _ _ (by omega), up_cell _ _ _ (by omega), up_cell _ _ _ (by omega), up_cell _ _ _ (by omega), up_cell _ _ _ (by omega), up_cell _ _ _ (by omega), up_cell _ _ _ (by omega)])]
              have h5s : B 5 ((kd * 6 + h) * 10 + r) = lsF X ((kd * 6 + h) * 10 + r) L := by rw [hB5, (hS4 _ (by omega) (by omega)).2, hLn]
              rw [h5s]
              refine z_ifnonnull (tgt := 167) F dX4_send_152 (by decide) (fun c_152 => ?_) (fun c_152 => ?_)
              · skip
                refine z_aload_n F dX4_send_167 rfl (lv_at hl 2 rfl) ?_
                refine z_get F hK hZ (2) (dC_s (by omega)) rfl (by decide) rfl hin4 2 (by decide) mX4_send_20 rfl rfl dX4_send_168 ?_
                refine z_iload F dX4_send_171 (lv_at hl 1 rfl) ?_
                refine z_aald F hK hZ (5) (dC_s (by omega)) (by decide) rfl (by decide) (by omega) (by omega) dX4_send_173 ?_
                rw [show (up (up (up (up (up (up (up (up B (71 + L) (0) (x)) (71 + L) (1) (kd)) (71 + L) (2) (h)) (71 + L) (3) (r)) (71 + L) (4) (v)) (71 + L) (5) (vr)) (71 + L) (6) (ca)) (71 + L) (7) (-1)) (5) ((kd * 6 + h) * 10 + r) = B (5) ((kd * 6 + h) * 10 + r) from (by rw [up_cell _ _ _ (by omega), up_cell _ _ _ (by omega), up_cell _ _ _ (by omega), up_cell _ _ _ (by omega), up_cell _ _ _ (by omega), up_cell _ _ _ (by omega), up_cell _ _ _ (by omega), up_cell _ _ _ (by omega)])]
                obtain ⟨q, hq1, hq2, hq3, hq4⟩ := (lsF_rng (X := X) (k := ((kd * 6 + h) * 10 + r)) (n := L)).resolve_left (by omega)
                rw [h5s, hq1, zV_nat]
                refine z_aload F dX4_send_174 (lv_at hl 0 rfl) ?_
                rw [← zV_nat w (71 + L)]
                refine z_put (z := ((71 + L : Nat) : Int)) F hK hZ (dC_A hA) (71 + q) (dC_l (by omega)) (shp_let q) (by decide) rfl hin2 tyX2 tyX2_ok nmX2 7 (by decide) mX4_send_53 rfl rfl (zV_nar w _) (zV_fit w _) (by omega) (kz := 7) rfl rfl (Nat.le_of_ble_eq_true rfl) dX4_send_176 (fun H locs hZ => ?_)
                refine z_aload_n F dX4_send_179 rfl (lv_at hl 2 rfl) ?_
                refine z_get F hK hZ (2) (dC_s (by omega)) rfl (by decide) rfl hin4 2 (by decide) mX4_send_20 rfl rfl dX4_send_180 ?_
                refine z_iload F dX4_send_183 (lv_at hl 1 rfl) ?_
                refine z_aload F dX4_send_185 (lv_at hl 0 rfl) ?_
                refine z_aast F hK hZ (dC_A hA) (5) (dC_s (by omega)) rfl (by decide) (dC_l (by omega)) (shp_let L) (by omega) (by omega) (by omega) dX4_send_187 (fun H locs hZ => ?_)
                refine z_aload_n F dX4_send_188 rfl (lv_at hl 2 rfl) ?_
                refine lv_dup F.1 F.2.1 dX4_send_189 rfl ?_
                refine z_get (v := .int (zI (B 2 3))) F hK hZ (2) (dC_s (by omega)) rfl (by decide) rfl hin4 3 (by decide) mX4_send_23 rfl (by rw [up_cell _ _ _ (by omega), up_cell _ _ _ (by omega), up_cell _ _ _ (by omega), up_cell _ _ _ (by omega), up_cell _ _ _ (by omega), up_cell _ _ _ (by omega), up_cell _ _ _ (by omega), up_cell _ _ _ (by omega), up_cell _ _ _ (by omega), up_cell _ _ _ (by omega)]; rfl) dX4_send_190 ?_
                have r_5 : -2147483648 ≤ B 2 3 ∧ B 2 3 < 2147483648 := by have q := hZ.2.1.1 (2) (3); rw [up_cell _ _ _ (by omega), up_cell _ _ _ (by omega), up_cell _ _ _ (by omega), up_cell _ _ _ (by omega), up_cell _ _ _ (by omega), up_cell _ _ _ (by omega), up_cell _ _ _ (by omega), up_cell _ _ _ (by omega), up_cell _ _ _ (by omega), up_cell _ _ _ (by omega)] at q; exact q
                refine z_iconst F dX4_send_193 ?_
                refine z_iadd F dX4_send_194 ?_
                refine z_put (z := B 2 3 + 1) F hK hZ (dC_A hA) (2) (dC_s (by omega)) rfl (by decide) rfl hin4 tyX4 tyX4_ok nmX4 3 (by decide) mX4_send_23 rfl rfl rfl rfl (by omega) (kz := 3) rfl rfl (Nat.le_of_ble_eq_true rfl) dX4_send_195 (fun H locs hZ => ?_)
                rw [hub] at hZ
                exact z_vret F hr hlocks hZ ⟨by rw [← hub]; exact PostS_send hS hI (by omega) (by omega) hk hh hro hca hur (by rw [hLn]; exact SendS_some (by omega) hB3 hB4 hB5 hBl hq2 hq1), fun i a b c d e => by rw [up_cell _ _ _ (by omega), up_cell _ _ _ (by omega), up_cell _ _ _ (by omega), up_cell _ _ _ (by omega), up_cell _ _ _ (by omega), up_cell _ _ _ (by omega), up_cell _ _ _ (by omega), up_cell _ _ _ (by omega), up_cell _ _ _ (by omega), up_cell _ _ _ (by omega), up_cell _ _ _ (by omega)]; exact hBo i a b c d e⟩ dX4_send_198 (by omega) (by omega)
              · skip
                refine z_aload_n F dX4_send_155 rfl (lv_at hl 2 rfl) ?_
                refine z_get F hK hZ (2) (dC_s (by omega)) rfl (by decide) rfl hin4 1 (by decide) mX4_send_17 rfl rfl dX4_send_156 ?_
                refine z_iload F dX4_send_159 (lv_at hl 1 rfl) ?_
                refine z_aload F dX4_send_161 (lv_at hl 0 rfl) ?_
                refine z_aast F hK hZ (dC_A hA) (4) (dC_s (by omega)) rfl (by decide) (dC_l (by omega)) (shp_let L) (by omega) (by omega) (by omega) dX4_send_163 (fun H locs hZ => ?_)
                refine lv_goto (tgt := 179) F.1 F.2.1 dX4_send_164 (by decide) ?_
                refine z_aload_n F dX4_send_179 rfl (lv_at hl 2 rfl) ?_
                refine z_get F hK hZ (2) (dC_s (by omega)) rfl (by decide) rfl hin4 2 (by decide) mX4_send_20 rfl rfl dX4_send_180 ?_
                refine z_iload F dX4_send_183 (lv_at hl 1 rfl) ?_
                refine z_aload F dX4_send_185 (lv_at hl 0 rfl) ?_
                refine z_aast F hK hZ (dC_A hA) (5) (dC_s (by omega)) rfl (by decide) (dC_l (by omega)) (shp_let L) (by omega) (by omega) (by omega) dX4_send_187 (fun H locs hZ => ?_)
                refine z_aload_n F dX4_send_188 rfl (lv_at hl 2 rfl) ?_
                refine lv_dup F.1 F.2.1 dX4_send_189 rfl ?_
                refine z_get (v := .int (zI (B 2 3))) F hK hZ (2) (dC_s (by omega)) rfl (by decide) rfl hin4 3 (by decide) mX4_send_23 rfl (by rw [up_cell _ _ _ (by omega), up_cell _ _ _ (by omega), up_cell _ _ _ (by omega), up_cell _ _ _ (by omega), up_cell _ _ _ (by omega), up_cell _ _ _ (by omega), up_cell _ _ _ (by omega), up_cell _ _ _ (by omega), up_cell _ _ _ (by omega), up_cell _ _ _ (by omega)]; rfl) dX4_send_190 ?_
                have r_6 : -2147483648 ≤ B 2 3 ∧ B 2 3 < 2147483648 := by have q := hZ.2.1.1 (2) (3); rw [up_cell _ _ _ (by omega), up_cell _ _ _ (by omega), up_cell _ _ _ (by omega), up_cell _ _ _ (by omega), up_cell _ _ _ (by omega), up_cell _ _ _ (by omega), up_cell _ _ _ (by omega), up_cell _ _ _ (by omega), up_cell _ _ _ (by omega), up_cell _ _ _ (by omega)] at q; exact q
                refine z_iconst F dX4_send_193 ?_
                refine z_iadd F dX4_send_194 ?_
                refine z_put (z := B 2 3 + 1) F hK hZ (dC_A hA) (2) (dC_s (by omega)) rfl (by decide) rfl hin4 tyX4 tyX4_ok nmX4 3 (by decide) mX4_send_23 rfl rfl rfl rfl (by omega) (kz := 3) rfl rfl (Nat.le_of_ble_eq_true rfl) dX4_send_195 (fun H locs hZ => ?_)
                rw [hub] at hZ
                exact z_vret F hr hlocks hZ ⟨by rw [← hub]; exact PostS_send hS hI (by omega) (by omega) hk hh hro hca hur (by rw [hLn]; exact SendS_null (by omega) hB3 hB4 hB5 hBl (by have hh := lsF_rng (X := X) (k := ((kd * 6 + h) * 10 + r)) (n := L); omega)), fun i a b c d e => by rw [up_cell _ _ _ (by omega), up_cell _ _ _ (by omega), up_cell _ _ _ (by omega), up_cell _ _ _ (by omega), up_cell _ _ _ (by omega), up_cell _ _ _ (by omega), up_cell _ _ _ (by omega), up_cell _ _ _ (by omega), up_cell _ _ _ (by omega), up_cell _ _ _ (by omega), up_cell _ _ _ (by omega)]; exact hBo i a b c d e⟩ dX4_send_198 (by omega) (by omega)
            · skip
              have hLm : L = mm := by rw [hS1, hL, hS3 L (by omega)] at c_63; exact Decidable.by_contra fun y => by rw [if_pos (by omega)] at c_63; omega
              refine z_aload_n F dX4_send_66 rfl (lv_at hl 1 rfl) ?_
              refine z_get F hK hZ (2) (dC_s (by omega)) rfl (by decide) rfl hin4 0 (by decide) mX4_send_11 rfl rfl dX4_send_67 ?_
              refine z_aload_n F dX4_send_70 rfl (lv_at hl 1 rfl) ?_
              refine z_get F hK hZ (2) (dC_s (by omega)) rfl (by decide) rfl hin4 3 (by decide) mX4_send_23 rfl rfl dX4_send_71 ?_
              have r_7 := hZ.2.1.1 (2) (3)
              refine z_newL (dom' := dC (mm + 1)) (i := 71 + L) F hK hZ (shp_let L) (by omega) (fun q => by unfold dC at q; omega) (fun j hj => by unfold dC at hj ⊢; omega) (by decide +kernel) (by decide +kernel) (by decide +kernel) hin2 (by show 0 + 0 + 1 ≤ (mU mm (sendsM X x kd h r v vr own) - mm); omega) (by show 0 + 0 + 8 ≤ (8 * (mU mm (sendsM X x kd h r v vr own) - mm)); omega) dX4_send_74 (fun H hZ => ?_)
              have hZ : Zs w (dC (mm + 1)) A s.heap (w.2.1 + (71 + (mm + 1))) (dfl G (71 + L)) H _ := hZ
              refine lv_dup F.1 F.2.1 dX4_send_77 rfl ?_
              refine z_bxv hZ (va_runIN (As := []) (rest := [.ref (w.2.1 + (71 + L)), .int (zI (G 2 3)), .ref (w.2.1 + (3))]) F (k_X2_init l w (dC (mm + 1)) A (dC_A hA) (w.2.1 + (71 + (mm + 1))) (dfl G (71 + L)) L (dC_l (by omega))) ⟨va_cnB 0 F.2.2.2.2 gX4_send_X2_init_n31 rfl rfl rfl hK.2.2 (F.2.2.2.2 (.initialized RX2) (by decide +kernel)) (by decide +kernel) ⟨Nat.le_of_ble_eq_true rfl, Nat.le_of_ble_eq_true rfl⟩, rfl, F.2.2.2.2 (.instanceMethod yX2_init) (by decide +kernel)⟩ (z_preS hK hZ _) rfl rfl hl.1 rfl (lv_room (Nat.le_of_ble_eq_true rfl)) dX4_send_78 ⟨by show 0 + 0 + 1 + 0 ≤ (mU mm (sendsM X x kd h r v vr own) - mm); omega, by show 0 + 0 + 8 + 0 ≤ (8 * (mU mm (sendsM X x kd h r v vr own) - mm)); omega⟩) (fun H locs hZ => ?_)
              refine z_aast F hK hZ (dC_A hA) (3) (dC_s (by omega)) rfl (by decide) (dC_l (by omega)) (shp_let L) (by omega) (by omega) (by omega) dX4_send_81 (fun H locs hZ => ?_)
              obtain ⟨B, hB⟩ : ∃ B : zM, B = up (dfl G (71 + L)) (3) (G 2 3) (((71 + L : Nat) : Int)) := ⟨_, rfl⟩
              rw [← hB] at hZ
              have hB2 : B 2 3 = (L : Int) := by rw [hB, up_cell _ _ _ (by omega), dfl_ne _ _ (by omega)]; omega
              have hB3 : ∀ j : Nat, j < 400 → B 3 (j : Int) = if j < mm + 1 then 71 + (j : Int) else -1 := by
                intro j hj
                rw [hB, up_at]
                by_cases y : (j : Int) = G 2 3
                · simp only [y, ↓reduceIte]; rw [if_pos (by omega)]; omega
                · simp only [y, ↓reduceIte]; rw [dfl_ne _ _ (by omega), hS3 j hj]
                  by_cases y2 : j < mm
                  · rw [if_pos y2, if_pos (by omega)]
                  · rw [if_neg y2, if_neg (by omega)]
              have hB4 : B 4 = G 4 := by rw [hB, up_cell _ _ _ (by omega), dfl_ne _ _ (by omega)]
              have hB5 : B 5 = G 5 := by rw [hB, up_cell _ _ _ (by omega), dfl_ne _ _ (by omega)]
              have hBl : ∀ y : Nat, y < L → B (71 + y) = G (71 + y) := fun y hy => by rw [hB, up_cell _ _ _ (by omega), dfl_ne _ _ (by omega)]
              have hBo : ∀ i, i < 64 → i ≠ 2 → i ≠ 3 → i ≠ 4 → i ≠ 5 → B i = G i := fun i a b c d f => by rw [hB, up_cell _ _ _ (by omega), dfl_ne _ _ (by omega)]
              have hub : mm + 1 = mU mm (sendsM X x kd h r v vr own) := by omega
              have hur : (mm + 1 = mm ∧ X 64 7 < (mm : Int)) ∨ (mm + 1 = mm + 1 ∧ X 64 7 = (mm : Int)) := by omega
              refine z_aload_n F dX4_send_82 rfl (lv_at hl 1 rfl) ?_
              refine z_get F hK hZ (2) (dC_s (by omega)) rfl (by decide) rfl hin4 0 (by decide) mX4_send_11 rfl rfl dX4_send_83 ?_
              refine z_aload_n F dX4_send_86 rfl (lv_at hl 1 rfl) ?_
              refine z_get F hK hZ (2) (dC_s (by omega)) rfl (by decide) rfl hin4 3 (by decide) mX4_send_23 rfl rfl dX4_send_87 ?_
              have r_8 := hZ.2.1.1 (2) (3)
              refine z_aald F hK hZ (3) (dC_s (by omega)) (by decide) rfl (by decide) (by omega) (by omega) dX4_send_90 ?_
              have hl9 : B (3) (B 2 3) = ((71 + L : Nat) : Int) := by rw [hB2, hB3 L (by omega), if_pos (by omega)]; omega
              rw [hl9, zV_nat]
              refine z_astore (lv' := [(9, .ref (w.2.1 + (71 + L))), (8, .int (zI ((kd * 6 + h) * 10 + r))), (0, .ref (w.2.1 + (2))), (1, .int (zI (x))), (2, .int (zI (kd))), (3, .int (zI (h))), (4, .int (zI (r))), (5, .int (zI (v))), (6, .int (zI (vr))), (7, .int (zI (ca)))]) F dX4_send_91 hl (by decide) rfl (fun ls hl => ?_)
              refine z_aload F dX4_send_93 (lv_at hl 0 rfl) ?_
              refine z_iload_n F dX4_send_95 rfl (lv_at hl 3 rfl) ?_
              refine z_put (z := x) F hK hZ (dC_A hA) (71 + L) (dC_l (by omega)) (shp_let L) (by decide) rfl hin2 tyX2 tyX2_ok nmX2 0 (by decide) mX4_send_32 rfl rfl rfl rfl (by omega) (kz := 0) rfl rfl (Nat.le_of_ble_eq_true rfl) dX4_send_96 (fun H locs hZ => ?_)
              refine z_aload F dX4_send_99 (lv_at hl 0 rfl) ?_
              refine z_iload_n F dX4_send_101 rfl (lv_at hl 4 rfl) ?_
              refine z_put (z := kd) F hK hZ (dC_A hA) (71 + L) (dC_l (by omega)) (shp_let L) (by decide) rfl hin2 tyX2 tyX2_ok nmX2 1 (by decide) mX4_send_35 rfl rfl rfl rfl (by omega) (kz := 1) rfl rfl (Nat.le_of_ble_eq_true rfl) dX4_send_102 (fun H locs hZ => ?_)
              refine z_aload F dX4_send_105 (lv_at hl 0 rfl) ?_
              refine z_iload_n F dX4_send_107 rfl (lv_at hl 5 rfl) ?_
              refine z_put (z := h) F hK hZ (dC_A hA) (71 + L) (dC_l (by omega)) (shp_let L) (by decide) rfl hin2 tyX2 tyX2_ok nmX2 2 (by decide) mX4_send_38 rfl rfl rfl rfl (by omega) (kz := 2) rfl rfl (Nat.le_of_ble_eq_true rfl) dX4_send_108 (fun H locs hZ => ?_)
              refine z_aload F dX4_send_111 (lv_at hl 0 rfl) ?_
              refine z_iload F dX4_send_113 (lv_at hl 6 rfl) ?_
              refine z_put (z := r) F hK hZ (dC_A hA) (71 + L) (dC_l (by omega)) (shp_let L) (by decide) rfl hin2 tyX2 tyX2_ok nmX2 3 (by decide) mX4_send_41 rfl rfl rfl rfl (by omega) (kz := 3) rfl rfl (Nat.le_of_ble_eq_true rfl) dX4_send_115 (fun H locs hZ => ?_)
              refine z_aload F dX4_send_118 (lv_at hl 0 rfl) ?_
              refine z_iload F dX4_send_120 (lv_at hl 7 rfl) ?_
              refine z_put (z := v) F hK hZ (dC_A hA) (71 + L) (dC_l (by omega)) (shp_let L) (by decide) rfl hin2 tyX2 tyX2_ok nmX2 4 (by decide) mX4_send_44 rfl rfl rfl rfl (by omega) (kz := 4) rfl rfl (Nat.le_of_ble_eq_true rfl) dX4_send_122 (fun H locs hZ => ?_)
              refine z_aload F dX4_send_125 (lv_at hl 0 rfl) ?_
              refine z_iload F dX4_send_127 (lv_at hl 8 rfl) ?_
              refine z_put (z := vr) F hK hZ (dC_A hA) (71 + L) (dC_l (by omega)) (shp_let L) (by decide) rfl hin2 tyX2 tyX2_ok nmX2 5 (by decide) mX4_send_47 rfl rfl rfl rfl (by omega) (kz := 5) rfl rfl (Nat.le_of_ble_eq_true rfl) dX4_send_129 (fun H locs hZ => ?_)
              refine z_aload F dX4_send_132 (lv_at hl 0 rfl) ?_
              refine z_iload F dX4_send_134 (lv_at hl 9 rfl) ?_
              refine z_put (z := ca) F hK hZ (dC_A hA) (71 + L) (dC_l (by omega)) (shp_let L) (by decide) rfl hin2 tyX2 tyX2_ok nmX2 6 (by decide) mX4_send_50 rfl rfl rfl rfl (by omega) (kz := 6) rfl rfl (Nat.le_of_ble_eq_true rfl) dX4_send_136 (fun H locs hZ => ?_)
              refine z_aload F dX4_send_139 (lv_at hl 0 rfl) ?_
              refine lv_null F.1 F.2.1 dX4_send_141 ?_
              rw [← zV_m1 w]
              refine z_put (z := -1) F hK hZ (dC_A hA) (71 + L) (dC_l (by omega)) (shp_let L) (by decide) rfl hin2 tyX2 tyX2_ok nmX2 7 (by decide) mX4_send_53 rfl rfl (zV_nar w _) (zV_fit w _) (by omega) (kz := 7) rfl rfl (Nat.le_of_ble_eq_true rfl) dX4_send_142 (fun H locs hZ => ?_)
              refine z_aload_n F dX4_send_145 rfl (lv_at hl 2 rfl) ?_
              refine z_get F hK hZ (2) (dC_s (by omega)) rfl (by decide) rfl hin4 2 (by decide) mX4_send_20 rfl rfl dX4_send_146 ?_
              refine z_iload F dX4_send_149 (lv_at hl 1 rfl) ?_
              refine z_aald F hK hZ (5) (dC_s (by omega)) (by decide) rfl (by decide) (by omega) (by omega) dX4_send_151 ?_
              rw [show (up (up (up (up (up (up (up (up B (71 + L) (0) (x)) (71 + L) (1) (kd)) (71 + L) (2) (h)) (71 + L) (3) (r)) (71 + L) (4) (v)) (71 + L) (5) (vr)) (71 + L) (6) (ca)) (71 + L) (7) (-1)) (5) ((kd * 6 + h) * 10 + r) = B (5) ((kd * 6 + h) * 10 + r) from (by rw [up_cell _ _ _ (by omega), up_cell _ _ _ (by omega), up_cell _ _ _ (by omega), up_cell _ _ _ (by omega), up_cell _ _ _ (by omega), up_cell _ _ _ (by omega), up_cell _ _ _ (by omega), up_cell _ _ _ (by omega)])]
              have h5s : B 5 ((kd * 6 + h) * 10 + r) = lsF X ((kd * 6 + h) * 10 + r) L := by rw [hB5, (hS4 _ (by omega) (by omega)).2, hLn]
              rw [h5s]
              refine z_ifnonnull (tgt := 167) F dX4_send_152 (by decide) (fun c_152 => ?_) (fun c_152 => ?_)
              · skip
                refine z_aload_n F dX4_send_167 rfl (lv_at hl 2 rfl) ?_
                refine z_get F hK hZ (2) (dC_s (by omega)) rfl (by decide) rfl hin4 2 (by decide) mX4_send_20 rfl rfl dX4_send_168 ?_
                refine z_iload F dX4_send_171 (lv_at hl 1 rfl) ?_
                refine z_aald F hK hZ (5) (dC_s (by omega)) (by decide) rfl (by decide) (by omega) (by omega) dX4_send_173 ?_
                rw [show (up (up (up (up (up (up (up (up B (71 + L) (0) (x)) (71 + L) (1) (kd)) (71 + L) (2) (h)) (71 + L) (3) (r)) (71 + L) (4) (v)) (71 + L) (5) (vr)) (71 + L) (6) (ca)) (71 + L) (7) (-1)) (5) ((kd * 6 + h) * 10 + r) = B (5) ((kd * 6 + h) * 10 + r) from (by rw [up_cell _ _ _ (by omega), up_cell _ _ _ (by omega), up_cell _ _ _ (by omega), up_cell _ _ _ (by omega), up_cell _ _ _ (by omega), up_cell _ _ _ (by omega), up_cell _ _ _ (by omega), up_cell _ _ _ (by omega)])]
                obtain ⟨q, hq1, hq2, hq3, hq4⟩ := (lsF_rng (X := X) (k := ((kd * 6 + h) * 10 + r)) (n := L)).resolve_left (by omega)
                rw [h5s, hq1, zV_nat]
                refine z_aload F dX4_send_174 (lv_at hl 0 rfl) ?_
                rw [← zV_nat w (71 + L)]
                refine z_put (z := ((71 + L : Nat) : Int)) F hK hZ (dC_A hA) (71 + q) (dC_l (by omega)) (shp_let q) (by decide) rfl hin2 tyX2 tyX2_ok nmX2 7 (by decide) mX4_send_53 rfl rfl (zV_nar w _) (zV_fit w _) (by omega) (kz := 7) rfl rfl (Nat.le_of_ble_eq_true rfl) dX4_send_176 (fun H locs hZ => ?_)
                refine z_aload_n F dX4_send_179 rfl (lv_at hl 2 rfl) ?_
                refine z_get F hK hZ (2) (dC_s (by omega)) rfl (by decide) rfl hin4 2 (by decide) mX4_send_20 rfl rfl dX4_send_180 ?_
                refine z_iload F dX4_send_183 (lv_at hl 1 rfl) ?_
                refine z_aload F dX4_send_185 (lv_at hl 0 rfl) ?_
                refine z_aast F hK hZ (dC_A hA) (5) (dC_s (by omega)) rfl (by decide) (dC_l (by omega)) (shp_let L) (by omega) (by omega) (by omega) dX4_send_187 (fun H locs hZ => ?_)
                refine z_aload_n F dX4_send_188 rfl (lv_at hl 2 rfl) ?_
                refine lv_dup F.1 F.2.1 dX4_send_189 rfl ?_
                refine z_get (v := .int (zI (B 2 3))) F hK hZ (2) (dC_s (by omega)) rfl (by decide) rfl hin4 3 (by decide) mX4_send_23 rfl (by rw [up_cell _ _ _ (by omega), up_cell _ _ _ (by omega), up_cell _ _ _ (by omega), up_cell _ _ _ (by omega), up_cell _ _ _ (by omega), up_cell _ _ _ (by omega), up_cell _ _ _ (by omega), up_cell _ _ _ (by omega), up_cell _ _ _ (by omega), up_cell _ _ _ (by omega)]; rfl) dX4_send_190 ?_
                have r_9 : -2147483648 ≤ B 2 3 ∧ B 2 3 < 2147483648 := by have q := hZ.2.1.1 (2) (3); rw [up_cell _ _ _ (by omega), up_cell _ _ _ (by omega), up_cell _ _ _ (by omega), up_cell _ _ _ (by omega), up_cell _ _ _ (by omega), up_cell _ _ _ (by omega), up_cell _ _ _ (by omega), up_cell _ _ _ (by omega), up_cell _ _ _ (by omega), up_cell _ _ _ (by omega)] at q; exact q
                refine z_iconst F dX4_send_193 ?_
                refine z_iadd F dX4_send_194 ?_
                refine z_put (z := B 2 3 + 1) F hK hZ (dC_A hA) (2) (dC_s (by omega)) rfl (by decide) rfl hin4 tyX4 tyX4_ok nmX4 3 (by decide) mX4_send_23 rfl rfl rfl rfl (by omega) (kz := 3) rfl rfl (Nat.le_of_ble_eq_true rfl) dX4_send_195 (fun H locs hZ => ?_)
                rw [hub] at hZ
                exact z_vret F hr hlocks hZ ⟨by rw [← hub]; exact PostS_send hS hI (by omega) (by omega) hk hh hro hca hur (by rw [hLn]; exact SendS_some (by omega) hB3 hB4 hB5 hBl hq2 hq1), fun i a b c d e => by rw [up_cell _ _ _ (by omega), up_cell _ _ _ (by omega), up_cell _ _ _ (by omega), up_cell _ _ _ (by omega), up_cell _ _ _ (by omega), up_cell _ _ _ (by omega), up_cell _ _ _ (by omega), up_cell _ _ _ (by omega), up_cell _ _ _ (by omega), up_cell _ _ _ (by omega), up_cell _ _ _ (by omega)]; exact hBo i a b c d e⟩ dX4_send_198 (by omega) (by omega)
              · skip
                refine z_aload_n F dX4_send_155 rfl (lv_at hl 2 rfl) ?_
                refine z_get F hK hZ (2) (dC_s (by omega)) rfl (by decide) rfl hin4 1 (by decide) mX4_send_17 rfl rfl dX4_send_156 ?_
                refine z_iload F dX4_send_159 (lv_at hl 1 rfl) ?_
                refine z_aload F dX4_send_161 (lv_at hl 0 rfl) ?_
                refine z_aast F hK hZ (dC_A hA) (4) (dC_s (by omega)) rfl (by decide) (dC_l (by omega)) (shp_let L) (by omega) (by omega) (by omega) dX4_send_163 (fun H locs hZ => ?_)
                refine lv_goto (tgt := 179) F.1 F.2.1 dX4_send_164 (by decide) ?_
                refine z_aload_n F dX4_send_179 rfl (lv_at hl 2 rfl) ?_
                refine z_get F hK hZ (2) (dC_s (by omega)) rfl (by decide) rfl hin4 2 (by decide) mX4_send_20 rfl rfl dX4_send_180 ?_
                refine z_iload F dX4_send_183 (lv_at hl 1 rfl) ?_
                refine z_aload F dX4_send_185 (lv_at hl 0 rfl) ?_
                refine z_aast F hK hZ (dC_A hA) (5) (dC_s (by omega)) rfl (by decide) (dC_l (by omega)) (shp_let L) (by omega) (by omega) (by omega) dX4_send_187 (fun H locs hZ => ?_)
                refine z_aload_n F dX4_send_188 rfl (lv_at hl 2 rfl) ?_
                refine lv_dup F.1 F.2.1 dX4_send_189 rfl ?_
                refine z_get (v := .int (zI (B 2 3))) F hK hZ (2) (dC_s (by omega)) rfl (by decide) rfl hin4 3 (by decide) mX4_send_23 rfl (by rw [up_cell _ _ _ (by omega), up_cell _ _ _ (by omega), up_cell _ _ _ (by omega), up_cell _ _ _ (by omega), up_cell _ _ _ (by omega), up_cell _ _ _ (by omega), up_cell _ _ _ (by omega), up_cell _ _ _ (by omega), up_cell _ _ _ (by omega), up_cell _ _ _ (by omega)]; rfl) dX4_send_190 ?_
                have r_10 : -2147483648 ≤ B 2 3 ∧ B 2 3 < 2147483648 := by have q := hZ.2.1.1 (2) (3); rw [up_cell _ _ _ (by omega), up_cell _ _ _ (by omega), up_cell _ _ _ (by omega), up_cell _ _ _ (by omega), up_cell _ _ _ (by omega), up_cell _ _ _ (by omega), up_cell _ _ _ (by omega), up_cell _ _ _ (by omega), up_cell _ _ _ (by omega), up_cell _ _ _ (by omega)] at q; exact q
                refine z_iconst F dX4_send_193 ?_
                refine z_iadd F dX4_send_194 ?_
                refine z_put (z := B 2 3 + 1) F hK hZ (dC_A hA) (2) (dC_s (by omega)) rfl (by decide) rfl hin4 tyX4 tyX4_ok nmX4 3 (by decide) mX4_send_23 rfl rfl rfl rfl (by omega) (kz := 3) rfl rfl (Nat.le_of_ble_eq_true rfl) dX4_send_195 (fun H locs hZ => ?_)
                rw [hub] at hZ
                exact z_vret F hr hlocks hZ ⟨by rw [← hub]; exact PostS_send hS hI (by omega) (by omega) hk hh hro hca hur (by rw [hLn]; exact SendS_null (by omega) hB3 hB4 hB5 hBl (by have hh := lsF_rng (X := X) (k := ((kd * 6 + h) * 10 + r)) (n := L); omega)), fun i a b c d e => by rw [up_cell _ _ _ (by omega), up_cell _ _ _ (by omega), up_cell _ _ _ (by omega), up_cell _ _ _ (by omega), up_cell _ _ _ (by omega), up_cell _ _ _ (by omega), up_cell _ _ _ (by omega), up_cell _ _ _ (by omega), up_cell _ _ _ (by omega), up_cell _ _ _ (by omega), up_cell _ _ _ (by omega)]; exact hBo i a b c d e⟩ dX4_send_198 (by omega) (by omega)
          · skip
            have hXX : (sendsM X x kd h r v vr own) = X := sendsM_full (by omega)
            have hub : mm = mU mm (sendsM X x kd h r v vr own) := by rw [hX2, if_pos (by omega)] at hu; omega
            rw [hub] at hZ
            exact z_vret F hr hlocks hZ ⟨by rw [← hub, hXX]; exact hS, fun _ _ _ _ _ _ => rfl⟩ dX4_send_53 (by omega) (by omega)
