theorem mX7_seated_10 : Cond.fieldLink RX7 10 "LockedChain" "council" "LLockedChain$Council;" ∈ wsX7_seated := by decide +kernel
theorem mX7_seated_34 : Cond.fieldLink RX7 34 "LockedChain" "table" "[LLockedChain$Seat;" ∈ wsX7_seated := by decide +kernel
set_option maxHeartbeats 4000000 in
set_option maxRecDepth 100000 in
theorem k_X7_seated (l : Launch) (w : zW) (dom : Nat → Prop) (A : Nat → Prop) (hDA : ∀ i, dom i → A (w.2.1 + i)) (sz : Nat) (G : zM) (X : zM) (mm : Nat) (hd : ∀ i, i < 64 → dom i) (hdl : ∀ i, 71 ≤ i ∧ i < 71 + mm → dom i) (hM : Sim G X mm) (hI : Inv X) (v : Int) (hv : -2147483648 ≤ v ∧ v < 2147483648) : Met l yX7_seated wsX7_seated { frames := 1, cells := 0, slots := 0, locals := 20 } (zPre w dom sz G [.ref (w.2.1 + (0)), .int (zI (v))]) (zQr w dom sz (stV X v) (fun C => C = G) A) (0) (0) A := by
  refine Met.ofW (cc := cX7_seated) (maxL := 2) (ret := (some (.object "LockedChain$Seat"))) (by decide) rfl ?_
  intro p e s m args below meth c s₁ B hml hv
  obtain ⟨rfl, hsz, hP, hK⟩ := hv
  have F : CallFix p m c cX7_seated 2 s _ wsX7_seated RX7 := ⟨B.exec, B.bytes, hml, findClass_of_methodNamed B.named, atoms_spec (ws := wsX7_seated) B.pre⟩
  have hr := B.returns
  have hlocks := B.notSynchronized
  have hZ : Zs w dom A s.heap sz G s.heap [] := ⟨hsz, hP, va_S.rf⟩
  have hl := lv_entry ([.ref (w.2.1 + (0)), .int (zI (v))]) (n := 2) (Nat.le_of_ble_eq_true rfl)
  rw [lg_entry_eq]
  generalize (lg_sl ([.ref (w.2.1 + (0)), .int (zI (v))]) ++ List.replicate (2 - (lg_sl ([.ref (w.2.1 + (0)), .int (zI (v))])).length) Slot.unset).toArray = ls at hl ⊢
  have hl : lv_has ls 2 [(0, .ref (w.2.1 + (0))), (1, .int (zI (v)))] := hl
  have hin7 : ∀ v ∈ u_ws RX7 TX7 6, v ∈ wsX7_seated := by decide +kernel
  have hn := hI.1
  have hLL := hI.2.2.2.1
  have hS : PostS G X mm := hM.1
  obtain ⟨hS1, hS2, hS3, hS4, hS5⟩ := hM.1
  have hC0 := hM.2.1
  refine z_iload_n F dX7_seated_0 rfl (lv_at hl 1 rfl) ?_
  refine z_if_lt (tgt := 33) F (by omega) dX7_seated_1 (by decide) (fun c_1 => ?_) (fun c_1 => ?_)
  · skip
    refine lv_null F.1 F.2.1 dX7_seated_33 ?_
    rw [← zV_m1 w]
    exact z_aret F hr (Or.inl ⟨_, rfl⟩) hlocks hZ (by first | exact st_eq hM (by omega) (by omega) | exact st_no (by omega)) rfl dX7_seated_34 (by omega) (by omega)
  · skip
    refine z_iload_n F dX7_seated_4 rfl (lv_at hl 1 rfl) ?_
    refine z_aload_n F dX7_seated_5 rfl (lv_at hl 0 rfl) ?_
    refine z_get F hK hZ (0) (hd _ (by omega)) rfl (by decide) rfl hin7 0 (by decide) mX7_seated_10 rfl rfl dX7_seated_6 ?_
    refine z_bxi hZ (va_runV (As := []) (rest := [.int (zI (v))]) F (k_X1_size l w dom A hDA sz G hd) (cwV 0 F.2.2.2.2 gX7_seated_X1_size rfl rfl rfl (by decide +kernel) ⟨Nat.le_of_ble_eq_true rfl, Nat.le_of_ble_eq_true rfl⟩) (z_preV hK hZ (1) (hd _ (by omega)) rfl (by decide) rfl _) rfl rfl hl.1 rfl (lv_room (Nat.le_of_ble_eq_true rfl)) dX7_seated_9 ⟨Nat.le_of_ble_eq_true rfl, Nat.le_of_ble_eq_true rfl⟩) (fun H locs hZ => ?_)
    refine z_topI (show G 1 0 = X 64 0 from hC0.2.2) ?_
    refine z_icmp_ge (tgt := 33) F (by omega) (by omega) dX7_seated_12 (by decide) (fun c_12 => ?_) (fun c_12 => ?_)
    · skip
      refine lv_null F.1 F.2.1 dX7_seated_33 ?_
      rw [← zV_m1 w]
      exact z_aret F hr (Or.inl ⟨_, rfl⟩) hlocks hZ (by first | exact st_eq hM (by omega) (by omega) | exact st_no (by omega)) rfl dX7_seated_34 (by omega) (by omega)
    · skip
      refine z_iload_n F dX7_seated_15 rfl (lv_at hl 1 rfl) ?_
      refine z_aload_n F dX7_seated_16 rfl (lv_at hl 0 rfl) ?_
      refine z_get F hK hZ (0) (hd _ (by omega)) rfl (by decide) rfl hin7 3 (by decide) mX7_seated_34 rfl rfl dX7_seated_17 ?_
      refine z_alen F hK hZ (7) (hd _ (by omega)) (by decide) rfl dX7_seated_20 ?_
      refine z_icmp_ge (tgt := 33) F (by omega) (by omega) dX7_seated_21 (by decide) (fun c_21 => ?_) (fun c_21 => ?_)
      · skip
        refine lv_null F.1 F.2.1 dX7_seated_33 ?_
        rw [← zV_m1 w]
        exact z_aret F hr (Or.inl ⟨_, rfl⟩) hlocks hZ (by first | exact st_eq hM (by omega) (by omega) | exact st_no (by omega)) rfl dX7_seated_34 (by omega) (by omega)
      · skip
        refine z_aload_n F dX7_seated_24 rfl (lv_at hl 0 rfl) ?_
        refine z_get F hK hZ (0) (hd _ (by omega)) rfl (by decide) rfl hin7 3 (by decide) mX7_seated_34 rfl rfl dX7_seated_25 ?_
        refine z_iload_n F dX7_seated_28 rfl (lv_at hl 1 rfl) ?_
        refine z_aald F hK hZ (7) (hd _ (by omega)) (by decide) rfl (by decide) (by omega) (by omega) dX7_seated_29 ?_
        refine lv_goto (tgt := 34) F.1 F.2.1 dX7_seated_30 (by decide) ?_
        exact z_aret F hr (Or.inl ⟨_, rfl⟩) hlocks hZ (by first | exact st_eq hM (by omega) (by omega) | exact st_no (by omega)) rfl dX7_seated_34 (by omega) (by omega)

theorem mX7_honest_60 : Cond.fieldLink RX7 60 "LockedChain$Seat" "isFalse" "Z" ∈ wsX7_honest := by decide +kernel
set_option maxHeartbeats 4000000 in
set_option maxRecDepth 100000 in
theorem k_X7_honest (l : Launch) (w : zW) (dom : Nat → Prop) (A : Nat → Prop) (hDA : ∀ i, dom i → A (w.2.1 + i)) (sz : Nat) (G : zM) (X : zM) (mm : Nat) (hd : ∀ i, i < 64 → dom i) (hdl : ∀ i, 71 ≤ i ∧ i < 71 + mm → dom i) (hM : Sim G X mm) (hI : Inv X) (v : Int) (hv : -2147483648 ≤ v ∧ v < 2147483648) : Met l yX7_honest wsX7_honest { frames := 2, cells := 0, slots := 0, locals := 41 } (zPre w dom sz G [.ref (w.2.1 + (0)), .int (zI (v))]) (zQr w dom sz (hoV X v) (fun C => C = G) A) (0) (0) A := by
  refine Met.ofW (cc := cX7_honest) (maxL := 3) (ret := (some (.object "LockedChain$Seat"))) (by decide) rfl ?_
  intro p e s m args below meth c s₁ B hml hv
  obtain ⟨rfl, hsz, hP, hK⟩ := hv
  have F : CallFix p m c cX7_honest 3 s _ wsX7_honest RX7 := ⟨B.exec, B.bytes, hml, findClass_of_methodNamed B.named, atoms_spec (ws := wsX7_honest) B.pre⟩
  have hr := B.returns
  have hlocks := B.notSynchronized
  have hZ : Zs w dom A s.heap sz G s.heap [] := ⟨hsz, hP, va_S.rf⟩
  have hl := lv_entry ([.ref (w.2.1 + (0)), .int (zI (v))]) (n := 3) (Nat.le_of_ble_eq_true rfl)
  rw [lg_entry_eq]
  generalize (lg_sl ([.ref (w.2.1 + (0)), .int (zI (v))]) ++ List.replicate (3 - (lg_sl ([.ref (w.2.1 + (0)), .int (zI (v))])).length) Slot.unset).toArray = ls at hl ⊢
  have hl : lv_has ls 3 [(0, .ref (w.2.1 + (0))), (1, .int (zI (v)))] := hl
  have hin6 : ∀ v ∈ u_ws RX6 TX6 15, v ∈ wsX7_honest := by decide +kernel
  have hn := hI.1
  have hLL := hI.2.2.2.1
  have hS : PostS G X mm := hM.1
  obtain ⟨hS1, hS2, hS3, hS4, hS5⟩ := hM.1
  have hC0 := hM.2.1
  refine z_aload_n F dX7_honest_0 rfl (lv_at hl 0 rfl) ?_
  refine z_iload_n F dX7_honest_1 rfl (lv_at hl 1 rfl) ?_
  refine z_bxr hZ (va_runV (As := [.int (zI (v))]) (rest := []) F (k_X7_seated l w dom A hDA sz G X mm hd hdl hM hI v (by omega)) (cwV 1 F.2.2.2.2 gX7_honest_X7_seated rfl rfl rfl (by decide +kernel) ⟨Nat.le_of_ble_eq_true rfl, Nat.le_of_ble_eq_true rfl⟩) (z_preV hK hZ (0) (hd _ (by omega)) rfl (by decide) rfl _) rfl rfl hl.1 rfl (lv_room (Nat.le_of_ble_eq_true rfl)) dX7_honest_2 ⟨Nat.le_of_ble_eq_true rfl, Nat.le_of_ble_eq_true rfl⟩) (fun H locs hZ => ?_)
  refine z_vstore_n (lv' := [(2, zV w (stV X v)), (0, .ref (w.2.1 + (0))), (1, .int (zI (v)))]) F dX7_honest_5 rfl hl (by decide) (by unfold zV; (repeat' split) <;> rfl) (fun ls hl => ?_)
  refine z_vload_n (w := w) F dX7_honest_6 rfl (lv_at hl 0 rfl) ?_
  refine z_ifnull (tgt := 17) F dX7_honest_7 (by decide) (fun c_7 => ?_) (fun c_7 => ?_)
  · skip
    refine lv_null F.1 F.2.1 dX7_honest_17 ?_
    refine lv_goto (tgt := 22) F.1 F.2.1 dX7_honest_18 (by decide) ?_
    rw [← zV_m1 w]
    exact z_aret F hr (Or.inl ⟨_, rfl⟩) hlocks hZ (by first | (rw [hoV, if_neg (fun q => stV_neg (by assumption) q.1)]; done) | (rw [hoV, if_pos ⟨⟨by omega, hj0⟩, c_14⟩]; omega) | (rw [hoV, if_neg (fun q => c_14 q.2)])) rfl dX7_honest_22 (by omega) (by omega)
  · skip
    obtain ⟨j, rfl, hj0, hj, hz⟩ := stV_pos hn (by assumption)
    rw [hz, zV_nat] at hl
    refine z_aload_n F dX7_honest_10 rfl (lv_at hl 0 rfl) ?_
    refine z_get F hK hZ (8 + 8 * j) (hd _ (by omega)) (shp_seat j hj) (by decide) rfl hin6 1 (by decide) mX7_honest_60 rfl rfl dX7_honest_11 ?_
    have r_1 := hZ.2.1.1 (8 + 8 * j) (1)
    refine z_topI (show G (8 + 8 * j) 1 = X 65 (j : Int) from (Sim_f hM (j := j) (by omega)).2.1) ?_
    have r_2 : -2147483648 ≤ X 65 (j : Int) ∧ X 65 (j : Int) < 2147483648 := by rw [← show G (8 + 8 * j) 1 = X 65 (j : Int) from (Sim_f hM (j := j) (by omega)).2.1]; exact hZ.2.1.1 _ _
    refine z_if_eq (tgt := 21) F (by omega) dX7_honest_14 (by decide) (fun c_14 => ?_) (fun c_14 => ?_)
    · skip
      refine z_aload_n F dX7_honest_21 rfl (lv_at hl 0 rfl) ?_
      rw [← zV_nat w (8 + 8 * j)]
      exact z_aret F hr (Or.inl ⟨_, rfl⟩) hlocks hZ (by first | (rw [hoV, if_neg (fun q => stV_neg (by assumption) q.1)]; done) | (rw [hoV, if_pos ⟨⟨by omega, hj0⟩, c_14⟩]; omega) | (rw [hoV, if_neg (fun q => c_14 q.2)])) rfl dX7_honest_22 (by omega) (by omega)
    · skip
      refine lv_null F.1 F.2.1 dX7_honest_17 ?_
      refine lv_goto (tgt := 22) F.1 F.2.1 dX7_honest_18 (by decide) ?_
      rw [← zV_m1 w]
      exact z_aret F hr (Or.inl ⟨_, rfl⟩) hlocks hZ (by first | (rw [hoV, if_neg (fun q => stV_neg (by assumption) q.1)]; done) | (rw [hoV, if_pos ⟨⟨by omega, hj0⟩, c_14⟩]; omega) | (rw [hoV, if_neg (fun q => c_14 q.2)])) rfl dX7_honest_22 (by omega) (by omega)

set_option maxHeartbeats 4000000 in
set_option maxRecDepth 100000 in
theorem k_X7_isSayable (l : Launch) (w : zW) (dom : Nat → Prop) (A : Nat → Prop) (hDA : ∀ i, dom i → A (w.2.1 + i)) (sz : Nat) (G : zM) (kd v vr : Int) (hkd : -2147483648 ≤ kd ∧ kd < 2147483648) (hv : -2147483648 ≤ v ∧ v < 2147483648) (hvr : -2147483648 ≤ vr ∧ vr < 2147483648) : Met l yX7_isSayable wsX7_isSayable { frames := 0, cells := 0, slots := 0, locals := 0 } (zPre w dom sz G [.int (zI (kd)), .int (zI (v)), .int (zI (vr))]) (zQi w dom sz (bI ((kd = 0 → 0 ≤ v ∧ v ≤ 99 ∧ -1 ≤ vr ∧ vr ≤ 9) ∧ (kd ≠ 0 → -1 ≤ v ∧ v ≤ 99))) (fun C => C = G) A) (0) (0) A := by
  refine Met.ofW (cc := cX7_isSayable) (maxL := 3) (ret := (some .boolean)) (by decide) rfl ?_
  intro p e s m args below meth c s₁ B hml hv
  obtain ⟨rfl, hsz, hP, hK⟩ := hv
  have F : CallFix p m c cX7_isSayable 3 s _ wsX7_isSayable RX7 := ⟨B.exec, B.bytes, hml, findClass_of_methodNamed B.named, atoms_spec (ws := wsX7_isSayable) B.pre⟩
  have hr := B.returns
  have hlocks := B.notSynchronized
  have hZ : Zs w dom A s.heap sz G s.heap [] := ⟨hsz, hP, va_S.rf⟩
  have hl := lv_entry ([.int (zI (kd)), .int (zI (v)), .int (zI (vr))]) (n := 3) (Nat.le_of_ble_eq_true rfl)
  rw [lg_entry_eq]
  generalize (lg_sl ([.int (zI (kd)), .int (zI (v)), .int (zI (vr))]) ++ List.replicate (3 - (lg_sl ([.int (zI (kd)), .int (zI (v)), .int (zI (vr))])).length) Slot.unset).toArray = ls at hl ⊢
  have hl : lv_has ls 3 [(0, .int (zI (kd))), (1, .int (zI (v))), (2, .int (zI (vr)))] := hl
  refine z_iload_n F dX7_isSayable_0 rfl (lv_at hl 0 rfl) ?_
  refine z_if_ne (tgt := 31) F (by omega) dX7_isSayable_1 (by decide) (fun c_1 => ?_) (fun c_1 => ?_)
  · skip
    refine z_iload_n F dX7_isSayable_31 rfl (lv_at hl 1 rfl) ?_
    refine z_iconst F dX7_isSayable_32 ?_
    refine z_icmp_lt (tgt := 46) F (by omega) (by omega) dX7_isSayable_33 (by decide) (fun c_33 => ?_) (fun c_33 => ?_)
    · skip
      refine z_iconst F dX7_isSayable_46 ?_
      exact z_zret F hr hlocks hZ (by first | exact bI_1 (by omega) | exact bI_0 (by omega)) (by omega) rfl dX7_isSayable_47 (by omega) (by omega)
    · skip
      refine z_iload_n F dX7_isSayable_36 rfl (lv_at hl 1 rfl) ?_
      refine z_bipush F (by decide) dX7_isSayable_37 ?_
      refine z_icmp_ge (tgt := 46) F (by omega) (by omega) dX7_isSayable_39 (by decide) (fun c_39 => ?_) (fun c_39 => ?_)
      · skip
        refine z_iconst F dX7_isSayable_46 ?_
        exact z_zret F hr hlocks hZ (by first | exact bI_1 (by omega) | exact bI_0 (by omega)) (by omega) rfl dX7_isSayable_47 (by omega) (by omega)
      · skip
        refine z_iconst F dX7_isSayable_42 ?_
        refine lv_goto (tgt := 47) F.1 F.2.1 dX7_isSayable_43 (by decide) ?_
        exact z_zret F hr hlocks hZ (by first | exact bI_1 (by omega) | exact bI_0 (by omega)) (by omega) rfl dX7_isSayable_47 (by omega) (by omega)
  · skip
    refine z_iload_n F dX7_isSayable_4 rfl (lv_at hl 1 rfl) ?_
    refine z_if_lt (tgt := 29) F (by omega) dX7_isSayable_5 (by decide) (fun c_5 => ?_) (fun c_5 => ?_)
    · skip
      refine z_iconst F dX7_isSayable_29 ?_
      exact z_zret F hr hlocks hZ (by first | exact bI_1 (by omega) | exact bI_0 (by omega)) (by omega) rfl dX7_isSayable_30 (by omega) (by omega)
    · skip
      refine z_iload_n F dX7_isSayable_8 rfl (lv_at hl 1 rfl) ?_
      refine z_bipush F (by decide) dX7_isSayable_9 ?_
      refine z_icmp_ge (tgt := 29) F (by omega) (by omega) dX7_isSayable_11 (by decide) (fun c_11 => ?_) (fun c_11 => ?_)
      · skip
        refine z_iconst F dX7_isSayable_29 ?_
        exact z_zret F hr hlocks hZ (by first | exact bI_1 (by omega) | exact bI_0 (by omega)) (by omega) rfl dX7_isSayable_30 (by omega) (by omega)
      · skip
        refine z_iload_n F dX7_isSayable_14 rfl (lv_at hl 2 rfl) ?_
        refine z_iconst F dX7_isSayable_15 ?_
        refine z_icmp_lt (tgt := 29) F (by omega) (by omega) dX7_isSayable_16 (by decide) (fun c_16 => ?_) (fun c_16 => ?_)
        · skip
          refine z_iconst F dX7_isSayable_29 ?_
          exact z_zret F hr hlocks hZ (by first | exact bI_1 (by omega) | exact bI_0 (by omega)) (by omega) rfl dX7_isSayable_30 (by omega) (by omega)
        · skip
          refine z_iload_n F dX7_isSayable_19 rfl (lv_at hl 2 rfl) ?_
          refine z_bipush F (by decide) dX7_isSayable_20 ?_
          refine z_icmp_ge (tgt := 29) F (by omega) (by omega) dX7_isSayable_22 (by decide) (fun c_22 => ?_) (fun c_22 => ?_)
          · skip
            refine z_iconst F dX7_isSayable_29 ?_
            exact z_zret F hr hlocks hZ (by first | exact bI_1 (by omega) | exact bI_0 (by omega)) (by omega) rfl dX7_isSayable_30 (by omega) (by omega)
          · skip
            refine z_iconst F dX7_isSayable_25 ?_
            refine lv_goto (tgt := 30) F.1 F.2.1 dX7_isSayable_26 (by decide) ?_
            exact z_zret F hr hlocks hZ (by first | exact bI_1 (by omega) | exact bI_0 (by omega)) (by omega) rfl dX7_isSayable_30 (by omega) (by omega)

theorem mX7_falseOnes_10 : Cond.fieldLink RX7 10 "LockedChain" "council" "LLockedChain$Council;" ∈ wsX7_falseOnes := by decide +kernel
set_option maxHeartbeats 4000000 in
set_option maxRecDepth 100000 in
theorem k_X7_falseOnes (l : Launch) (w : zW) (dom : Nat → Prop) (A : Nat → Prop) (hDA : ∀ i, dom i → A (w.2.1 + i)) (sz : Nat) (G : zM) (X : zM) (mm : Nat) (hd : ∀ i, i < 64 → dom i) (hdl : ∀ i, 71 ≤ i ∧ i < 71 + mm → dom i) (hM : Sim G X mm) (hI : Inv X) : Met l yX7_falseOnes wsX7_falseOnes { frames := 3, cells := 0, slots := 0, locals := 63 } (zPre w dom sz G [.ref (w.2.1 + (0))]) (zQi w dom sz (cntB (fun t => decide (X 65 (t : Int) ≠ 0)) (X 64 0).toNat) (fun C => C = G) A) (0) (0) A := by
  refine Met.ofW (cc := cX7_falseOnes) (maxL := 3) (ret := (some .int)) (by decide) rfl ?_
  intro p e s m args below meth c s₁ B hml hv
  obtain ⟨rfl, hsz, hP, hK⟩ := hv
  have F : CallFix p m c cX7_falseOnes 3 s _ wsX7_falseOnes RX7 := ⟨B.exec, B.bytes, hml, findClass_of_methodNamed B.named, atoms_spec (ws := wsX7_falseOnes) B.pre⟩
  have hr := B.returns
  have hlocks := B.notSynchronized
  have hZ : Zs w dom A s.heap sz G s.heap [] := ⟨hsz, hP, va_S.rf⟩
  have hl := lv_entry ([.ref (w.2.1 + (0))]) (n := 3) (Nat.le_of_ble_eq_true rfl)
  rw [lg_entry_eq]
  generalize (lg_sl ([.ref (w.2.1 + (0))]) ++ List.replicate (3 - (lg_sl ([.ref (w.2.1 + (0))])).length) Slot.unset).toArray = ls at hl ⊢
  have hl : lv_has ls 3 [(0, .ref (w.2.1 + (0)))] := hl
  have hin7 : ∀ v ∈ u_ws RX7 TX7 6, v ∈ wsX7_falseOnes := by decide +kernel
  have hn := hI.1
  have hLL := hI.2.2.2.1
  have hS : PostS G X mm := hM.1
  obtain ⟨hS1, hS2, hS3, hS4, hS5⟩ := hM.1
  have hC0 := hM.2.1
  refine z_iconst F dX7_falseOnes_0 ?_
  refine z_istore_n (lv' := [(1, .int (zI (0))), (0, .ref (w.2.1 + (0)))]) F dX7_falseOnes_1 rfl hl (by decide) rfl (fun ls hl => ?_)
  refine z_iconst F dX7_falseOnes_2 ?_
  refine z_istore_n (lv' := [(2, .int (zI (0))), (1, .int (zI (0))), (0, .ref (w.2.1 + (0)))]) F dX7_falseOnes_3 rfl hl (by decide) rfl (fun ls hl => ?_)
  have L_4 : ∀ (nf : Nat) (i : Nat) (b : Int), ((X 64 0).toNat + 1 ≤ i + nf) → (i ≤ (X 64 0).toNat) → (b = cntB (fun t => decide (X 65 (t : Int) ≠ 0)) i) →  ∀ (H : Heap) (locs : List Loc) (ls : Array Slot), Zs w dom A s.heap sz G H locs → lv_has ls 3 [(0, .ref (w.2.1 + (0))), (1, .int (zI (b))), (2, .int (zI ((i : Int))))] → W p l e (headSpec wsX7_falseOnes { frames := 3, cells := 0, slots := 0, locals := 63 }).room s m ([.ref (w.2.1 + (0))] : List Value).toArray below meth c H locs (0) (0) (MQ below (zQi w dom sz (cntB (fun t => decide (X 65 (t : Int) ≠ 0)) (X 64 0).toNat) (fun C => C = G) A) ([.ref (w.2.1 + (0))] : List Value).toArray s (0) (0) A) (F0 m 4 ls []) := by
    intro nf
    induction nf with
    | zero => intro i  b  h4_0 h4_1 h4_2; exact absurd h4_0 (by omega)
    | succ nf ih_4 =>
      intro i  b  h4_0 h4_1 h4_2 H locs ls hZ hl
      subst h4_2
      have hb := cntB_rng (fun t => decide (X 65 (t : Int) ≠ 0)) i
      refine z_iload_n F dX7_falseOnes_4 rfl (lv_at hl 2 rfl) ?_
      refine z_aload_n F dX7_falseOnes_5 rfl (lv_at hl 0 rfl) ?_
      refine z_get F hK hZ (0) (hd _ (by omega)) rfl (by decide) rfl hin7 0 (by decide) mX7_falseOnes_10 rfl rfl dX7_falseOnes_6 ?_
      refine z_bxi hZ (va_runV (As := []) (rest := [.int (zI ((i : Int)))]) F (k_X1_size l w dom A hDA sz G hd) (cwV 0 F.2.2.2.2 gX7_falseOnes_X1_size rfl rfl rfl (by decide +kernel) ⟨Nat.le_of_ble_eq_true rfl, Nat.le_of_ble_eq_true rfl⟩) (z_preV hK hZ (1) (hd _ (by omega)) rfl (by decide) rfl _) rfl rfl hl.1 rfl (lv_room (Nat.le_of_ble_eq_true rfl)) dX7_falseOnes_9 ⟨Nat.le_of_ble_eq_true rfl, Nat.le_of_ble_eq_true rfl⟩) (fun H locs hZ => ?_)
      refine z_topI (show G 1 0 = X 64 0 from hC0.2.2) ?_
      refine z_icmp_ge (tgt := 32) F (by omega) (by omega) dX7_falseOnes_12 (by decide) (fun c_12 => ?_) (fun c_12 => ?_)
      · skip
        refine z_iload_n F dX7_falseOnes_32 rfl (lv_at hl 1 rfl) ?_
        exact z_iret F hr hlocks hZ (by rw [show i = (X 64 0).toNat by omega]) rfl dX7_falseOnes_33 (by omega) (by omega)
      · skip
        refine z_aload_n F dX7_falseOnes_15 rfl (lv_at hl 0 rfl) ?_
        refine z_iload_n F dX7_falseOnes_16 rfl (lv_at hl 2 rfl) ?_
        refine z_bxr hZ (va_runV (As := [.int (zI ((i : Int)))]) (rest := []) F (k_X7_honest l w dom A hDA sz G X mm hd hdl hM hI ((i : Int)) (by omega)) (cwV 1 F.2.2.2.2 gX7_falseOnes_X7_honest rfl rfl rfl (by decide +kernel) ⟨Nat.le_of_ble_eq_true rfl, Nat.le_of_ble_eq_true rfl⟩) (z_preV hK hZ (0) (hd _ (by omega)) rfl (by decide) rfl _) rfl rfl hl.1 rfl (lv_room (Nat.le_of_ble_eq_true rfl)) dX7_falseOnes_17 ⟨Nat.le_of_ble_eq_true rfl, Nat.le_of_ble_eq_true rfl⟩) (fun H locs hZ => ?_)
        refine z_ifnonnull (tgt := 26) F dX7_falseOnes_20 (by decide) (fun c_20 => ?_) (fun c_20 => ?_)
        · skip
          refine z_iinc (k := 2) (z := (i : Int)) (lv' := [(2, .int (zI ((i : Int) + 1))), (0, .ref (w.2.1 + (0))), (1, .int (zI (cntB (fun t => decide (X 65 (t : Int) ≠ 0)) i)))]) F dX7_falseOnes_26 hl rfl (by decide) rfl (fun ls hl => ?_)
          refine lv_goto (tgt := 4) F.1 F.2.1 dX7_falseOnes_29 (by decide) ?_
          exact ih_4 (i + 1) (cntB (fun t => decide (X 65 (t : Int) ≠ 0)) i) (by omega) (by omega) (by rw [cntB_S]; first | rw [bI_t (by rw [decide_eq_true_eq]; exact hoV_neg (by omega) c_20)] | (rw [bI_f (by rw [decide_eq_true_eq]; exact fun q => q (hoV_pos hn c_20).2.2.1)]; omega)) _ _ _ hZ (lv_sub hl [1, 2, 0] rfl)
        · skip
          refine z_iinc (k := 1) (z := cntB (fun t => decide (X 65 (t : Int) ≠ 0)) i) (lv' := [(1, .int (zI (cntB (fun t => decide (X 65 (t : Int) ≠ 0)) i + 1))), (0, .ref (w.2.1 + (0))), (2, .int (zI ((i : Int))))]) F dX7_falseOnes_23 hl rfl (by decide) rfl (fun ls hl => ?_)
          refine z_iinc (k := 2) (z := (i : Int)) (lv' := [(2, .int (zI ((i : Int) + 1))), (1, .int (zI (cntB (fun t => decide (X 65 (t : Int) ≠ 0)) i + 1))), (0, .ref (w.2.1 + (0)))]) F dX7_falseOnes_26 hl rfl (by decide) rfl (fun ls hl => ?_)
          refine lv_goto (tgt := 4) F.1 F.2.1 dX7_falseOnes_29 (by decide) ?_
          exact ih_4 (i + 1) (cntB (fun t => decide (X 65 (t : Int) ≠ 0)) i + 1) (by omega) (by omega) (by rw [cntB_S]; first | rw [bI_t (by rw [decide_eq_true_eq]; exact hoV_neg (by omega) c_20)] | (rw [bI_f (by rw [decide_eq_true_eq]; exact fun q => q (hoV_pos hn c_20).2.2.1)]; omega)) _ _ _ hZ (lv_sub hl [2, 1, 0] rfl)
  exact L_4 ((X 64 0).toNat + 1) 0 0 (by omega) (by omega) rfl _ _ _ hZ (lv_sub hl [2, 1, 0] rfl)

theorem mX7_stillToCome_10 : Cond.fieldLink RX7 10 "LockedChain" "council" "LLockedChain$Council;" ∈ wsX7_stillToCome := by decide +kernel
theorem mX7_stillToCome_19 : Cond.fieldLink RX7 19 "LockedChain" "post" "LLockedChain$Post;" ∈ wsX7_stillToCome := by decide +kernel
set_option maxHeartbeats 4000000 in
set_option maxRecDepth 100000 in
theorem k_X7_stillToCome (l : Launch) (w : zW) (dom : Nat → Prop) (A : Nat → Prop) (hDA : ∀ i, dom i → A (w.2.1 + i)) (sz : Nat) (G : zM) (X : zM) (mm : Nat) (hd : ∀ i, i < 64 → dom i) (hdl : ∀ i, 71 ≤ i ∧ i < 71 + mm → dom i) (hM : Sim G X mm) (hI : Inv X) : Met l yX7_stillToCome wsX7_stillToCome { frames := 3, cells := 0, slots := 0, locals := 63 } (zPre w dom sz G [.ref (w.2.1 + (0))]) (zQi w dom sz (pnL X (X 64 7).toNat) (fun C => C = G) A) (0) (0) A := by
  refine Met.ofW (cc := cX7_stillToCome) (maxL := 5) (ret := (some .int)) (by decide) rfl ?_
  intro p e s m args below meth c s₁ B hml hv
  obtain ⟨rfl, hsz, hP, hK⟩ := hv
  have F : CallFix p m c cX7_stillToCome 5 s _ wsX7_stillToCome RX7 := ⟨B.exec, B.bytes, hml, findClass_of_methodNamed B.named, atoms_spec (ws := wsX7_stillToCome) B.pre⟩
  have hr := B.returns
  have hlocks := B.notSynchronized
  have hZ : Zs w dom A s.heap sz G s.heap [] := ⟨hsz, hP, va_S.rf⟩
  have hl := lv_entry ([.ref (w.2.1 + (0))]) (n := 5) (Nat.le_of_ble_eq_true rfl)
  rw [lg_entry_eq]
  generalize (lg_sl ([.ref (w.2.1 + (0))]) ++ List.replicate (5 - (lg_sl ([.ref (w.2.1 + (0))])).length) Slot.unset).toArray = ls at hl ⊢
  have hl : lv_has ls 5 [(0, .ref (w.2.1 + (0)))] := hl
  have hin7 : ∀ v ∈ u_ws RX7 TX7 6, v ∈ wsX7_stillToCome := by decide +kernel
  have hn := hI.1
  have hLL := hI.2.2.2.1
  have hS : PostS G X mm := hM.1
  obtain ⟨hS1, hS2, hS3, hS4, hS5⟩ := hM.1
  have hC0 := hM.2.1
  refine z_iconst F dX7_stillToCome_0 ?_
  refine z_istore_n (lv' := [(1, .int (zI (0))), (0, .ref (w.2.1 + (0)))]) F dX7_stillToCome_1 rfl hl (by decide) rfl (fun ls hl => ?_)
  refine z_iconst F dX7_stillToCome_2 ?_
  refine z_istore_n (lv' := [(2, .int (zI (0))), (1, .int (zI (0))), (0, .ref (w.2.1 + (0)))]) F dX7_stillToCome_3 rfl hl (by decide) rfl (fun ls hl => ?_)
  have L_4 : ∀ (nf : Nat) (i : Nat) (b : Int), ((X 64 7).toNat + 1 ≤ i + nf) → (i ≤ (X 64 7).toNat) → (b = pnL X i) →  ∀ (H : Heap) (locs : List Loc) (ls : Array Slot), Zs w dom A s.heap sz G H locs → lv_has ls 5 [(0, .ref (w.2.1 + (0))), (1, .int (zI (b))), (2, .int (zI ((i : Int))))] → W p l e (headSpec wsX7_stillToCome { frames := 3, cells := 0, slots := 0, locals := 63 }).room s m ([.ref (w.2.1 + (0))] : List Value).toArray below meth c H locs (0) (0) (MQ below (zQi w dom sz (pnL X (X 64 7).toNat) (fun C => C = G) A) ([.ref (w.2.1 + (0))] : List Value).toArray s (0) (0) A) (F0 m 4 ls []) := by
    intro nf
    induction nf with
    | zero => intro i  b  h4_0 h4_1 h4_2; exact absurd h4_0 (by omega)
    | succ nf ih_4 =>
      intro i  b  h4_0 h4_1 h4_2 H locs ls hZ hl
      subst h4_2
      have hp1 := pnL_rng X hn i
      refine z_iload_n F dX7_stillToCome_4 rfl (lv_at hl 2 rfl) ?_
      refine z_aload_n F dX7_stillToCome_5 rfl (lv_at hl 0 rfl) ?_
      refine z_get F hK hZ (0) (hd _ (by omega)) rfl (by decide) rfl hin7 1 (by decide) mX7_stillToCome_19 rfl rfl dX7_stillToCome_6 ?_
      refine z_bxi hZ (va_runV (As := []) (rest := [.int (zI ((i : Int)))]) F (k_X4_sent l w dom A hDA sz G hd) (cwV 0 F.2.2.2.2 gX7_stillToCome_X4_sent rfl rfl rfl (by decide +kernel) ⟨Nat.le_of_ble_eq_true rfl, Nat.le_of_ble_eq_true rfl⟩) (z_preV hK hZ (2) (hd _ (by omega)) rfl (by decide) rfl _) rfl rfl hl.1 rfl (lv_room (Nat.le_of_ble_eq_true rfl)) dX7_stillToCome_9 ⟨Nat.le_of_ble_eq_true rfl, Nat.le_of_ble_eq_true rfl⟩) (fun H locs hZ => ?_)
      refine z_topI (show G 2 3 = X 64 7 from hM.1.1) ?_
      refine z_icmp_ge (tgt := 76) F (by omega) (by omega) dX7_stillToCome_12 (by decide) (fun c_12 => ?_) (fun c_12 => ?_)
      · skip
        refine z_iload_n F dX7_stillToCome_76 rfl (lv_at hl 1 rfl) ?_
        exact z_iret F hr hlocks hZ (by rw [show i = (X 64 7).toNat by omega]) rfl dX7_stillToCome_77 (by omega) (by omega)
      · skip
        refine z_aload_n F dX7_stillToCome_15 rfl (lv_at hl 0 rfl) ?_
        refine z_get F hK hZ (0) (hd _ (by omega)) rfl (by decide) rfl hin7 1 (by decide) mX7_stillToCome_19 rfl rfl dX7_stillToCome_16 ?_
        refine z_iload_n F dX7_stillToCome_19 rfl (lv_at hl 2 rfl) ?_
        refine z_bxr hZ (va_runV (As := [.int (zI ((i : Int)))]) (rest := []) F (k_X4_at l w dom A hDA sz G hd ((i : Int)) (by omega)) (cwV 1 F.2.2.2.2 gX7_stillToCome_X4_at rfl rfl rfl (by decide +kernel) ⟨Nat.le_of_ble_eq_true rfl, Nat.le_of_ble_eq_true rfl⟩) (z_preV hK hZ (2) (hd _ (by omega)) rfl (by decide) rfl _) rfl rfl hl.1 rfl (lv_room (Nat.le_of_ble_eq_true rfl)) dX7_stillToCome_20 ⟨Nat.le_of_ble_eq_true rfl, Nat.le_of_ble_eq_true rfl⟩) (fun H locs hZ => ?_)
        rw [show (if 0 ≤ (i : Int) ∧ (i : Int) < G 2 3 ∧ (i : Int) < 400 then G 3 ((i : Int)) else -1) = atV X ((i : Int)) from at_eq hM.1 ((i : Int))]
        rw [atV_in (X := X) (i := i) (by omega), zV_nat]
        refine z_astore_n (lv' := [(3, .ref (w.2.1 + (71 + i))), (0, .ref (w.2.1 + (0))), (1, .int (zI (pnL X i))), (2, .int (zI ((i : Int))))]) F dX7_stillToCome_23 rfl hl (by decide) rfl (fun ls hl => ?_)
        refine z_iconst F dX7_stillToCome_24 ?_
        refine z_istore (lv' := [(4, .int (zI (0))), (3, .ref (w.2.1 + (71 + i))), (0, .ref (w.2.1 + (0))), (1, .int (zI (pnL X i))), (2, .int (zI ((i : Int))))]) F dX7_stillToCome_25 hl (by decide) rfl (fun ls hl => ?_)
        have L_27 : ∀ (nf : Nat) (j : Nat) (b : Int), ((X 64 0).toNat + 1 ≤ j + nf) → (j ≤ (X 64 0).toNat) → (b = pnL X i + pnS X (i : Int) j) →  ∀ (H : Heap) (locs : List Loc) (ls : Array Slot), Zs w dom A s.heap sz G H locs → lv_has ls 5 [(0, .ref (w.2.1 + (0))), (1, .int (zI (b))), (2, .int (zI ((i : Int)))), (3, .ref (w.2.1 + (71 + i))), (4, .int (zI ((j : Int))))] → W p l e (headSpec wsX7_stillToCome { frames := 3, cells := 0, slots := 0, locals := 63 }).room s m ([.ref (w.2.1 + (0))] : List Value).toArray below meth c H locs (0 + 0 + 0) (0 + 0 + 0) (MQ below (zQi w dom sz (pnL X (X 64 7).toNat) (fun C => C = G) A) ([.ref (w.2.1 + (0))] : List Value).toArray s (0) (0) A) (F0 m 27 ls []) := by
          intro nf
          induction nf with
          | zero => intro j  b  h27_0 h27_1 h27_2; exact absurd h27_0 (by omega)
          | succ nf ih_27 =>
            intro j  b  h27_0 h27_1 h27_2 H locs ls hZ hl
            subst h27_2
            have hp2 := pnS_rng X (i : Int) j
            refine z_iload F dX7_stillToCome_27 (lv_at hl 4 rfl) ?_
            refine z_aload_n F dX7_stillToCome_29 rfl (lv_at hl 0 rfl) ?_
            refine z_get F hK hZ (0) (hd _ (by omega)) rfl (by decide) rfl hin7 0 (by decide) mX7_stillToCome_10 rfl rfl dX7_stillToCome_30 ?_
            refine z_bxi hZ (va_runV (As := []) (rest := [.int (zI ((j : Int)))]) F (k_X1_size l w dom A hDA sz G hd) (cwV 0 F.2.2.2.2 gX7_stillToCome_X1_size rfl rfl rfl (by decide +kernel) ⟨Nat.le_of_ble_eq_true rfl, Nat.le_of_ble_eq_true rfl⟩) (z_preV hK hZ (1) (hd _ (by omega)) rfl (by decide) rfl _) rfl rfl hl.1 rfl (lv_room (Nat.le_of_ble_eq_true rfl)) dX7_stillToCome_33 ⟨Nat.le_of_ble_eq_true rfl, Nat.le_of_ble_eq_true rfl⟩) (fun H locs hZ => ?_)
            refine z_topI (show G 1 0 = X 64 0 from hC0.2.2) ?_
            refine z_icmp_ge (tgt := 70) F (by omega) (by omega) dX7_stillToCome_36 (by decide) (fun c_36 => ?_) (fun c_36 => ?_)
            · skip
              have hj : j = (X 64 0).toNat := by omega
              refine z_iinc (k := 2) (z := (i : Int)) (lv' := [(2, .int (zI ((i : Int) + 1))), (0, .ref (w.2.1 + (0))), (1, .int (zI (pnL X i + pnS X (i : Int) j))), (3, .ref (w.2.1 + (71 + i))), (4, .int (zI ((j : Int))))]) F dX7_stillToCome_70 hl rfl (by decide) rfl (fun ls hl => ?_)
              refine lv_goto (tgt := 4) F.1 F.2.1 dX7_stillToCome_73 (by decide) ?_
              exact ih_4 (i + 1) (pnL X i + pnS X (i : Int) j) (by omega) (by omega) (by rw [pnL, ← hj]) _ _ _ hZ (lv_sub hl [1, 2, 0] rfl)
            · skip
              refine z_aload_n F dX7_stillToCome_39 rfl (lv_at hl 3 rfl) ?_
              refine lv_ifnull F.1 F.2.1 dX7_stillToCome_40 ?_
              refine z_aload_n F dX7_stillToCome_43 rfl (lv_at hl 0 rfl) ?_
              refine z_iload F dX7_stillToCome_44 (lv_at hl 4 rfl) ?_
              refine z_bxr hZ (va_runV (As := [.int (zI ((j : Int)))]) (rest := []) F (k_X7_honest l w dom A hDA sz G X mm hd hdl hM hI ((j : Int)) (by omega)) (cwV 1 F.2.2.2.2 gX7_stillToCome_X7_honest rfl rfl rfl (by decide +kernel) ⟨Nat.le_of_ble_eq_true rfl, Nat.le_of_ble_eq_true rfl⟩) (z_preV hK hZ (0) (hd _ (by omega)) rfl (by decide) rfl _) rfl rfl hl.1 rfl (lv_room (Nat.le_of_ble_eq_true rfl)) dX7_stillToCome_46 ⟨Nat.le_of_ble_eq_true rfl, Nat.le_of_ble_eq_true rfl⟩) (fun H locs hZ => ?_)
              refine z_ifnull (tgt := 64) F dX7_stillToCome_49 (by decide) (fun c_49 => ?_) (fun c_49 => ?_)
              · skip
                refine z_iinc (k := 4) (z := (j : Int)) (lv' := [(4, .int (zI ((j : Int) + 1))), (0, .ref (w.2.1 + (0))), (1, .int (zI (pnL X i + pnS X (i : Int) j))), (2, .int (zI ((i : Int)))), (3, .ref (w.2.1 + (71 + i)))]) F dX7_stillToCome_64 hl rfl (by decide) rfl (fun ls hl => ?_)
                refine lv_goto (tgt := 27) F.1 F.2.1 dX7_stillToCome_67 (by decide) ?_
                exact ih_27 (j + 1) (pnL X i + pnS X (i : Int) j) (by omega) (by omega) (by rw [pnS]; first | (rw [if_pos (Or.inl (hoV_neg (by omega) c_49))]; omega) | (rw [if_pos (Or.inr c_58)]; omega) | (rw [if_neg (fun q => q.elim (fun z => z (hoV_pos hn c_49).2.2.1) c_58)]; omega)) _ _ _ hZ (lv_sub hl [1, 2, 3, 4, 0] rfl)
              · skip
                refine z_aload_n F dX7_stillToCome_52 rfl (lv_at hl 3 rfl) ?_
                refine z_iload F dX7_stillToCome_53 (lv_at hl 4 rfl) ?_
                refine z_bxi hZ (va_runV (As := [.int (zI ((j : Int)))]) (rest := []) F (k_X2_cameTo l w dom A hDA sz G i (hdl _ (by omega)) (cam_rng hS (by omega)) ((j : Int)) (by omega)) (cwV 1 F.2.2.2.2 gX7_stillToCome_X2_cameTo rfl rfl rfl (by decide +kernel) ⟨Nat.le_of_ble_eq_true rfl, Nat.le_of_ble_eq_true rfl⟩) (z_preV hK hZ (71 + i) (hdl _ (by omega)) (shp_let i) (by decide) rfl _) rfl rfl hl.1 rfl (lv_room (Nat.le_of_ble_eq_true rfl)) dX7_stillToCome_55 ⟨Nat.le_of_ble_eq_true rfl, Nat.le_of_ble_eq_true rfl⟩) (fun H locs hZ => ?_)
                refine z_topI (cam_bI hS (l := i) (s := (j : Int)) (by omega) (by omega)) ?_
                refine z_ifB_ne (tgt := 64) F dX7_stillToCome_58 (by decide) (fun c_58 => ?_) (fun c_58 => ?_)
                · skip
                  refine z_iinc (k := 4) (z := (j : Int)) (lv' := [(4, .int (zI ((j : Int) + 1))), (0, .ref (w.2.1 + (0))), (1, .int (zI (pnL X i + pnS X (i : Int) j))), (2, .int (zI ((i : Int)))), (3, .ref (w.2.1 + (71 + i)))]) F dX7_stillToCome_64 hl rfl (by decide) rfl (fun ls hl => ?_)
                  refine lv_goto (tgt := 27) F.1 F.2.1 dX7_stillToCome_67 (by decide) ?_
                  exact ih_27 (j + 1) (pnL X i + pnS X (i : Int) j) (by omega) (by omega) (by rw [pnS]; first | (rw [if_pos (Or.inl (hoV_neg (by omega) c_49))]; omega) | (rw [if_pos (Or.inr c_58)]; omega) | (rw [if_neg (fun q => q.elim (fun z => z (hoV_pos hn c_49).2.2.1) c_58)]; omega)) _ _ _ hZ (lv_sub hl [1, 2, 3, 4, 0] rfl)
                · skip
                  refine z_iinc (k := 1) (z := pnL X i + pnS X (i : Int) j) (lv' := [(1, .int (zI (pnL X i + pnS X (i : Int) j + 1))), (0, .ref (w.2.1 + (0))), (2, .int (zI ((i : Int)))), (3, .ref (w.2.1 + (71 + i))), (4, .int (zI ((j : Int))))]) F dX7_stillToCome_61 hl rfl (by decide) rfl (fun ls hl => ?_)
                  refine z_iinc (k := 4) (z := (j : Int)) (lv' := [(4, .int (zI ((j : Int) + 1))), (1, .int (zI (pnL X i + pnS X (i : Int) j + 1))), (0, .ref (w.2.1 + (0))), (2, .int (zI ((i : Int)))), (3, .ref (w.2.1 + (71 + i)))]) F dX7_stillToCome_64 hl rfl (by decide) rfl (fun ls hl => ?_)
                  refine lv_goto (tgt := 27) F.1 F.2.1 dX7_stillToCome_67 (by decide) ?_
                  exact ih_27 (j + 1) (pnL X i + pnS X (i : Int) j + 1) (by omega) (by omega) (by rw [pnS]; first | (rw [if_pos (Or.inl (hoV_neg (by omega) c_49))]; omega) | (rw [if_pos (Or.inr c_58)]; omega) | (rw [if_neg (fun q => q.elim (fun z => z (hoV_pos hn c_49).2.2.1) c_58)]; omega)) _ _ _ hZ (lv_sub hl [2, 1, 3, 4, 0] rfl)
        exact L_27 ((X 64 0).toNat + 1) 0 (pnL X i) (by omega) (by omega) (by simp [pnS]) _ _ _ hZ (lv_sub hl [2, 3, 4, 1, 0] rfl)
  exact L_4 ((X 64 7).toNat + 1) 0 0 (by omega) (by omega) rfl _ _ _ hZ (lv_sub hl [2, 1, 0] rfl)

theorem mX7_greatestHeight_10 : Cond.fieldLink RX7 10 "LockedChain" "council" "LLockedChain$Council;" ∈ wsX7_greatestHeight := by decide +kernel
theorem mX7_greatestHeight_128 : Cond.fieldLink RX7 128 "LockedChain$Seat" "height" "I" ∈ wsX7_greatestHeight := by decide +kernel
set_option maxHeartbeats 4000000 in
set_option maxRecDepth 100000 in
theorem k_X7_greatestHeight (l : Launch) (w : zW) (dom : Nat → Prop) (A : Nat → Prop) (hDA : ∀ i, dom i → A (w.2.1 + i)) (sz : Nat) (G : zM) (X : zM) (mm : Nat) (hd : ∀ i, i < 64 → dom i) (hdl : ∀ i, 71 ≤ i ∧ i < 71 + mm → dom i) (hM : Sim G X mm) (hI : Inv X) : Met l yX7_greatestHeight wsX7_greatestHeight { frames := 3, cells := 0, slots := 0, locals := 63 } (zPre w dom sz G [.ref (w.2.1 + (0))]) (zQi w dom sz (hgN X 0) (fun C => C = G) A) (0) (0) A := by
  refine Met.ofW (cc := cX7_greatestHeight) (maxL := 4) (ret := (some .int)) (by decide) rfl ?_
  intro p e s m args below meth c s₁ B hml hv
  obtain ⟨rfl, hsz, hP, hK⟩ := hv
  have F : CallFix p m c cX7_greatestHeight 4 s _ wsX7_greatestHeight RX7 := ⟨B.exec, B.bytes, hml, findClass_of_methodNamed B.named, atoms_spec (ws := wsX7_greatestHeight) B.pre⟩
  have hr := B.returns
  have hlocks := B.notSynchronized
  have hZ : Zs w dom A s.heap sz G s.heap [] := ⟨hsz, hP, va_S.rf⟩
  have hl := lv_entry ([.ref (w.2.1 + (0))]) (n := 4) (Nat.le_of_ble_eq_true rfl)
  rw [lg_entry_eq]
  generalize (lg_sl ([.ref (w.2.1 + (0))]) ++ List.replicate (4 - (lg_sl ([.ref (w.2.1 + (0))])).length) Slot.unset).toArray = ls at hl ⊢
  have hl : lv_has ls 4 [(0, .ref (w.2.1 + (0)))] := hl
  have hin6 : ∀ v ∈ u_ws RX6 TX6 15, v ∈ wsX7_greatestHeight := by decide +kernel
  have hin7 : ∀ v ∈ u_ws RX7 TX7 6, v ∈ wsX7_greatestHeight := by decide +kernel
  have hn := hI.1
  have hLL := hI.2.2.2.1
  have hS : PostS G X mm := hM.1
  obtain ⟨hS1, hS2, hS3, hS4, hS5⟩ := hM.1
  have hC0 := hM.2.1
  have h6 := seats6 hI
  refine z_iconst F dX7_greatestHeight_0 ?_
  refine z_istore_n (lv' := [(1, .int (zI (0))), (0, .ref (w.2.1 + (0)))]) F dX7_greatestHeight_1 rfl hl (by decide) rfl (fun ls hl => ?_)
  refine z_iconst F dX7_greatestHeight_2 ?_
  refine z_istore_n (lv' := [(2, .int (zI (0))), (1, .int (zI (0))), (0, .ref (w.2.1 + (0)))]) F dX7_greatestHeight_3 rfl hl (by decide) rfl (fun ls hl => ?_)
  have L_4 : ∀ (nf : Nat) (i : Nat) (b : Int), ((X 64 0).toNat + 1 ≤ i + nf) → (i ≤ (X 64 0).toNat) → (b = (if hgF X 0 i < 0 then 0 else hgF X 0 i)) → (0 ≤ b ∧ b ≤ 6) →  ∀ (H : Heap) (locs : List Loc) (ls : Array Slot), Zs w dom A s.heap sz G H locs → lv_has ls 4 [(0, .ref (w.2.1 + (0))), (1, .int (zI (b))), (2, .int (zI ((i : Int))))] → W p l e (headSpec wsX7_greatestHeight { frames := 3, cells := 0, slots := 0, locals := 63 }).room s m ([.ref (w.2.1 + (0))] : List Value).toArray below meth c H locs (0) (0) (MQ below (zQi w dom sz (hgN X 0) (fun C => C = G) A) ([.ref (w.2.1 + (0))] : List Value).toArray s (0) (0) A) (F0 m 4 ls []) := by
    intro nf
    induction nf with
    | zero => intro i  b  h4_0 h4_1 h4_2 h4_3; exact absurd h4_0 (by omega)
    | succ nf ih_4 =>
      intro i  b  h4_0 h4_1 h4_2 h4_3 H locs ls hZ hl
      refine z_iload_n F dX7_greatestHeight_4 rfl (lv_at hl 2 rfl) ?_
      refine z_aload_n F dX7_greatestHeight_5 rfl (lv_at hl 0 rfl) ?_
      refine z_get F hK hZ (0) (hd _ (by omega)) rfl (by decide) rfl hin7 0 (by decide) mX7_greatestHeight_10 rfl rfl dX7_greatestHeight_6 ?_
      refine z_bxi hZ (va_runV (As := []) (rest := [.int (zI ((i : Int)))]) F (k_X1_size l w dom A hDA sz G hd) (cwV 0 F.2.2.2.2 gX7_greatestHeight_X1_size rfl rfl rfl (by decide +kernel) ⟨Nat.le_of_ble_eq_true rfl, Nat.le_of_ble_eq_true rfl⟩) (z_preV hK hZ (1) (hd _ (by omega)) rfl (by decide) rfl _) rfl rfl hl.1 rfl (lv_room (Nat.le_of_ble_eq_true rfl)) dX7_greatestHeight_9 ⟨Nat.le_of_ble_eq_true rfl, Nat.le_of_ble_eq_true rfl⟩) (fun H locs hZ => ?_)
      refine z_topI (show G 1 0 = X 64 0 from hC0.2.2) ?_
      refine z_icmp_ge (tgt := 40) F (by omega) (by omega) dX7_greatestHeight_12 (by decide) (fun c_12 => ?_) (fun c_12 => ?_)
      · skip
        refine z_iload_n F dX7_greatestHeight_40 rfl (lv_at hl 1 rfl) ?_
        exact z_iret F hr hlocks hZ (by rw [hgN, ← show i = (X 64 0).toNat by omega]; exact h4_2) rfl dX7_greatestHeight_41 (by omega) (by omega)
      · skip
        refine z_aload_n F dX7_greatestHeight_15 rfl (lv_at hl 0 rfl) ?_
        refine z_iload_n F dX7_greatestHeight_16 rfl (lv_at hl 2 rfl) ?_
        refine z_bxr hZ (va_runV (As := [.int (zI ((i : Int)))]) (rest := []) F (k_X7_honest l w dom A hDA sz G X mm hd hdl hM hI ((i : Int)) (by omega)) (cwV 1 F.2.2.2.2 gX7_greatestHeight_X7_honest rfl rfl rfl (by decide +kernel) ⟨Nat.le_of_ble_eq_true rfl, Nat.le_of_ble_eq_true rfl⟩) (z_preV hK hZ (0) (hd _ (by omega)) rfl (by decide) rfl _) rfl rfl hl.1 rfl (lv_room (Nat.le_of_ble_eq_true rfl)) dX7_greatestHeight_17 ⟨Nat.le_of_ble_eq_true rfl, Nat.le_of_ble_eq_true rfl⟩) (fun H locs hZ => ?_)
        refine z_vstore_n (lv' := [(3, zV w (hoV X ((i : Int)))), (0, .ref (w.2.1 + (0))), (1, .int (zI (b))), (2, .int (zI ((i : Int))))]) F dX7_greatestHeight_20 rfl hl (by decide) (by unfold zV; (repeat' split) <;> rfl) (fun ls hl => ?_)
        refine z_vload_n (w := w) F dX7_greatestHeight_21 rfl (lv_at hl 0 rfl) ?_
        refine z_ifnull (tgt := 34) F dX7_greatestHeight_22 (by decide) (fun c_22 => ?_) (fun c_22 => ?_)
        · skip
          refine z_iinc (k := 3) (z := (i : Int)) (lv' := [(2, .int (zI ((i : Int) + 1))), (3, zV w (hoV X ((i : Int)))), (0, .ref (w.2.1 + (0))), (1, .int (zI (b)))]) F dX7_greatestHeight_34 hl rfl (by decide) (by unfold zV; (repeat' split) <;> rfl) (fun ls hl => ?_)
          refine lv_goto (tgt := 4) F.1 F.2.1 dX7_greatestHeight_37 (by decide) ?_
          exact ih_4 (i + 1) (b) (by omega) (by omega) (by first | (rw [hg_no (hoV_neg (by omega) c_22)]; exact h4_2) | (rw [gH_S hf_i (h6 i hj_i).1, ← h4_2])) (by first | exact h4_3 | (have z := h6 i hj_i; omega)) _ _ _ hZ (lv_sub hl [2, 3, 0] rfl)
        · skip
          obtain ⟨hj_i, hj0_i, hf_i, hz_i⟩ := hoV_pos hn (by assumption)
          rw [hz_i, zV_nat] at hl
          refine z_iload_n F dX7_greatestHeight_25 rfl (lv_at hl 2 rfl) ?_
          refine z_aload_n F dX7_greatestHeight_26 rfl (lv_at hl 0 rfl) ?_
          refine z_get F hK hZ (8 + 8 * i) (hd _ (by omega)) (shp_seat i hj_i) (by decide) rfl hin6 2 (by decide) mX7_greatestHeight_128 rfl rfl dX7_greatestHeight_27 ?_
          have r_1 := hZ.2.1.1 (8 + 8 * i) (2)
          refine z_topI (show G (8 + 8 * i) 2 = X 67 (20 * (i : Int) + 0) from (Sim_f hM (j := i) (by omega)).2.2.1) ?_
          have r_2 : -2147483648 ≤ X 67 (20 * (i : Int) + 0) ∧ X 67 (20 * (i : Int) + 0) < 2147483648 := by rw [← show G (8 + 8 * i) 2 = X 67 (20 * (i : Int) + 0) from (Sim_f hM (j := i) (by omega)).2.2.1]; exact hZ.2.1.1 _ _
          refine z_mmax F hl (by omega) (by omega) (by decide +kernel) (by decide +kernel) (by decide +kernel) (by decide +kernel) (Nat.le_of_ble_eq_true rfl) (Nat.le_of_ble_eq_true rfl) (Nat.le_of_ble_eq_true rfl) (Nat.le_of_ble_eq_true rfl) dX7_greatestHeight_30 ?_
          refine z_istore_n (lv' := [(1, .int (zI (max b (X 67 (20 * (i : Int) + 0))))), (3, .ref (w.2.1 + (8 + 8 * i))), (0, .ref (w.2.1 + (0))), (2, .int (zI ((i : Int))))]) F dX7_greatestHeight_33 rfl hl (by decide) rfl (fun ls hl => ?_)
          refine z_iinc (k := 3) (z := (i : Int)) (lv' := [(2, .int (zI ((i : Int) + 1))), (1, .int (zI (max b (X 67 (20 * (i : Int) + 0))))), (3, .ref (w.2.1 + (8 + 8 * i))), (0, .ref (w.2.1 + (0)))]) F dX7_greatestHeight_34 hl rfl (by decide) rfl (fun ls hl => ?_)
          refine lv_goto (tgt := 4) F.1 F.2.1 dX7_greatestHeight_37 (by decide) ?_
          exact ih_4 (i + 1) (max b (X 67 (20 * (i : Int) + 0))) (by omega) (by omega) (by first | (rw [hg_no (hoV_neg (by omega) c_22)]; exact h4_2) | (rw [gH_S hf_i (h6 i hj_i).1, ← h4_2])) (by first | exact h4_3 | (have z := h6 i hj_i; omega)) _ _ _ hZ (lv_sub hl [3, 1, 0] rfl)
  exact L_4 ((X 64 0).toNat + 1) 0 0 (by omega) (by omega) rfl (by omega) _ _ _ hZ (lv_sub hl [2, 1, 0] rfl)

theorem mX7_leastHeight_10 : Cond.fieldLink RX7 10 "LockedChain" "council" "LLockedChain$Council;" ∈ wsX7_leastHeight := by decide +kernel
theorem mX7_leastHeight_128 : Cond.fieldLink RX7 128 "LockedChain$Seat" "height" "I" ∈ wsX7_leastHeight := by decide +kernel
set_option maxHeartbeats 4000000 in
set_option maxRecDepth 100000 in
theorem k_X7_leastHeight (l : Launch) (w : zW) (dom : Nat → Prop) (A : Nat → Prop) (hDA : ∀ i, dom i → A (w.2.1 + i)) (sz : Nat) (G : zM) (X : zM) (mm : Nat) (hd : ∀ i, i < 64 → dom i) (hdl : ∀ i, 71 ≤ i ∧ i < 71 + mm → dom i) (hM : Sim G X mm) (hI : Inv X) : Met l yX7_leastHeight wsX7_leastHeight { frames := 4, cells := 0, slots := 0, locals := 86 } (zPre w dom sz G [.ref (w.2.1 + (0))]) (zQi w dom sz (hgN X 1) (fun C => C = G) A) (0) (0) A := by
  refine Met.ofW (cc := cX7_leastHeight) (maxL := 4) (ret := (some .int)) (by decide) rfl ?_
  intro p e s m args below meth c s₁ B hml hv
  obtain ⟨rfl, hsz, hP, hK⟩ := hv
  have F : CallFix p m c cX7_leastHeight 4 s _ wsX7_leastHeight RX7 := ⟨B.exec, B.bytes, hml, findClass_of_methodNamed B.named, atoms_spec (ws := wsX7_leastHeight) B.pre⟩
  have hr := B.returns
  have hlocks := B.notSynchronized
  have hZ : Zs w dom A s.heap sz G s.heap [] := ⟨hsz, hP, va_S.rf⟩
  have hl := lv_entry ([.ref (w.2.1 + (0))]) (n := 4) (Nat.le_of_ble_eq_true rfl)
  rw [lg_entry_eq]
  generalize (lg_sl ([.ref (w.2.1 + (0))]) ++ List.replicate (4 - (lg_sl ([.ref (w.2.1 + (0))])).length) Slot.unset).toArray = ls at hl ⊢
  have hl : lv_has ls 4 [(0, .ref (w.2.1 + (0)))] := hl
  have hin6 : ∀ v ∈ u_ws RX6 TX6 15, v ∈ wsX7_leastHeight := by decide +kernel
  have hin7 : ∀ v ∈ u_ws RX7 TX7 6, v ∈ wsX7_leastHeight := by decide +kernel
  have hn := hI.1
  have hLL := hI.2.2.2.1
  have hS : PostS G X mm := hM.1
  obtain ⟨hS1, hS2, hS3, hS4, hS5⟩ := hM.1
  have hC0 := hM.2.1
  have h6 := seats6 hI
  have hgr := hgN_rng hI
  refine z_aload_n F dX7_leastHeight_0 rfl (lv_at hl 0 rfl) ?_
  refine z_bxi hZ (va_runV (As := []) (rest := []) F (k_X7_greatestHeight l w dom A hDA sz G X mm hd hdl hM hI) (cwV 0 F.2.2.2.2 gX7_leastHeight_X7_greatestHeight rfl rfl rfl (by decide +kernel) ⟨Nat.le_of_ble_eq_true rfl, Nat.le_of_ble_eq_true rfl⟩) (z_preV hK hZ (0) (hd _ (by omega)) rfl (by decide) rfl _) rfl rfl hl.1 rfl (lv_room (Nat.le_of_ble_eq_true rfl)) dX7_leastHeight_1 ⟨Nat.le_of_ble_eq_true rfl, Nat.le_of_ble_eq_true rfl⟩) (fun H locs hZ => ?_)
  refine z_istore_n (lv' := [(1, .int (zI (hgN X 0))), (0, .ref (w.2.1 + (0)))]) F dX7_leastHeight_4 rfl hl (by decide) rfl (fun ls hl => ?_)
  refine z_iconst F dX7_leastHeight_5 ?_
  refine z_istore_n (lv' := [(2, .int (zI (0))), (1, .int (zI (hgN X 0))), (0, .ref (w.2.1 + (0)))]) F dX7_leastHeight_6 rfl hl (by decide) rfl (fun ls hl => ?_)
  have L_7 : ∀ (nf : Nat) (i : Nat) (b : Int), ((X 64 0).toNat + 1 ≤ i + nf) → (i ≤ (X 64 0).toNat) → (b = (if hgF X 1 i < 0 then hgN X 0 else hgF X 1 i)) → (0 ≤ b ∧ b ≤ 6) →  ∀ (H : Heap) (locs : List Loc) (ls : Array Slot), Zs w dom A s.heap sz G H locs → lv_has ls 4 [(0, .ref (w.2.1 + (0))), (1, .int (zI (b))), (2, .int (zI ((i : Int))))] → W p l e (headSpec wsX7_leastHeight { frames := 4, cells := 0, slots := 0, locals := 86 }).room s m ([.ref (w.2.1 + (0))] : List Value).toArray below meth c H locs (0 + 0) (0 + 0) (MQ below (zQi w dom sz (hgN X 1) (fun C => C = G) A) ([.ref (w.2.1 + (0))] : List Value).toArray s (0) (0) A) (F0 m 7 ls []) := by
    intro nf
    induction nf with
    | zero => intro i  b  h7_0 h7_1 h7_2 h7_3; exact absurd h7_0 (by omega)
    | succ nf ih_7 =>
      intro i  b  h7_0 h7_1 h7_2 h7_3 H locs ls hZ hl
      refine z_iload_n F dX7_leastHeight_7 rfl (lv_at hl 2 rfl) ?_
      refine z_aload_n F dX7_leastHeight_8 rfl (lv_at hl 0 rfl) ?_
      refine z_get F hK hZ (0) (hd _ (by omega)) rfl (by decide) rfl hin7 0 (by decide) mX7_leastHeight_10 rfl rfl dX7_leastHeight_9 ?_
      refine z_bxi hZ (va_runV (As := []) (rest := [.int (zI ((i : Int)))]) F (k_X1_size l w dom A hDA sz G hd) (cwV 0 F.2.2.2.2 gX7_leastHeight_X1_size rfl rfl rfl (by decide +kernel) ⟨Nat.le_of_ble_eq_true rfl, Nat.le_of_ble_eq_true rfl⟩) (z_preV hK hZ (1) (hd _ (by omega)) rfl (by decide) rfl _) rfl rfl hl.1 rfl (lv_room (Nat.le_of_ble_eq_true rfl)) dX7_leastHeight_12 ⟨Nat.le_of_ble_eq_true rfl, Nat.le_of_ble_eq_true rfl⟩) (fun H locs hZ => ?_)
      refine z_topI (show G 1 0 = X 64 0 from hC0.2.2) ?_
      refine z_icmp_ge (tgt := 43) F (by omega) (by omega) dX7_leastHeight_15 (by decide) (fun c_15 => ?_) (fun c_15 => ?_)
      · skip
        refine z_iload_n F dX7_leastHeight_43 rfl (lv_at hl 1 rfl) ?_
        exact z_iret F hr hlocks hZ (by rw [h7_2, show i = (X 64 0).toNat by omega]; exact lH_end hI) rfl dX7_leastHeight_44 (by omega) (by omega)
      · skip
        refine z_aload_n F dX7_leastHeight_18 rfl (lv_at hl 0 rfl) ?_
        refine z_iload_n F dX7_leastHeight_19 rfl (lv_at hl 2 rfl) ?_
        refine z_bxr hZ (va_runV (As := [.int (zI ((i : Int)))]) (rest := []) F (k_X7_honest l w dom A hDA sz G X mm hd hdl hM hI ((i : Int)) (by omega)) (cwV 1 F.2.2.2.2 gX7_leastHeight_X7_honest rfl rfl rfl (by decide +kernel) ⟨Nat.le_of_ble_eq_true rfl, Nat.le_of_ble_eq_true rfl⟩) (z_preV hK hZ (0) (hd _ (by omega)) rfl (by decide) rfl _) rfl rfl hl.1 rfl (lv_room (Nat.le_of_ble_eq_true rfl)) dX7_leastHeight_20 ⟨Nat.le_of_ble_eq_true rfl, Nat.le_of_ble_eq_true rfl⟩) (fun H locs hZ => ?_)
        refine z_vstore_n (lv' := [(3, zV w (hoV X ((i : Int)))), (0, .ref (w.2.1 + (0))), (1, .int (zI (b))), (2, .int (zI ((i : Int))))]) F dX7_leastHeight_23 rfl hl (by decide) (by unfold zV; (repeat' split) <;> rfl) (fun ls hl => ?_)
        refine z_vload_n (w := w) F dX7_leastHeight_24 rfl (lv_at hl 0 rfl) ?_
        refine z_ifnull (tgt := 37) F dX7_leastHeight_25 (by decide) (fun c_25 => ?_) (fun c_25 => ?_)
        · skip
          refine z_iinc (k := 3) (z := (i : Int)) (lv' := [(2, .int (zI ((i : Int) + 1))), (3, zV w (hoV X ((i : Int)))), (0, .ref (w.2.1 + (0))), (1, .int (zI (b)))]) F dX7_leastHeight_37 hl rfl (by decide) (by unfold zV; (repeat' split) <;> rfl) (fun ls hl => ?_)
          refine lv_goto (tgt := 7) F.1 F.2.1 dX7_leastHeight_40 (by decide) ?_
          exact ih_7 (i + 1) (b) (by omega) (by omega) (by first | (rw [hg_no (hoV_neg (by omega) c_25)]; exact h7_2) | (rw [lH_S hf_i (h6 i hj_i).1 (hg_top hI hj0_i hf_i), ← h7_2])) (by first | exact h7_3 | (have z := h6 i hj_i; omega)) _ _ _ hZ (lv_sub hl [2, 3, 0] rfl)
        · skip
          obtain ⟨hj_i, hj0_i, hf_i, hz_i⟩ := hoV_pos hn (by assumption)
          rw [hz_i, zV_nat] at hl
          refine z_iload_n F dX7_leastHeight_28 rfl (lv_at hl 2 rfl) ?_
          refine z_aload_n F dX7_leastHeight_29 rfl (lv_at hl 0 rfl) ?_
          refine z_get F hK hZ (8 + 8 * i) (hd _ (by omega)) (shp_seat i hj_i) (by decide) rfl hin6 2 (by decide) mX7_leastHeight_128 rfl rfl dX7_leastHeight_30 ?_
          have r_1 := hZ.2.1.1 (8 + 8 * i) (2)
          refine z_topI (show G (8 + 8 * i) 2 = X 67 (20 * (i : Int) + 0) from (Sim_f hM (j := i) (by omega)).2.2.1) ?_
          have r_2 : -2147483648 ≤ X 67 (20 * (i : Int) + 0) ∧ X 67 (20 * (i : Int) + 0) < 2147483648 := by rw [← show G (8 + 8 * i) 2 = X 67 (20 * (i : Int) + 0) from (Sim_f hM (j := i) (by omega)).2.2.1]; exact hZ.2.1.1 _ _
          refine z_mmin F hl (by omega) (by omega) (by decide +kernel) (by decide +kernel) (by decide +kernel) (by decide +kernel) (Nat.le_of_ble_eq_true rfl) (Nat.le_of_ble_eq_true rfl) (Nat.le_of_ble_eq_true rfl) (Nat.le_of_ble_eq_true rfl) dX7_leastHeight_33 ?_
          refine z_istore_n (lv' := [(1, .int (zI (min b (X 67 (20 * (i : Int) + 0))))), (3, .ref (w.2.1 + (8 + 8 * i))), (0, .ref (w.2.1 + (0))), (2, .int (zI ((i : Int))))]) F dX7_leastHeight_36 rfl hl (by decide) rfl (fun ls hl => ?_)
          refine z_iinc (k := 3) (z := (i : Int)) (lv' := [(2, .int (zI ((i : Int) + 1))), (1, .int (zI (min b (X 67 (20 * (i : Int) + 0))))), (3, .ref (w.2.1 + (8 + 8 * i))), (0, .ref (w.2.1 + (0)))]) F dX7_leastHeight_37 hl rfl (by decide) rfl (fun ls hl => ?_)
          refine lv_goto (tgt := 7) F.1 F.2.1 dX7_leastHeight_40 (by decide) ?_
          exact ih_7 (i + 1) (min b (X 67 (20 * (i : Int) + 0))) (by omega) (by omega) (by first | (rw [hg_no (hoV_neg (by omega) c_25)]; exact h7_2) | (rw [lH_S hf_i (h6 i hj_i).1 (hg_top hI hj0_i hf_i), ← h7_2])) (by first | exact h7_3 | (have z := h6 i hj_i; omega)) _ _ _ hZ (lv_sub hl [3, 1, 0] rfl)
  exact L_7 ((X 64 0).toNat + 1) 0 (hgN X 0) (by omega) (by omega) rfl hgr _ _ _ hZ (lv_sub hl [2, 1, 0] rfl)

theorem mX7_isSplit_10 : Cond.fieldLink RX7 10 "LockedChain" "council" "LLockedChain$Council;" ∈ wsX7_isSplit := by decide +kernel
theorem mX7_isSplit_159 : Cond.fieldLink RX7 159 "LockedChain$Seat" "chain" "LLockedChain$Chain;" ∈ wsX7_isSplit := by decide +kernel
set_option maxHeartbeats 4000000 in
set_option maxRecDepth 100000 in
theorem k_X7_isSplit (l : Launch) (w : zW) (dom : Nat → Prop) (A : Nat → Prop) (hDA : ∀ i, dom i → A (w.2.1 + i)) (sz : Nat) (G : zM) (X : zM) (mm : Nat) (hd : ∀ i, i < 64 → dom i) (hdl : ∀ i, 71 ≤ i ∧ i < 71 + mm → dom i) (hM : Sim G X mm) (hI : Inv X) (h : Int) (hh : -2147483648 ≤ h ∧ h < 2147483648) (h0 : 0 ≤ h ∧ h < 6) : Met l yX7_isSplit wsX7_isSplit { frames := 3, cells := 0, slots := 0, locals := 63 } (zPre w dom sz G [.ref (w.2.1 + (0)), .int (zI (h))]) (zQi w dom sz (bI (ulB X h (X 64 0).toNat = true)) (fun C => C = G) A) (0) (0) A := by
  refine Met.ofW (cc := cX7_isSplit) (maxL := 6) (ret := (some .boolean)) (by decide) rfl ?_
  intro p e s m args below meth c s₁ B hml hv
  obtain ⟨rfl, hsz, hP, hK⟩ := hv
  have F : CallFix p m c cX7_isSplit 6 s _ wsX7_isSplit RX7 := ⟨B.exec, B.bytes, hml, findClass_of_methodNamed B.named, atoms_spec (ws := wsX7_isSplit) B.pre⟩
  have hr := B.returns
  have hlocks := B.notSynchronized
  have hZ : Zs w dom A s.heap sz G s.heap [] := ⟨hsz, hP, va_S.rf⟩
  have hl := lv_entry ([.ref (w.2.1 + (0)), .int (zI (h))]) (n := 6) (Nat.le_of_ble_eq_true rfl)
  rw [lg_entry_eq]
  generalize (lg_sl ([.ref (w.2.1 + (0)), .int (zI (h))]) ++ List.replicate (6 - (lg_sl ([.ref (w.2.1 + (0)), .int (zI (h))])).length) Slot.unset).toArray = ls at hl ⊢
  have hl : lv_has ls 6 [(0, .ref (w.2.1 + (0))), (1, .int (zI (h)))] := hl
  have hin6 : ∀ v ∈ u_ws RX6 TX6 15, v ∈ wsX7_isSplit := by decide +kernel
  have hin7 : ∀ v ∈ u_ws RX7 TX7 6, v ∈ wsX7_isSplit := by decide +kernel
  have hn := hI.1
  have hLL := hI.2.2.2.1
  have hS : PostS G X mm := hM.1
  obtain ⟨hS1, hS2, hS3, hS4, hS5⟩ := hM.1
  have hC0 := hM.2.1
  refine z_bipush F (by decide) dX7_isSplit_0 ?_
  refine z_istore_n (lv' := [(2, .int (zI (-4))), (0, .ref (w.2.1 + (0))), (1, .int (zI (h)))]) F dX7_isSplit_2 rfl hl (by decide) rfl (fun ls hl => ?_)
  refine z_iconst F dX7_isSplit_3 ?_
  refine z_istore_n (lv' := [(3, .int (zI (0))), (2, .int (zI (-4))), (0, .ref (w.2.1 + (0))), (1, .int (zI (h)))]) F dX7_isSplit_4 rfl hl (by decide) rfl (fun ls hl => ?_)
  have L_5 : ∀ (nf : Nat) (i : Nat) (b : Int), ((X 64 0).toNat + 1 ≤ i + nf) → (i ≤ (X 64 0).toNat) → (b = nn (ulF X h i)) → (¬ ulB X h i = true) → (-4 ≤ b ∧ b ≤ 99) →  ∀ (H : Heap) (locs : List Loc) (ls : Array Slot), Zs w dom A s.heap sz G H locs → lv_has ls 6 [(0, .ref (w.2.1 + (0))), (1, .int (zI (h))), (2, .int (zI (b))), (3, .int (zI ((i : Int))))] → W p l e (headSpec wsX7_isSplit { frames := 3, cells := 0, slots := 0, locals := 63 }).room s m ([.ref (w.2.1 + (0)), .int (zI (h))] : List Value).toArray below meth c H locs (0) (0) (MQ below (zQi w dom sz (bI (ulB X h (X 64 0).toNat = true)) (fun C => C = G) A) ([.ref (w.2.1 + (0)), .int (zI (h))] : List Value).toArray s (0) (0) A) (F0 m 5 ls []) := by
    intro nf
    induction nf with
    | zero => intro i  b  h5_0 h5_1 h5_2 h5_3 h5_4; exact absurd h5_0 (by omega)
    | succ nf ih_5 =>
      intro i  b  h5_0 h5_1 h5_2 h5_3 h5_4 H locs ls hZ hl
      refine z_iload_n F dX7_isSplit_5 rfl (lv_at hl 3 rfl) ?_
      refine z_aload_n F dX7_isSplit_6 rfl (lv_at hl 0 rfl) ?_
      refine z_get F hK hZ (0) (hd _ (by omega)) rfl (by decide) rfl hin7 0 (by decide) mX7_isSplit_10 rfl rfl dX7_isSplit_7 ?_
      refine z_bxi hZ (va_runV (As := []) (rest := [.int (zI ((i : Int)))]) F (k_X1_size l w dom A hDA sz G hd) (cwV 0 F.2.2.2.2 gX7_isSplit_X1_size rfl rfl rfl (by decide +kernel) ⟨Nat.le_of_ble_eq_true rfl, Nat.le_of_ble_eq_true rfl⟩) (z_preV hK hZ (1) (hd _ (by omega)) rfl (by decide) rfl _) rfl rfl hl.1 rfl (lv_room (Nat.le_of_ble_eq_true rfl)) dX7_isSplit_10 ⟨Nat.le_of_ble_eq_true rfl, Nat.le_of_ble_eq_true rfl⟩) (fun H locs hZ => ?_)
      refine z_topI (show G 1 0 = X 64 0 from hC0.2.2) ?_
      refine z_icmp_ge (tgt := 81) F (by omega) (by omega) dX7_isSplit_13 (by decide) (fun c_13 => ?_) (fun c_13 => ?_)
      · skip
        refine z_iconst F dX7_isSplit_81 ?_
        exact z_zret F hr hlocks hZ (by first | exact bI_1 (ul_more (i := i + 1) (by rw [ulB_S]; exact Or.inr (ul_two h5_2 hV (by omega) (by omega) (by omega))) (by omega)) | exact bI_0 (by rw [← show i = (X 64 0).toNat by omega]; exact h5_3)) (by omega) rfl dX7_isSplit_82 (by omega) (by omega)
      · skip
        refine z_aload_n F dX7_isSplit_16 rfl (lv_at hl 0 rfl) ?_
        refine z_iload_n F dX7_isSplit_17 rfl (lv_at hl 3 rfl) ?_
        refine z_bxr hZ (va_runV (As := [.int (zI ((i : Int)))]) (rest := []) F (k_X7_honest l w dom A hDA sz G X mm hd hdl hM hI ((i : Int)) (by omega)) (cwV 1 F.2.2.2.2 gX7_isSplit_X7_honest rfl rfl rfl (by decide +kernel) ⟨Nat.le_of_ble_eq_true rfl, Nat.le_of_ble_eq_true rfl⟩) (z_preV hK hZ (0) (hd _ (by omega)) rfl (by decide) rfl _) rfl rfl hl.1 rfl (lv_room (Nat.le_of_ble_eq_true rfl)) dX7_isSplit_18 ⟨Nat.le_of_ble_eq_true rfl, Nat.le_of_ble_eq_true rfl⟩) (fun H locs hZ => ?_)
        refine z_vstore (lv' := [(4, zV w (hoV X ((i : Int)))), (0, .ref (w.2.1 + (0))), (1, .int (zI (h))), (2, .int (zI (b))), (3, .int (zI ((i : Int))))]) F dX7_isSplit_21 hl (by decide) (by unfold zV; (repeat' split) <;> rfl) (fun ls hl => ?_)
        refine z_vload (w := w) F dX7_isSplit_23 (lv_at hl 0 rfl) ?_
        refine z_ifnonnull (tgt := 33) F dX7_isSplit_25 (by decide) (fun c_25 => ?_) (fun c_25 => ?_)
        · skip
          obtain ⟨hj_i, hj0_i, hf_i, hz_i⟩ := hoV_pos hn (by assumption)
          rw [hz_i, zV_nat] at hl
          refine z_aload F dX7_isSplit_33 (lv_at hl 0 rfl) ?_
          refine z_get F hK hZ (8 + 8 * i) (hd _ (by omega)) (shp_seat i hj_i) (by decide) rfl hin6 12 (by decide) mX7_isSplit_159 rfl rfl dX7_isSplit_35 ?_
          refine z_iload_n F dX7_isSplit_38 rfl (lv_at hl 2 rfl) ?_
          refine z_bxi hZ (va_runV (As := [.int (zI (h))]) (rest := []) F (k_X0_valueAt l w dom A hDA sz G hd i hj_i h (by omega)) (cwV 1 F.2.2.2.2 gX7_isSplit_X0_valueAt rfl rfl rfl (by decide +kernel) ⟨Nat.le_of_ble_eq_true rfl, Nat.le_of_ble_eq_true rfl⟩) (z_preV hK hZ (8 + 8 * i + 3) (hd _ (by omega)) (shp_chain i hj_i) (by decide) rfl _) rfl rfl hl.1 rfl (lv_room (Nat.le_of_ble_eq_true rfl)) dX7_isSplit_39 ⟨Nat.le_of_ble_eq_true rfl, Nat.le_of_ble_eq_true rfl⟩) (fun H locs hZ => ?_)
          have hV : G (8 + 8 * i + 4) h = nn (ulV X h i) := by first | exact ulV_no (hoV_neg (by omega) c_25) | exact ulV_ho hM hj_i hf_i h0
          have hVr := ulV_rng hI h0 (i := i) (by omega)
          refine z_istore (lv' := [(5, .int (zI (G (8 + 8 * i + 4) h))), (4, .ref (w.2.1 + (8 + 8 * i))), (0, .ref (w.2.1 + (0))), (1, .int (zI (h))), (2, .int (zI (b))), (3, .int (zI ((i : Int))))]) F dX7_isSplit_42 hl (by decide) rfl (fun ls hl => ?_)
          refine z_iload F dX7_isSplit_44 (lv_at hl 0 rfl) ?_
          refine z_bipush F (by decide) dX7_isSplit_46 ?_
          refine z_icmp_eq (tgt := 65) F (by omega) (by omega) dX7_isSplit_48 (by decide) (fun c_48 => ?_) (fun c_48 => ?_)
          · skip
            refine z_iload F dX7_isSplit_65 (lv_at hl 0 rfl) ?_
            refine z_bipush F (by decide) dX7_isSplit_67 ?_
            refine z_icmp_eq (tgt := 75) F (by omega) (by omega) dX7_isSplit_69 (by decide) (fun c_69 => ?_) (fun c_69 => ?_)
            · skip
              refine z_iinc (k := 5) (z := (i : Int)) (lv' := [(3, .int (zI ((i : Int) + 1))), (5, .int (zI (G (8 + 8 * i + 4) h))), (4, .ref (w.2.1 + (8 + 8 * i))), (0, .ref (w.2.1 + (0))), (1, .int (zI (h))), (2, .int (zI (b)))]) F dX7_isSplit_75 hl rfl (by decide) rfl (fun ls hl => ?_)
              refine lv_goto (tgt := 5) F.1 F.2.1 dX7_isSplit_78 (by decide) ?_
              exact ih_5 (i + 1) (b) (by omega) (by omega) (by have z := (ul_one h5_2 hV (by omega)).1; first | (rw [if_pos (by omega)] at z; exact z) | (rw [if_neg (by omega)] at z; exact z)) (ul_S h5_3 (ul_one h5_2 hV (by omega)).2) (by omega) _ _ _ hZ (lv_sub hl [3, 4, 5, 0] rfl)
            · skip
              refine z_iload F dX7_isSplit_72 (lv_at hl 0 rfl) ?_
              refine z_istore_n (lv' := [(2, .int (zI (G (8 + 8 * i + 4) h))), (5, .int (zI (G (8 + 8 * i + 4) h))), (4, .ref (w.2.1 + (8 + 8 * i))), (0, .ref (w.2.1 + (0))), (1, .int (zI (h))), (3, .int (zI ((i : Int))))]) F dX7_isSplit_74 rfl hl (by decide) rfl (fun ls hl => ?_)
              refine z_iinc (k := 5) (z := (i : Int)) (lv' := [(3, .int (zI ((i : Int) + 1))), (2, .int (zI (G (8 + 8 * i + 4) h))), (5, .int (zI (G (8 + 8 * i + 4) h))), (4, .ref (w.2.1 + (8 + 8 * i))), (0, .ref (w.2.1 + (0))), (1, .int (zI (h)))]) F dX7_isSplit_75 hl rfl (by decide) rfl (fun ls hl => ?_)
              refine lv_goto (tgt := 5) F.1 F.2.1 dX7_isSplit_78 (by decide) ?_
              exact ih_5 (i + 1) (G (8 + 8 * i + 4) h) (by omega) (by omega) (by have z := (ul_one h5_2 hV (by omega)).1; first | (rw [if_pos (by omega)] at z; exact z) | (rw [if_neg (by omega)] at z; exact z)) (ul_S h5_3 (ul_one h5_2 hV (by omega)).2) (by omega) _ _ _ hZ (lv_sub hl [4, 5, 1, 0] rfl)
          · skip
            refine z_iload_n F dX7_isSplit_51 rfl (lv_at hl 4 rfl) ?_
            refine z_bipush F (by decide) dX7_isSplit_52 ?_
            refine z_icmp_eq (tgt := 65) F (by omega) (by omega) dX7_isSplit_54 (by decide) (fun c_54 => ?_) (fun c_54 => ?_)
            · skip
              refine z_iload F dX7_isSplit_65 (lv_at hl 0 rfl) ?_
              refine z_bipush F (by decide) dX7_isSplit_67 ?_
              refine z_icmp_eq (tgt := 75) F (by omega) (by omega) dX7_isSplit_69 (by decide) (fun c_69 => ?_) (fun c_69 => ?_)
              · skip
                refine z_iinc (k := 5) (z := (i : Int)) (lv' := [(3, .int (zI ((i : Int) + 1))), (5, .int (zI (G (8 + 8 * i + 4) h))), (4, .ref (w.2.1 + (8 + 8 * i))), (0, .ref (w.2.1 + (0))), (1, .int (zI (h))), (2, .int (zI (b)))]) F dX7_isSplit_75 hl rfl (by decide) rfl (fun ls hl => ?_)
                refine lv_goto (tgt := 5) F.1 F.2.1 dX7_isSplit_78 (by decide) ?_
                exact ih_5 (i + 1) (b) (by omega) (by omega) (by have z := (ul_one h5_2 hV (by omega)).1; first | (rw [if_pos (by omega)] at z; exact z) | (rw [if_neg (by omega)] at z; exact z)) (ul_S h5_3 (ul_one h5_2 hV (by omega)).2) (by omega) _ _ _ hZ (lv_sub hl [3, 4, 5, 0] rfl)
              · skip
                refine z_iload F dX7_isSplit_72 (lv_at hl 0 rfl) ?_
                refine z_istore_n (lv' := [(2, .int (zI (G (8 + 8 * i + 4) h))), (5, .int (zI (G (8 + 8 * i + 4) h))), (4, .ref (w.2.1 + (8 + 8 * i))), (0, .ref (w.2.1 + (0))), (1, .int (zI (h))), (3, .int (zI ((i : Int))))]) F dX7_isSplit_74 rfl hl (by decide) rfl (fun ls hl => ?_)
                refine z_iinc (k := 5) (z := (i : Int)) (lv' := [(3, .int (zI ((i : Int) + 1))), (2, .int (zI (G (8 + 8 * i + 4) h))), (5, .int (zI (G (8 + 8 * i + 4) h))), (4, .ref (w.2.1 + (8 + 8 * i))), (0, .ref (w.2.1 + (0))), (1, .int (zI (h)))]) F dX7_isSplit_75 hl rfl (by decide) rfl (fun ls hl => ?_)
                refine lv_goto (tgt := 5) F.1 F.2.1 dX7_isSplit_78 (by decide) ?_
                exact ih_5 (i + 1) (G (8 + 8 * i + 4) h) (by omega) (by omega) (by have z := (ul_one h5_2 hV (by omega)).1; first | (rw [if_pos (by omega)] at z; exact z) | (rw [if_neg (by omega)] at z; exact z)) (ul_S h5_3 (ul_one h5_2 hV (by omega)).2) (by omega) _ _ _ hZ (lv_sub hl [4, 5, 1, 0] rfl)
            · skip
              refine z_iload F dX7_isSplit_57 (lv_at hl 0 rfl) ?_
              refine z_iload_n F dX7_isSplit_59 rfl (lv_at hl 4 rfl) ?_
              refine z_icmp_eq (tgt := 65) F (by omega) (by omega) dX7_isSplit_60 (by decide) (fun c_60 => ?_) (fun c_60 => ?_)
              · skip
                refine z_iload F dX7_isSplit_65 (lv_at hl 0 rfl) ?_
                refine z_bipush F (by decide) dX7_isSplit_67 ?_
                refine z_icmp_eq (tgt := 75) F (by omega) (by omega) dX7_isSplit_69 (by decide) (fun c_69 => ?_) (fun c_69 => ?_)
                · skip
                  refine z_iinc (k := 5) (z := (i : Int)) (lv' := [(3, .int (zI ((i : Int) + 1))), (5, .int (zI (G (8 + 8 * i + 4) h))), (4, .ref (w.2.1 + (8 + 8 * i))), (0, .ref (w.2.1 + (0))), (1, .int (zI (h))), (2, .int (zI (b)))]) F dX7_isSplit_75 hl rfl (by decide) rfl (fun ls hl => ?_)
                  refine lv_goto (tgt := 5) F.1 F.2.1 dX7_isSplit_78 (by decide) ?_
                  exact ih_5 (i + 1) (b) (by omega) (by omega) (by have z := (ul_one h5_2 hV (by omega)).1; first | (rw [if_pos (by omega)] at z; exact z) | (rw [if_neg (by omega)] at z; exact z)) (ul_S h5_3 (ul_one h5_2 hV (by omega)).2) (by omega) _ _ _ hZ (lv_sub hl [3, 4, 5, 0] rfl)
                · skip
                  refine z_iload F dX7_isSplit_72 (lv_at hl 0 rfl) ?_
                  refine z_istore_n (lv' := [(2, .int (zI (G (8 + 8 * i + 4) h))), (5, .int (zI (G (8 + 8 * i + 4) h))), (4, .ref (w.2.1 + (8 + 8 * i))), (0, .ref (w.2.1 + (0))), (1, .int (zI (h))), (3, .int (zI ((i : Int))))]) F dX7_isSplit_74 rfl hl (by decide) rfl (fun ls hl => ?_)
                  refine z_iinc (k := 5) (z := (i : Int)) (lv' := [(3, .int (zI ((i : Int) + 1))), (2, .int (zI (G (8 + 8 * i + 4) h))), (5, .int (zI (G (8 + 8 * i + 4) h))), (4, .ref (w.2.1 + (8 + 8 * i))), (0, .ref (w.2.1 + (0))), (1, .int (zI (h)))]) F dX7_isSplit_75 hl rfl (by decide) rfl (fun ls hl => ?_)
                  refine lv_goto (tgt := 5) F.1 F.2.1 dX7_isSplit_78 (by decide) ?_
                  exact ih_5 (i + 1) (G (8 + 8 * i + 4) h) (by omega) (by omega) (by have z := (ul_one h5_2 hV (by omega)).1; first | (rw [if_pos (by omega)] at z; exact z) | (rw [if_neg (by omega)] at z; exact z)) (ul_S h5_3 (ul_one h5_2 hV (by omega)).2) (by omega) _ _ _ hZ (lv_sub hl [4, 5, 1, 0] rfl)
              · skip
                refine z_iconst F dX7_isSplit_63 ?_
                exact z_zret F hr hlocks hZ (by first | exact bI_1 (ul_more (i := i + 1) (by rw [ulB_S]; exact Or.inr (ul_two h5_2 hV (by omega) (by omega) (by omega))) (by omega)) | exact bI_0 (by rw [← show i = (X 64 0).toNat by omega]; exact h5_3)) (by omega) rfl dX7_isSplit_64 (by omega) (by omega)
        · skip
          refine z_bipush F (by decide) dX7_isSplit_28 ?_
          refine lv_goto (tgt := 42) F.1 F.2.1 dX7_isSplit_30 (by decide) ?_
          have hV : -4 = nn (ulV X h i) := by first | exact ulV_no (hoV_neg (by omega) c_25) | exact ulV_ho hM hj_i hf_i h0
          have hVr := ulV_rng hI h0 (i := i) (by omega)
          refine z_istore (lv' := [(5, .int (zI (-4))), (4, zV w (hoV X ((i : Int)))), (0, .ref (w.2.1 + (0))), (1, .int (zI (h))), (2, .int (zI (b))), (3, .int (zI ((i : Int))))]) F dX7_isSplit_42 hl (by decide) (by unfold zV; (repeat' split) <;> rfl) (fun ls hl => ?_)
          refine z_iload F dX7_isSplit_44 (lv_at hl 0 rfl) ?_
          refine z_bipush F (by decide) dX7_isSplit_46 ?_
          refine z_icmp_eq (tgt := 65) F (by omega) (by omega) dX7_isSplit_48 (by decide) (fun c_48 => ?_) (fun c_48 => ?_)
          · skip
            refine z_iload F dX7_isSplit_65 (lv_at hl 0 rfl) ?_
            refine z_bipush F (by decide) dX7_isSplit_67 ?_
            refine z_icmp_eq (tgt := 75) F (by omega) (by omega) dX7_isSplit_69 (by decide) (fun c_69 => ?_) (fun c_69 => ?_)
            · skip
              refine z_iinc (k := 5) (z := (i : Int)) (lv' := [(3, .int (zI ((i : Int) + 1))), (5, .int (zI (-4))), (4, zV w (hoV X ((i : Int)))), (0, .ref (w.2.1 + (0))), (1, .int (zI (h))), (2, .int (zI (b)))]) F dX7_isSplit_75 hl rfl (by decide) (by unfold zV; (repeat' split) <;> rfl) (fun ls hl => ?_)
              refine lv_goto (tgt := 5) F.1 F.2.1 dX7_isSplit_78 (by decide) ?_
              exact ih_5 (i + 1) (b) (by omega) (by omega) (by have z := (ul_one h5_2 hV (by omega)).1; first | (rw [if_pos (by omega)] at z; exact z) | (rw [if_neg (by omega)] at z; exact z)) (ul_S h5_3 (ul_one h5_2 hV (by omega)).2) (by omega) _ _ _ hZ (lv_sub hl [3, 4, 5, 0] rfl)
            · skip
              exfalso; omega
          · skip
            exfalso; omega
  exact L_5 ((X 64 0).toNat + 1) 0 (-4) (by omega) (by omega) rfl (by simp [ulB]) (by omega) _ _ _ hZ (lv_sub hl [2, 3, 1, 0] rfl)

set_option maxHeartbeats 4000000 in
set_option maxRecDepth 100000 in
theorem k_X7_splitHeights (l : Launch) (w : zW) (dom : Nat → Prop) (A : Nat → Prop) (hDA : ∀ i, dom i → A (w.2.1 + i)) (sz : Nat) (G : zM) (X : zM) (mm : Nat) (hd : ∀ i, i < 64 → dom i) (hdl : ∀ i, 71 ≤ i ∧ i < 71 + mm → dom i) (hM : Sim G X mm) (hI : Inv X) : Met l yX7_splitHeights wsX7_splitHeights { frames := 4, cells := 0, slots := 0, locals := 88 } (zPre w dom sz G [.ref (w.2.1 + (0))]) (zQi w dom sz (ulN X 6) (fun C => C = G) A) (0) (0) A := by
  refine Met.ofW (cc := cX7_splitHeights) (maxL := 3) (ret := (some .int)) (by decide) rfl ?_
  intro p e s m args below meth c s₁ B hml hv
  obtain ⟨rfl, hsz, hP, hK⟩ := hv
  have F : CallFix p m c cX7_splitHeights 3 s _ wsX7_splitHeights RX7 := ⟨B.exec, B.bytes, hml, findClass_of_methodNamed B.named, atoms_spec (ws := wsX7_splitHeights) B.pre⟩
  have hr := B.returns
  have hlocks := B.notSynchronized
  have hZ : Zs w dom A s.heap sz G s.heap [] := ⟨hsz, hP, va_S.rf⟩
  have hl := lv_entry ([.ref (w.2.1 + (0))]) (n := 3) (Nat.le_of_ble_eq_true rfl)
  rw [lg_entry_eq]
  generalize (lg_sl ([.ref (w.2.1 + (0))]) ++ List.replicate (3 - (lg_sl ([.ref (w.2.1 + (0))])).length) Slot.unset).toArray = ls at hl ⊢
  have hl : lv_has ls 3 [(0, .ref (w.2.1 + (0)))] := hl
  have hn := hI.1
  have hLL := hI.2.2.2.1
  have hS : PostS G X mm := hM.1
  obtain ⟨hS1, hS2, hS3, hS4, hS5⟩ := hM.1
  have hC0 := hM.2.1
  refine z_iconst F dX7_splitHeights_0 ?_
  refine z_istore_n (lv' := [(1, .int (zI (0))), (0, .ref (w.2.1 + (0)))]) F dX7_splitHeights_1 rfl hl (by decide) rfl (fun ls hl => ?_)
  refine z_iconst F dX7_splitHeights_2 ?_
  refine z_istore_n (lv' := [(2, .int (zI (0))), (1, .int (zI (0))), (0, .ref (w.2.1 + (0)))]) F dX7_splitHeights_3 rfl hl (by decide) rfl (fun ls hl => ?_)
  have L_4 : ∀ (nf : Nat) (h : Nat) (b : Int), (7 ≤ h + nf) → (h ≤ 6) → (b = ulN X h) →  ∀ (H : Heap) (locs : List Loc) (ls : Array Slot), Zs w dom A s.heap sz G H locs → lv_has ls 3 [(0, .ref (w.2.1 + (0))), (1, .int (zI (b))), (2, .int (zI ((h : Int))))] → W p l e (headSpec wsX7_splitHeights { frames := 4, cells := 0, slots := 0, locals := 88 }).room s m ([.ref (w.2.1 + (0))] : List Value).toArray below meth c H locs (0) (0) (MQ below (zQi w dom sz (ulN X 6) (fun C => C = G) A) ([.ref (w.2.1 + (0))] : List Value).toArray s (0) (0) A) (F0 m 4 ls []) := by
    intro nf
    induction nf with
    | zero => intro h  b  h4_0 h4_1 h4_2; exact absurd h4_0 (by omega)
    | succ nf ih_4 =>
      intro h  b  h4_0 h4_1 h4_2 H locs ls hZ hl
      subst h4_2
      have hacc : 0 ≤ ulN X h ∧ ulN X h ≤ h := cntB_rng _ _
      refine z_iload_n F dX7_splitHeights_4 rfl (lv_at hl 2 rfl) ?_
      refine z_bipush F (by decide) dX7_splitHeights_5 ?_
      refine z_icmp_ge (tgt := 27) F (by omega) (by omega) dX7_splitHeights_7 (by decide) (fun c_7 => ?_) (fun c_7 => ?_)
      · skip
        refine z_iload_n F dX7_splitHeights_27 rfl (lv_at hl 1 rfl) ?_
        exact z_iret F hr hlocks hZ (by rw [show h = 6 by omega]) rfl dX7_splitHeights_28 (by omega) (by omega)
      · skip
        refine z_aload_n F dX7_splitHeights_10 rfl (lv_at hl 0 rfl) ?_
        refine z_iload_n F dX7_splitHeights_11 rfl (lv_at hl 2 rfl) ?_
        refine z_bxi hZ (va_runV (As := [.int (zI ((h : Int)))]) (rest := []) F (k_X7_isSplit l w dom A hDA sz G X mm hd hdl hM hI ((h : Int)) (by omega) (by omega)) (cwV 1 F.2.2.2.2 gX7_splitHeights_X7_isSplit rfl rfl rfl (by decide +kernel) ⟨Nat.le_of_ble_eq_true rfl, Nat.le_of_ble_eq_true rfl⟩) (z_preV hK hZ (0) (hd _ (by omega)) rfl (by decide) rfl _) rfl rfl hl.1 rfl (lv_room (Nat.le_of_ble_eq_true rfl)) dX7_splitHeights_12 ⟨Nat.le_of_ble_eq_true rfl, Nat.le_of_ble_eq_true rfl⟩) (fun H locs hZ => ?_)
        refine z_ifB_eq (tgt := 21) F dX7_splitHeights_15 (by decide) (fun c_15 => ?_) (fun c_15 => ?_)
        · skip
          refine z_iinc (k := 2) (z := (h : Int)) (lv' := [(2, .int (zI ((h : Int) + 1))), (0, .ref (w.2.1 + (0))), (1, .int (zI (ulN X h)))]) F dX7_splitHeights_21 hl rfl (by decide) rfl (fun ls hl => ?_)
          refine lv_goto (tgt := 4) F.1 F.2.1 dX7_splitHeights_24 (by decide) ?_
          exact ih_4 (h + 1) (ulN X h) (by omega) (by omega) (by unfold ulN; rw [cntB_S]; first | rw [bI_t c_15] | (rw [bI_f c_15]; omega)) _ _ _ hZ (lv_sub hl [1, 2, 0] rfl)
        · skip
          refine z_iinc (k := 1) (z := ulN X h) (lv' := [(1, .int (zI (ulN X h + 1))), (0, .ref (w.2.1 + (0))), (2, .int (zI ((h : Int))))]) F dX7_splitHeights_18 hl rfl (by decide) rfl (fun ls hl => ?_)
          refine z_iinc (k := 2) (z := (h : Int)) (lv' := [(2, .int (zI ((h : Int) + 1))), (1, .int (zI (ulN X h + 1))), (0, .ref (w.2.1 + (0)))]) F dX7_splitHeights_21 hl rfl (by decide) rfl (fun ls hl => ?_)
          refine lv_goto (tgt := 4) F.1 F.2.1 dX7_splitHeights_24 (by decide) ?_
          exact ih_4 (h + 1) (ulN X h + 1) (by omega) (by omega) (by unfold ulN; rw [cntB_S]; first | rw [bI_t c_15] | (rw [bI_f c_15]; omega)) _ _ _ hZ (lv_sub hl [2, 1, 0] rfl)
  exact L_4 7 0 0 (by omega) (by omega) rfl _ _ _ hZ (lv_sub hl [2, 1, 0] rfl)
