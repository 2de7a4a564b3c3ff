theorem mX7_seat_128 : Cond.fieldLink RX7 128 "LockedChain$Seat" "height" "I" ∈ wsX7_seat := by decide +kernel
theorem mX7_seat_131 : Cond.fieldLink RX7 131 "LockedChain$Seat" "round" "I" ∈ wsX7_seat := by decide +kernel
theorem mX7_seat_134 : Cond.fieldLink RX7 134 "LockedChain$Seat" "step" "I" ∈ wsX7_seat := by decide +kernel
theorem mX7_seat_137 : Cond.fieldLink RX7 137 "LockedChain$Seat" "locked" "LLockedChain$Mark;" ∈ wsX7_seat := by decide +kernel
theorem mX7_seat_141 : Cond.fieldLink RX7 141 "LockedChain$Mark" "value" "I" ∈ wsX7_seat := by decide +kernel
theorem mX7_seat_146 : Cond.fieldLink RX7 146 "LockedChain$Mark" "round" "I" ∈ wsX7_seat := by decide +kernel
theorem mX7_seat_147 : Cond.fieldLink RX7 147 "LockedChain$Seat" "valid" "LLockedChain$Mark;" ∈ wsX7_seat := by decide +kernel
theorem mX7_seat_156 : Cond.fieldLink RX7 156 "LockedChain$Seat" "heldValues" "I" ∈ wsX7_seat := by decide +kernel
set_option maxHeartbeats 4000000 in
set_option maxRecDepth 100000 in
theorem k_X7_seat (l : Launch) (w : zW) (dom : Nat → Prop) (A : Nat → Prop) (hDA : ∀ i, dom i → A (w.2.1 + i)) (sz : Nat) (G : zM) (X : zM) (mm : Nat) (hd : ∀ i, i < 64 → dom i) (hdl : ∀ i, 71 ≤ i ∧ i < 71 + mm → dom i) (hM : Sim G X mm) (hI : Inv X) (x q : Int) (hx : -2147483648 ≤ x ∧ x < 2147483648) (hq : -2147483648 ≤ q ∧ q < 2147483648) : Met l yX7_seat wsX7_seat { frames := 2, cells := 0, slots := 0, locals := 43 } (zPre w dom sz G [.ref (w.2.1 + (0)), .int (zI (x)), .int (zI (q))]) (zQi w dom sz (rSeat X x q) (fun C => C = G) A) (0) (0) A := by
  refine Met.ofW (cc := cX7_seat) (maxL := 4) (ret := (some .int)) (by decide) rfl ?_
  intro p e s m args below meth c s₁ B hml hv
  obtain ⟨rfl, hsz, hP, hK⟩ := hv
  have F : CallFix p m c cX7_seat 4 s _ wsX7_seat RX7 := ⟨B.exec, B.bytes, hml, findClass_of_methodNamed B.named, atoms_spec (ws := wsX7_seat) B.pre⟩
  have hr := B.returns
  have hlocks := B.notSynchronized
  have hZ : Zs w dom A s.heap sz G s.heap [] := ⟨hsz, hP, va_S.rf⟩
  have hl := lv_entry ([.ref (w.2.1 + (0)), .int (zI (x)), .int (zI (q))]) (n := 4) (Nat.le_of_ble_eq_true rfl)
  rw [lg_entry_eq]
  generalize (lg_sl ([.ref (w.2.1 + (0)), .int (zI (x)), .int (zI (q))]) ++ List.replicate (4 - (lg_sl ([.ref (w.2.1 + (0)), .int (zI (x)), .int (zI (q))])).length) Slot.unset).toArray = ls at hl ⊢
  have hl : lv_has ls 4 [(0, .ref (w.2.1 + (0))), (1, .int (zI (x))), (2, .int (zI (q)))] := hl
  have hin3 : ∀ v ∈ u_ws RX3 TX3 2, v ∈ wsX7_seat := by decide +kernel
  have hin6 : ∀ v ∈ u_ws RX6 TX6 15, v ∈ wsX7_seat := by decide +kernel
  have hn := hI.1
  have hLL := hI.2.2.2.1
  have hS : PostS G X mm := hM.1
  obtain ⟨hS1, hS2, hS3, hS4, hS5⟩ := hM.1
  have hC0 := hM.2.1
  refine z_aload_n F dX7_seat_0 rfl (lv_at hl 0 rfl) ?_
  refine z_iload_n F dX7_seat_1 rfl (lv_at hl 1 rfl) ?_
  refine z_bxr hZ (va_runV (As := [.int (zI (x))]) (rest := []) F (k_X7_seated l w dom A hDA sz G X mm hd hdl hM hI x (by omega)) (cwV 1 F.2.2.2.2 gX7_seat_X7_seated rfl rfl rfl (by decide +kernel) ⟨Nat.le_of_ble_eq_true rfl, Nat.le_of_ble_eq_true rfl⟩) (z_preV hK hZ (0) (hd _ (by omega)) rfl (by decide) rfl _) rfl rfl hl.1 rfl (lv_room (Nat.le_of_ble_eq_true rfl)) dX7_seat_2 ⟨Nat.le_of_ble_eq_true rfl, Nat.le_of_ble_eq_true rfl⟩) (fun H locs hZ => ?_)
  refine z_vstore_n (lv' := [(3, zV w (stV X x)), (0, .ref (w.2.1 + (0))), (1, .int (zI (x))), (2, .int (zI (q)))]) F dX7_seat_5 rfl hl (by decide) (by unfold zV; (repeat' split) <;> rfl) (fun ls hl => ?_)
  refine z_vload_n (w := w) F dX7_seat_6 rfl (lv_at hl 0 rfl) ?_
  refine z_ifnonnull (tgt := 12) F dX7_seat_7 (by decide) (fun c_7 => ?_) (fun c_7 => ?_)
  · skip
    obtain ⟨j, rfl, hj0, hj, hz⟩ := stV_pos hn (by assumption)
    rw [hz, zV_nat] at hl
    refine z_iload_n F dX7_seat_12 rfl (lv_at hl 3 rfl) ?_
    by_cases h_13 : q < 0 ∨ 9 < q
    · refine lv_tableOut (tgt := 130) F.1 F.2.1 dX7_seat_13 (by rw [zI_toInt (by omega)]; exact h_13) (by decide) ?_
      have hbad : ¬ ((0 ≤ (j : Int) ∧ (j : Int) ≤ X 64 0 - 1) ∧ 0 ≤ q ∧ q ≤ 9) := by omega
      refine z_iconst F dX7_seat_130 ?_
      exact z_iret F hr hlocks hZ (by rw [rSeat, if_pos hbad]) rfl dX7_seat_131 (by omega) (by omega)
    · rcases (show q = 0 ∨ q = 1 ∨ q = 2 ∨ q = 3 ∨ q = 4 ∨ q = 5 ∨ q = 6 ∨ q = 7 ∨ q = 8 ∨ q = 9 by omega) with rfl | rfl | rfl | rfl | rfl | rfl | rfl | rfl | rfl | rfl
      · refine lv_tableIn (tgt := 68) F.1 F.2.1 dX7_seat_13 (by decide) (by decide) (off := 55) (by decide) (by decide) ?_
        refine z_aload_n F dX7_seat_68 rfl (lv_at hl 0 rfl) ?_
        refine z_get F hK hZ (8 + 8 * j) (hd _ (by omega)) (shp_seat j hj) (by decide) rfl hin6 2 (by decide) mX7_seat_128 rfl rfl dX7_seat_69 ?_
        have r_1 := hZ.2.1.1 (8 + 8 * j) (2)
        exact z_iret F hr hlocks hZ (by rw [rSeat, if_neg (by omega)]; simp only [Int.reduceEq, ↓reduceIte]; exact (Sim_f hM hj).2.2.1) rfl dX7_seat_72 (by omega) (by omega)
      · refine lv_tableIn (tgt := 73) F.1 F.2.1 dX7_seat_13 (by decide) (by decide) (off := 60) (by decide) (by decide) ?_
        refine z_aload_n F dX7_seat_73 rfl (lv_at hl 0 rfl) ?_
        refine z_get F hK hZ (8 + 8 * j) (hd _ (by omega)) (shp_seat j hj) (by decide) rfl hin6 3 (by decide) mX7_seat_131 rfl rfl dX7_seat_74 ?_
        have r_2 := hZ.2.1.1 (8 + 8 * j) (3)
        exact z_iret F hr hlocks hZ (by rw [rSeat, if_neg (by omega)]; simp only [Int.reduceEq, ↓reduceIte]; exact (Sim_f hM hj).2.2.2.1) rfl dX7_seat_77 (by omega) (by omega)
      · refine lv_tableIn (tgt := 78) F.1 F.2.1 dX7_seat_13 (by decide) (by decide) (off := 65) (by decide) (by decide) ?_
        refine z_aload_n F dX7_seat_78 rfl (lv_at hl 0 rfl) ?_
        refine z_get F hK hZ (8 + 8 * j) (hd _ (by omega)) (shp_seat j hj) (by decide) rfl hin6 4 (by decide) mX7_seat_134 rfl rfl dX7_seat_79 ?_
        have r_3 := hZ.2.1.1 (8 + 8 * j) (4)
        exact z_iret F hr hlocks hZ (by rw [rSeat, if_neg (by omega)]; simp only [Int.reduceEq, ↓reduceIte]; exact (Sim_f hM hj).2.2.2.2.1) rfl dX7_seat_82 (by omega) (by omega)
      · refine lv_tableIn (tgt := 83) F.1 F.2.1 dX7_seat_13 (by decide) (by decide) (off := 70) (by decide) (by decide) ?_
        refine z_aload_n F dX7_seat_83 rfl (lv_at hl 0 rfl) ?_
        refine z_get F hK hZ (8 + 8 * j) (hd _ (by omega)) (shp_seat j hj) (by decide) rfl hin6 10 (by decide) mX7_seat_137 rfl rfl dX7_seat_84 ?_
        refine z_get F hK hZ (8 + 8 * j + 1) (hd _ (by omega)) (shp_lock j hj) (by decide) rfl hin3 0 (by decide) mX7_seat_141 rfl rfl dX7_seat_87 ?_
        have r_4 := hZ.2.1.1 (8 + 8 * j + 1) (0)
        exact z_iret F hr hlocks hZ (by rw [rSeat, if_neg (by omega)]; simp only [Int.reduceEq, ↓reduceIte]; exact (Sim_mk hM hj).1.1) rfl dX7_seat_90 (by omega) (by omega)
      · refine lv_tableIn (tgt := 91) F.1 F.2.1 dX7_seat_13 (by decide) (by decide) (off := 78) (by decide) (by decide) ?_
        refine z_aload_n F dX7_seat_91 rfl (lv_at hl 0 rfl) ?_
        refine z_get F hK hZ (8 + 8 * j) (hd _ (by omega)) (shp_seat j hj) (by decide) rfl hin6 10 (by decide) mX7_seat_137 rfl rfl dX7_seat_92 ?_
        refine z_get F hK hZ (8 + 8 * j + 1) (hd _ (by omega)) (shp_lock j hj) (by decide) rfl hin3 1 (by decide) mX7_seat_146 rfl rfl dX7_seat_95 ?_
        have r_5 := hZ.2.1.1 (8 + 8 * j + 1) (1)
        exact z_iret F hr hlocks hZ (by rw [rSeat, if_neg (by omega)]; simp only [Int.reduceEq, ↓reduceIte]; exact (Sim_mk hM hj).1.2) rfl dX7_seat_98 (by omega) (by omega)
      · refine lv_tableIn (tgt := 99) F.1 F.2.1 dX7_seat_13 (by decide) (by decide) (off := 86) (by decide) (by decide) ?_
        refine z_aload_n F dX7_seat_99 rfl (lv_at hl 0 rfl) ?_
        refine z_get F hK hZ (8 + 8 * j) (hd _ (by omega)) (shp_seat j hj) (by decide) rfl hin6 11 (by decide) mX7_seat_147 rfl rfl dX7_seat_100 ?_
        refine z_get F hK hZ (8 + 8 * j + 2) (hd _ (by omega)) (shp_valid j hj) (by decide) rfl hin3 0 (by decide) mX7_seat_141 rfl rfl dX7_seat_103 ?_
        have r_6 := hZ.2.1.1 (8 + 8 * j + 2) (0)
        exact z_iret F hr hlocks hZ (by rw [rSeat, if_neg (by omega)]; simp only [Int.reduceEq, ↓reduceIte]; exact (Sim_mk hM hj).2.1) rfl dX7_seat_106 (by omega) (by omega)
      · refine lv_tableIn (tgt := 107) F.1 F.2.1 dX7_seat_13 (by decide) (by decide) (off := 94) (by decide) (by decide) ?_
        refine z_aload_n F dX7_seat_107 rfl (lv_at hl 0 rfl) ?_
        refine z_get F hK hZ (8 + 8 * j) (hd _ (by omega)) (shp_seat j hj) (by decide) rfl hin6 11 (by decide) mX7_seat_147 rfl rfl dX7_seat_108 ?_
        refine z_get F hK hZ (8 + 8 * j + 2) (hd _ (by omega)) (shp_valid j hj) (by decide) rfl hin3 1 (by decide) mX7_seat_146 rfl rfl dX7_seat_111 ?_
        have r_7 := hZ.2.1.1 (8 + 8 * j + 2) (1)
        exact z_iret F hr hlocks hZ (by rw [rSeat, if_neg (by omega)]; simp only [Int.reduceEq, ↓reduceIte]; exact (Sim_mk hM hj).2.2) rfl dX7_seat_114 (by omega) (by omega)
      · refine lv_tableIn (tgt := 115) F.1 F.2.1 dX7_seat_13 (by decide) (by decide) (off := 102) (by decide) (by decide) ?_
        refine z_aload_n F dX7_seat_115 rfl (lv_at hl 0 rfl) ?_
        refine z_bxi hZ (va_runV (As := []) (rest := []) F (k_X6_timerBits l w dom A hDA sz G hd j hj ) (cwV 0 F.2.2.2.2 gX7_seat_X6_timerBits rfl rfl rfl (by decide +kernel) ⟨Nat.le_of_ble_eq_true rfl, Nat.le_of_ble_eq_true rfl⟩) (z_preV hK hZ (8 + 8 * j) (hd _ (by omega)) (shp_seat j hj) (by decide) rfl _) rfl rfl hl.1 rfl (lv_room (Nat.le_of_ble_eq_true rfl)) dX7_seat_116 ⟨Nat.le_of_ble_eq_true rfl, Nat.le_of_ble_eq_true rfl⟩) (fun H locs hZ => ?_)
        exact z_iret F hr hlocks hZ (by rw [rSeat, if_neg (by omega)]; simp only [Int.reduceEq, ↓reduceIte]; exact Sim_tb hM hI hj) rfl dX7_seat_119 (by omega) (by omega)
      · refine lv_tableIn (tgt := 120) F.1 F.2.1 dX7_seat_13 (by decide) (by decide) (off := 107) (by decide) (by decide) ?_
        refine z_aload_n F dX7_seat_120 rfl (lv_at hl 0 rfl) ?_
        refine z_bxi hZ (va_runV (As := []) (rest := []) F (k_X6_standing l w dom A hDA sz G hd j hj ) (cwV 0 F.2.2.2.2 gX7_seat_X6_standing rfl rfl rfl (by decide +kernel) ⟨Nat.le_of_ble_eq_true rfl, Nat.le_of_ble_eq_true rfl⟩) (z_preV hK hZ (8 + 8 * j) (hd _ (by omega)) (shp_seat j hj) (by decide) rfl _) rfl rfl hl.1 rfl (lv_room (Nat.le_of_ble_eq_true rfl)) dX7_seat_121 ⟨Nat.le_of_ble_eq_true rfl, Nat.le_of_ble_eq_true rfl⟩) (fun H locs hZ => ?_)
        exact z_iret F hr hlocks hZ ((Sim_stg hM hI hj).trans (Eq.symm (by rw [rSeat, if_neg (by omega)]; simp only [Int.reduceEq, ↓reduceIte]))) rfl dX7_seat_124 (by omega) (by omega)
      · refine lv_tableIn (tgt := 125) F.1 F.2.1 dX7_seat_13 (by decide) (by decide) (off := 112) (by decide) (by decide) ?_
        refine z_aload_n F dX7_seat_125 rfl (lv_at hl 0 rfl) ?_
        refine z_get F hK hZ (8 + 8 * j) (hd _ (by omega)) (shp_seat j hj) (by decide) rfl hin6 9 (by decide) mX7_seat_156 rfl rfl dX7_seat_126 ?_
        have r_8 := hZ.2.1.1 (8 + 8 * j) (9)
        exact z_iret F hr hlocks hZ (by rw [rSeat, if_neg (by omega)]; simp only [Int.reduceEq, ↓reduceIte]; exact (hM.2.2.2 j hj).2.2.1) rfl dX7_seat_129 (by omega) (by omega)
  · skip
    have hng := stV_neg c_7
    have hbad : ¬ ((0 ≤ x ∧ x ≤ X 64 0 - 1) ∧ 0 ≤ q ∧ q ≤ 9) := by omega
    refine z_iconst F dX7_seat_10 ?_
    exact z_iret F hr hlocks hZ (by rw [rSeat, if_pos hbad]) rfl dX7_seat_11 (by omega) (by omega)

theorem mX7_decided_159 : Cond.fieldLink RX7 159 "LockedChain$Seat" "chain" "LLockedChain$Chain;" ∈ wsX7_decided := by decide +kernel
set_option maxHeartbeats 4000000 in
set_option maxRecDepth 100000 in
theorem k_X7_decided (l : Launch) (w : zW) (dom : Nat → Prop) (A : Nat → Prop) (hDA : ∀ i, dom i → A (w.2.1 + i)) (sz : Nat) (G : zM) (X : zM) (mm : Nat) (hd : ∀ i, i < 64 → dom i) (hdl : ∀ i, 71 ≤ i ∧ i < 71 + mm → dom i) (hM : Sim G X mm) (hI : Inv X) (x h q : Int) (hx : -2147483648 ≤ x ∧ x < 2147483648) (hh : -2147483648 ≤ h ∧ h < 2147483648) (hq : -2147483648 ≤ q ∧ q < 2147483648) : Met l yX7_decided wsX7_decided { frames := 2, cells := 0, slots := 0, locals := 45 } (zPre w dom sz G [.ref (w.2.1 + (0)), .int (zI (x)), .int (zI (h)), .int (zI (q))]) (zQi w dom sz (rDec X x h q) (fun C => C = G) A) (0) (0) A := by
  refine Met.ofW (cc := cX7_decided) (maxL := 5) (ret := (some .int)) (by decide) rfl ?_
  intro p e s m args below meth c s₁ B hml hv
  obtain ⟨rfl, hsz, hP, hK⟩ := hv
  have F : CallFix p m c cX7_decided 5 s _ wsX7_decided RX7 := ⟨B.exec, B.bytes, hml, findClass_of_methodNamed B.named, atoms_spec (ws := wsX7_decided) B.pre⟩
  have hr := B.returns
  have hlocks := B.notSynchronized
  have hZ : Zs w dom A s.heap sz G s.heap [] := ⟨hsz, hP, va_S.rf⟩
  have hl := lv_entry ([.ref (w.2.1 + (0)), .int (zI (x)), .int (zI (h)), .int (zI (q))]) (n := 5) (Nat.le_of_ble_eq_true rfl)
  rw [lg_entry_eq]
  generalize (lg_sl ([.ref (w.2.1 + (0)), .int (zI (x)), .int (zI (h)), .int (zI (q))]) ++ List.replicate (5 - (lg_sl ([.ref (w.2.1 + (0)), .int (zI (x)), .int (zI (h)), .int (zI (q))])).length) Slot.unset).toArray = ls at hl ⊢
  have hl : lv_has ls 5 [(0, .ref (w.2.1 + (0))), (1, .int (zI (x))), (2, .int (zI (h))), (3, .int (zI (q)))] := hl
  have hin6 : ∀ v ∈ u_ws RX6 TX6 15, v ∈ wsX7_decided := by decide +kernel
  have hn := hI.1
  have hLL := hI.2.2.2.1
  have hS : PostS G X mm := hM.1
  obtain ⟨hS1, hS2, hS3, hS4, hS5⟩ := hM.1
  have hC0 := hM.2.1
  refine z_aload_n F dX7_decided_0 rfl (lv_at hl 0 rfl) ?_
  refine z_iload_n F dX7_decided_1 rfl (lv_at hl 1 rfl) ?_
  refine z_bxr hZ (va_runV (As := [.int (zI (x))]) (rest := []) F (k_X7_seated l w dom A hDA sz G X mm hd hdl hM hI x (by omega)) (cwV 1 F.2.2.2.2 gX7_decided_X7_seated rfl rfl rfl (by decide +kernel) ⟨Nat.le_of_ble_eq_true rfl, Nat.le_of_ble_eq_true rfl⟩) (z_preV hK hZ (0) (hd _ (by omega)) rfl (by decide) rfl _) rfl rfl hl.1 rfl (lv_room (Nat.le_of_ble_eq_true rfl)) dX7_decided_2 ⟨Nat.le_of_ble_eq_true rfl, Nat.le_of_ble_eq_true rfl⟩) (fun H locs hZ => ?_)
  refine z_vstore (lv' := [(4, zV w (stV X x)), (0, .ref (w.2.1 + (0))), (1, .int (zI (x))), (2, .int (zI (h))), (3, .int (zI (q)))]) F dX7_decided_5 hl (by decide) (by unfold zV; (repeat' split) <;> rfl) (fun ls hl => ?_)
  refine z_vload (w := w) F dX7_decided_7 (lv_at hl 0 rfl) ?_
  refine z_ifnull (tgt := 22) F dX7_decided_9 (by decide) (fun c_9 => ?_) (fun c_9 => ?_)
  · skip
    have hng := stV_neg c_9
    have hbad : ¬ ((0 ≤ x ∧ x ≤ X 64 0 - 1) ∧ (0 ≤ h ∧ h ≤ 5) ∧ 0 ≤ q ∧ q ≤ 2) := by omega
    refine z_iconst F dX7_decided_22 ?_
    exact z_iret F hr hlocks hZ (by rw [rDec, if_pos hbad]) rfl dX7_decided_23 (by omega) (by omega)
  · skip
    obtain ⟨j, rfl, hj0, hj, hz⟩ := stV_pos hn (by assumption)
    rw [hz, zV_nat] at hl
    refine z_iload_n F dX7_decided_12 rfl (lv_at hl 3 rfl) ?_
    refine z_if_lt (tgt := 22) F (by omega) dX7_decided_13 (by decide) (fun c_13 => ?_) (fun c_13 => ?_)
    · skip
      have hbad : ¬ ((0 ≤ (j : Int) ∧ (j : Int) ≤ X 64 0 - 1) ∧ (0 ≤ h ∧ h ≤ 5) ∧ 0 ≤ q ∧ q ≤ 2) := by omega
      refine z_iconst F dX7_decided_22 ?_
      exact z_iret F hr hlocks hZ (by rw [rDec, if_pos hbad]) rfl dX7_decided_23 (by omega) (by omega)
    · skip
      refine z_iload_n F dX7_decided_16 rfl (lv_at hl 3 rfl) ?_
      refine z_bipush F (by decide) dX7_decided_17 ?_
      refine z_icmp_lt (tgt := 24) F (by omega) (by omega) dX7_decided_19 (by decide) (fun c_19 => ?_) (fun c_19 => ?_)
      · skip
        refine z_iload_n F dX7_decided_24 rfl (lv_at hl 4 rfl) ?_
        by_cases h_25 : q < 0 ∨ 2 < q
        · refine lv_tableOut (tgt := 82) F.1 F.2.1 dX7_decided_25 (by rw [zI_toInt (by omega)]; exact h_25) (by decide) ?_
          have hbad : ¬ ((0 ≤ (j : Int) ∧ (j : Int) ≤ X 64 0 - 1) ∧ (0 ≤ h ∧ h ≤ 5) ∧ 0 ≤ q ∧ q ≤ 2) := by omega
          refine z_iconst F dX7_decided_82 ?_
          exact z_iret F hr hlocks hZ (by rw [rDec, if_pos hbad]) rfl dX7_decided_83 (by omega) (by omega)
        · rcases (show q = 0 ∨ q = 1 ∨ q = 2 by omega) with rfl | rfl | rfl
          · refine lv_tableIn (tgt := 52) F.1 F.2.1 dX7_decided_25 (by decide) (by decide) (off := 27) (by decide) (by decide) ?_
            refine z_aload F dX7_decided_52 (lv_at hl 0 rfl) ?_
            refine z_get F hK hZ (8 + 8 * j) (hd _ (by omega)) (shp_seat j hj) (by decide) rfl hin6 12 (by decide) mX7_decided_159 rfl rfl dX7_decided_54 ?_
            refine z_iload_n F dX7_decided_57 rfl (lv_at hl 3 rfl) ?_
            refine z_bxi hZ (va_runV (As := [.int (zI (h))]) (rest := []) F (k_X0_valueAt l w dom A hDA sz G hd j hj h (by omega)) (cwV 1 F.2.2.2.2 gX7_decided_X0_valueAt rfl rfl rfl (by decide +kernel) ⟨Nat.le_of_ble_eq_true rfl, Nat.le_of_ble_eq_true rfl⟩) (z_preV hK hZ (8 + 8 * j + 3) (hd _ (by omega)) (shp_chain j hj) (by decide) rfl _) rfl rfl hl.1 rfl (lv_room (Nat.le_of_ble_eq_true rfl)) dX7_decided_58 ⟨Nat.le_of_ble_eq_true rfl, Nat.le_of_ble_eq_true rfl⟩) (fun H locs hZ => ?_)
            exact z_iret F hr hlocks hZ ((rDec_0 hM hj hj0 (by omega)).1) rfl dX7_decided_61 (by omega) (by omega)
          · refine lv_tableIn (tgt := 62) F.1 F.2.1 dX7_decided_25 (by decide) (by decide) (off := 37) (by decide) (by decide) ?_
            refine z_aload F dX7_decided_62 (lv_at hl 0 rfl) ?_
            refine z_get F hK hZ (8 + 8 * j) (hd _ (by omega)) (shp_seat j hj) (by decide) rfl hin6 12 (by decide) mX7_decided_159 rfl rfl dX7_decided_64 ?_
            refine z_iload_n F dX7_decided_67 rfl (lv_at hl 3 rfl) ?_
            refine z_bxi hZ (va_runV (As := [.int (zI (h))]) (rest := []) F (k_X0_roundAt l w dom A hDA sz G hd j hj h (by omega)) (cwV 1 F.2.2.2.2 gX7_decided_X0_roundAt rfl rfl rfl (by decide +kernel) ⟨Nat.le_of_ble_eq_true rfl, Nat.le_of_ble_eq_true rfl⟩) (z_preV hK hZ (8 + 8 * j + 3) (hd _ (by omega)) (shp_chain j hj) (by decide) rfl _) rfl rfl hl.1 rfl (lv_room (Nat.le_of_ble_eq_true rfl)) dX7_decided_68 ⟨Nat.le_of_ble_eq_true rfl, Nat.le_of_ble_eq_true rfl⟩) (fun H locs hZ => ?_)
            exact z_iret F hr hlocks hZ ((rDec_0 hM hj hj0 (by omega)).2) rfl dX7_decided_71 (by omega) (by omega)
          · refine lv_tableIn (tgt := 72) F.1 F.2.1 dX7_decided_25 (by decide) (by decide) (off := 47) (by decide) (by decide) ?_
            refine z_aload F dX7_decided_72 (lv_at hl 0 rfl) ?_
            refine z_get F hK hZ (8 + 8 * j) (hd _ (by omega)) (shp_seat j hj) (by decide) rfl hin6 12 (by decide) mX7_decided_159 rfl rfl dX7_decided_74 ?_
            refine z_iload_n F dX7_decided_77 rfl (lv_at hl 3 rfl) ?_
            refine z_bxi hZ (va_runV (As := [.int (zI (h))]) (rest := []) F (k_X0_linkAt l w dom A hDA sz G hd j hj h (by omega)) (cwV 1 F.2.2.2.2 gX7_decided_X0_linkAt rfl rfl rfl (by decide +kernel) ⟨Nat.le_of_ble_eq_true rfl, Nat.le_of_ble_eq_true rfl⟩) (z_preV hK hZ (8 + 8 * j + 3) (hd _ (by omega)) (shp_chain j hj) (by decide) rfl _) rfl rfl hl.1 rfl (lv_room (Nat.le_of_ble_eq_true rfl)) dX7_decided_78 ⟨Nat.le_of_ble_eq_true rfl, Nat.le_of_ble_eq_true rfl⟩) (fun H locs hZ => ?_)
            exact z_iret F hr hlocks hZ (rDec_2 hM hI hj hj0 (by omega)) rfl dX7_decided_81 (by omega) (by omega)
      · skip
        have hbad : ¬ ((0 ≤ (j : Int) ∧ (j : Int) ≤ X 64 0 - 1) ∧ (0 ≤ h ∧ h ≤ 5) ∧ 0 ≤ q ∧ q ≤ 2) := by omega
        refine z_iconst F dX7_decided_22 ?_
        exact z_iret F hr hlocks hZ (by rw [rDec, if_pos hbad]) rfl dX7_decided_23 (by omega) (by omega)

theorem mX7_letter_19 : Cond.fieldLink RX7 19 "LockedChain" "post" "LLockedChain$Post;" ∈ wsX7_letter := by decide +kernel
theorem mX7_letter_175 : Cond.fieldLink RX7 175 "LockedChain$Letter" "sender" "I" ∈ wsX7_letter := by decide +kernel
theorem mX7_letter_178 : Cond.fieldLink RX7 178 "LockedChain$Letter" "kind" "I" ∈ wsX7_letter := by decide +kernel
theorem mX7_letter_181 : Cond.fieldLink RX7 181 "LockedChain$Letter" "height" "I" ∈ wsX7_letter := by decide +kernel
theorem mX7_letter_182 : Cond.fieldLink RX7 182 "LockedChain$Letter" "round" "I" ∈ wsX7_letter := by decide +kernel
theorem mX7_letter_183 : Cond.fieldLink RX7 183 "LockedChain$Letter" "value" "I" ∈ wsX7_letter := by decide +kernel
theorem mX7_letter_184 : Cond.fieldLink RX7 184 "LockedChain$Letter" "vr" "I" ∈ wsX7_letter := by decide +kernel
theorem mX7_letter_187 : Cond.fieldLink RX7 187 "LockedChain$Letter" "came" "I" ∈ wsX7_letter := by decide +kernel
set_option maxHeartbeats 4000000 in
set_option maxRecDepth 100000 in
theorem k_X7_letter (l : Launch) (w : zW) (dom : Nat → Prop) (A : Nat → Prop) (hDA : ∀ i, dom i → A (w.2.1 + i)) (sz : Nat) (G : zM) (X : zM) (mm : Nat) (hd : ∀ i, i < 64 → dom i) (hdl : ∀ i, 71 ≤ i ∧ i < 71 + mm → dom i) (hM : Sim G X mm) (hI : Inv X) (v q : Int) (hv : -2147483648 ≤ v ∧ v < 2147483648) (hq : -2147483648 ≤ q ∧ q < 2147483648) : Met l yX7_letter wsX7_letter { frames := 1, cells := 0, slots := 0, locals := 21 } (zPre w dom sz G [.ref (w.2.1 + (0)), .int (zI (v)), .int (zI (q))]) (zQi w dom sz (rLet X v q) (fun C => C = G) A) (0) (0) A := by
  refine Met.ofW (cc := cX7_letter) (maxL := 4) (ret := (some .int)) (by decide) rfl ?_
  intro p e s m args below meth c s₁ B hml hv
  obtain ⟨rfl, hsz, hP, hK⟩ := hv
  have F : CallFix p m c cX7_letter 4 s _ wsX7_letter RX7 := ⟨B.exec, B.bytes, hml, findClass_of_methodNamed B.named, atoms_spec (ws := wsX7_letter) B.pre⟩
  have hr := B.returns
  have hlocks := B.notSynchronized
  have hZ : Zs w dom A s.heap sz G s.heap [] := ⟨hsz, hP, va_S.rf⟩
  have hl := lv_entry ([.ref (w.2.1 + (0)), .int (zI (v)), .int (zI (q))]) (n := 4) (Nat.le_of_ble_eq_true rfl)
  rw [lg_entry_eq]
  generalize (lg_sl ([.ref (w.2.1 + (0)), .int (zI (v)), .int (zI (q))]) ++ List.replicate (4 - (lg_sl ([.ref (w.2.1 + (0)), .int (zI (v)), .int (zI (q))])).length) Slot.unset).toArray = ls at hl ⊢
  have hl : lv_has ls 4 [(0, .ref (w.2.1 + (0))), (1, .int (zI (v))), (2, .int (zI (q)))] := hl
  have hin2 : ∀ v ∈ u_ws RX2 TX2 8, v ∈ wsX7_letter := by decide +kernel
  have hin7 : ∀ v ∈ u_ws RX7 TX7 6, v ∈ wsX7_letter := by decide +kernel
  have hn := hI.1
  have hLL := hI.2.2.2.1
  have hS : PostS G X mm := hM.1
  obtain ⟨hS1, hS2, hS3, hS4, hS5⟩ := hM.1
  have hC0 := hM.2.1
  refine z_aload_n F dX7_letter_0 rfl (lv_at hl 0 rfl) ?_
  refine z_get F hK hZ (0) (hd _ (by omega)) rfl (by decide) rfl hin7 1 (by decide) mX7_letter_19 rfl rfl dX7_letter_1 ?_
  refine z_iload_n F dX7_letter_4 rfl (lv_at hl 1 rfl) ?_
  refine z_bxr hZ (va_runV (As := [.int (zI (v))]) (rest := []) F (k_X4_at l w dom A hDA sz G hd v (by omega)) (cwV 1 F.2.2.2.2 gX7_letter_X4_at rfl rfl rfl (by decide +kernel) ⟨Nat.le_of_ble_eq_true rfl, Nat.le_of_ble_eq_true rfl⟩) (z_preV hK hZ (2) (hd _ (by omega)) rfl (by decide) rfl _) rfl rfl hl.1 rfl (lv_room (Nat.le_of_ble_eq_true rfl)) dX7_letter_5 ⟨Nat.le_of_ble_eq_true rfl, Nat.le_of_ble_eq_true rfl⟩) (fun H locs hZ => ?_)
  rw [show (if 0 ≤ v ∧ v < G 2 3 ∧ v < 400 then G 3 v else -1) = atV X v from at_eq hM.1 v]
  refine z_vstore_n (lv' := [(3, zV w (atV X v)), (0, .ref (w.2.1 + (0))), (1, .int (zI (v))), (2, .int (zI (q)))]) F dX7_letter_8 rfl hl (by decide) (by unfold zV; (repeat' split) <;> rfl) (fun ls hl => ?_)
  refine z_vload_n (w := w) F dX7_letter_9 rfl (lv_at hl 0 rfl) ?_
  refine z_ifnonnull (tgt := 15) F dX7_letter_10 (by decide) (fun c_10 => ?_) (fun c_10 => ?_)
  · skip
    obtain ⟨y, rfl, hy0, hz⟩ := atV_pos c_10
    rw [hz, zV_nat] at hl
    obtain ⟨⟨e0, e1, e2, e3, e4, e5⟩, e6, e7⟩ := hS5 y hy0
    refine z_iload_n F dX7_letter_15 rfl (lv_at hl 3 rfl) ?_
    by_cases h_16 : q < 0 ∨ 6 < q
    · refine lv_tableOut (tgt := 98) F.1 F.2.1 dX7_letter_16 (by rw [zI_toInt (by omega)]; exact h_16) (by decide) ?_
      have hbad : ¬ ((0 ≤ (y : Int) ∧ (y : Int) ≤ X 64 7 - 1) ∧ 0 ≤ q ∧ q ≤ 6) := by omega
      refine z_iconst F dX7_letter_98 ?_
      exact z_iret F hr hlocks hZ (by rw [rLet, if_pos hbad]) rfl dX7_letter_99 (by omega) (by omega)
    · rcases (show q = 0 ∨ q = 1 ∨ q = 2 ∨ q = 3 ∨ q = 4 ∨ q = 5 ∨ q = 6 by omega) with rfl | rfl | rfl | rfl | rfl | rfl | rfl
      · refine lv_tableIn (tgt := 60) F.1 F.2.1 dX7_letter_16 (by decide) (by decide) (off := 44) (by decide) (by decide) ?_
        refine z_aload_n F dX7_letter_60 rfl (lv_at hl 0 rfl) ?_
        refine z_get F hK hZ (71 + y) (hdl _ (by omega)) (shp_let y) (by decide) rfl hin2 0 (by decide) mX7_letter_175 rfl rfl dX7_letter_61 ?_
        have r_1 := hZ.2.1.1 (71 + y) (0)
        exact z_iret F hr hlocks hZ (by unfold rLet; rw [if_neg (by omega)]; simp only [Int.reduceLT, ↓reduceIte]; exact e0) rfl dX7_letter_64 (by omega) (by omega)
      · refine lv_tableIn (tgt := 65) F.1 F.2.1 dX7_letter_16 (by decide) (by decide) (off := 49) (by decide) (by decide) ?_
        refine z_aload_n F dX7_letter_65 rfl (lv_at hl 0 rfl) ?_
        refine z_get F hK hZ (71 + y) (hdl _ (by omega)) (shp_let y) (by decide) rfl hin2 1 (by decide) mX7_letter_178 rfl rfl dX7_letter_66 ?_
        have r_2 := hZ.2.1.1 (71 + y) (1)
        exact z_iret F hr hlocks hZ (by unfold rLet; rw [if_neg (by omega)]; simp only [Int.reduceLT, ↓reduceIte]; exact e1) rfl dX7_letter_69 (by omega) (by omega)
      · refine lv_tableIn (tgt := 70) F.1 F.2.1 dX7_letter_16 (by decide) (by decide) (off := 54) (by decide) (by decide) ?_
        refine z_aload_n F dX7_letter_70 rfl (lv_at hl 0 rfl) ?_
        refine z_get F hK hZ (71 + y) (hdl _ (by omega)) (shp_let y) (by decide) rfl hin2 2 (by decide) mX7_letter_181 rfl rfl dX7_letter_71 ?_
        have r_3 := hZ.2.1.1 (71 + y) (2)
        exact z_iret F hr hlocks hZ (by unfold rLet; rw [if_neg (by omega)]; simp only [Int.reduceLT, ↓reduceIte]; exact e2) rfl dX7_letter_74 (by omega) (by omega)
      · refine lv_tableIn (tgt := 75) F.1 F.2.1 dX7_letter_16 (by decide) (by decide) (off := 59) (by decide) (by decide) ?_
        refine z_aload_n F dX7_letter_75 rfl (lv_at hl 0 rfl) ?_
        refine z_get F hK hZ (71 + y) (hdl _ (by omega)) (shp_let y) (by decide) rfl hin2 3 (by decide) mX7_letter_182 rfl rfl dX7_letter_76 ?_
        have r_4 := hZ.2.1.1 (71 + y) (3)
        exact z_iret F hr hlocks hZ (by unfold rLet; rw [if_neg (by omega)]; simp only [Int.reduceLT, ↓reduceIte]; exact e3) rfl dX7_letter_79 (by omega) (by omega)
      · refine lv_tableIn (tgt := 80) F.1 F.2.1 dX7_letter_16 (by decide) (by decide) (off := 64) (by decide) (by decide) ?_
        refine z_aload_n F dX7_letter_80 rfl (lv_at hl 0 rfl) ?_
        refine z_get F hK hZ (71 + y) (hdl _ (by omega)) (shp_let y) (by decide) rfl hin2 4 (by decide) mX7_letter_183 rfl rfl dX7_letter_81 ?_
        have r_5 := hZ.2.1.1 (71 + y) (4)
        exact z_iret F hr hlocks hZ (by unfold rLet; rw [if_neg (by omega)]; simp only [Int.reduceLT, ↓reduceIte]; exact e4) rfl dX7_letter_84 (by omega) (by omega)
      · refine lv_tableIn (tgt := 85) F.1 F.2.1 dX7_letter_16 (by decide) (by decide) (off := 69) (by decide) (by decide) ?_
        refine z_aload_n F dX7_letter_85 rfl (lv_at hl 0 rfl) ?_
        refine z_get F hK hZ (71 + y) (hdl _ (by omega)) (shp_let y) (by decide) rfl hin2 5 (by decide) mX7_letter_184 rfl rfl dX7_letter_86 ?_
        have r_6 := hZ.2.1.1 (71 + y) (5)
        exact z_iret F hr hlocks hZ (by unfold rLet; rw [if_neg (by omega)]; simp only [Int.reduceLT, ↓reduceIte]; exact e5) rfl dX7_letter_89 (by omega) (by omega)
      · refine lv_tableIn (tgt := 90) F.1 F.2.1 dX7_letter_16 (by decide) (by decide) (off := 74) (by decide) (by decide) ?_
        refine z_aload_n F dX7_letter_90 rfl (lv_at hl 0 rfl) ?_
        refine z_get F hK hZ (71 + y) (hdl _ (by omega)) (shp_let y) (by decide) rfl hin2 6 (by decide) mX7_letter_187 rfl rfl dX7_letter_91 ?_
        have r_7 := hZ.2.1.1 (71 + y) (6)
        refine z_bxi hZ (va_runS (As := [.int (zI (G (71 + y) 6))]) (rest := []) F (k_J6_bitCount_0f7a4 l w dom A hDA sz G (G (71 + y) 6) (cam_rng hS hy0)) (va_cwS 1 F.2.2.2.2 gX7_letter_J6_bitCount_0f7a4 rfl rfl rfl (by decide +kernel) ⟨Nat.le_of_ble_eq_true rfl, Nat.le_of_ble_eq_true rfl⟩) (z_preS hK hZ _) rfl rfl hl.1 rfl (lv_room (Nat.le_of_ble_eq_true rfl)) dX7_letter_94 ⟨Nat.le_of_ble_eq_true rfl, Nat.le_of_ble_eq_true rfl⟩) (fun H locs hZ => ?_)
        exact z_iret F hr hlocks hZ (by unfold rLet; rw [if_neg (by omega)]; simp only [Int.reduceLT, ↓reduceIte]; exact let_cnt hS hI hy0) rfl dX7_letter_97 (by omega) (by omega)
  · skip
    have hng := atV_neg c_10
    have hbad : ¬ ((0 ≤ v ∧ v ≤ X 64 7 - 1) ∧ 0 ≤ q ∧ q ≤ 6) := by omega
    refine z_iconst F dX7_letter_13 ?_
    exact z_iret F hr hlocks hZ (by rw [rLet, if_pos hbad]) rfl dX7_letter_14 (by omega) (by omega)

theorem mX7_votes_19 : Cond.fieldLink RX7 19 "LockedChain" "post" "LLockedChain$Post;" ∈ wsX7_votes := by decide +kernel
set_option maxHeartbeats 4000000 in
set_option maxRecDepth 100000 in
theorem k_X7_votes (l : Launch) (w : zW) (dom : Nat → Prop) (A : Nat → Prop) (hDA : ∀ i, dom i → A (w.2.1 + i)) (sz : Nat) (G : zM) (X : zM) (mm : Nat) (hd : ∀ i, i < 64 → dom i) (hdl : ∀ i, 71 ≤ i ∧ i < 71 + mm → dom i) (hM : Sim G X mm) (hI : Inv X) (x kd h r v : Int) (hx : -2147483648 ≤ x ∧ x < 2147483648) (hkd : -2147483648 ≤ kd ∧ kd < 2147483648) (hh : -2147483648 ≤ h ∧ h < 2147483648) (hr : -2147483648 ≤ r ∧ r < 2147483648) (hv : -2147483648 ≤ v ∧ v < 2147483648) : Met l yX7_votes wsX7_votes { frames := 2, cells := 0, slots := 0, locals := 46 } (zPre w dom sz G [.ref (w.2.1 + (0)), .int (zI (x)), .int (zI (kd)), .int (zI (h)), .int (zI (r)), .int (zI (v))]) (zQi w dom sz (rVotes X x kd h r v) (fun C => C = G) A) (0) (0) A := by
  refine Met.ofW (cc := cX7_votes) (maxL := 6) (ret := (some .int)) (by decide) rfl ?_
  intro p e s m args below meth c s₁ B hml hv
  obtain ⟨rfl, hsz, hP, hK⟩ := hv
  have F : CallFix p m c cX7_votes 6 s _ wsX7_votes RX7 := ⟨B.exec, B.bytes, hml, findClass_of_methodNamed B.named, atoms_spec (ws := wsX7_votes) B.pre⟩
  have hr := B.returns
  have hlocks := B.notSynchronized
  have hZ : Zs w dom A s.heap sz G s.heap [] := ⟨hsz, hP, va_S.rf⟩
  have hl := lv_entry ([.ref (w.2.1 + (0)), .int (zI (x)), .int (zI (kd)), .int (zI (h)), .int (zI (r)), .int (zI (v))]) (n := 6) (Nat.le_of_ble_eq_true rfl)
  rw [lg_entry_eq]
  generalize (lg_sl ([.ref (w.2.1 + (0)), .int (zI (x)), .int (zI (kd)), .int (zI (h)), .int (zI (r)), .int (zI (v))]) ++ List.replicate (6 - (lg_sl ([.ref (w.2.1 + (0)), .int (zI (x)), .int (zI (kd)), .int (zI (h)), .int (zI (r)), .int (zI (v))])).length) Slot.unset).toArray = ls at hl ⊢
  have hl : lv_has ls 6 [(0, .ref (w.2.1 + (0))), (1, .int (zI (x))), (2, .int (zI (kd))), (3, .int (zI (h))), (4, .int (zI (r))), (5, .int (zI (v)))] := hl
  have hin7 : ∀ v ∈ u_ws RX7 TX7 6, v ∈ wsX7_votes := by decide +kernel
  have hn := hI.1
  have hLL := hI.2.2.2.1
  have hS : PostS G X mm := hM.1
  obtain ⟨hS1, hS2, hS3, hS4, hS5⟩ := hM.1
  have hC0 := hM.2.1
  refine z_aload_n F dX7_votes_0 rfl (lv_at hl 0 rfl) ?_
  refine z_iload_n F dX7_votes_1 rfl (lv_at hl 1 rfl) ?_
  refine z_bxr hZ (va_runV (As := [.int (zI (x))]) (rest := []) F (k_X7_seated l w dom A hDA sz G X mm hd hdl hM hI x (by omega)) (cwV 1 F.2.2.2.2 gX7_votes_X7_seated rfl rfl rfl (by decide +kernel) ⟨Nat.le_of_ble_eq_true rfl, Nat.le_of_ble_eq_true rfl⟩) (z_preV hK hZ (0) (hd _ (by omega)) rfl (by decide) rfl _) rfl rfl hl.1 rfl (lv_room (Nat.le_of_ble_eq_true rfl)) dX7_votes_2 ⟨Nat.le_of_ble_eq_true rfl, Nat.le_of_ble_eq_true rfl⟩) (fun H locs hZ => ?_)
  refine z_ifnull (tgt := 22) F dX7_votes_5 (by decide) (fun c_5 => ?_) (fun c_5 => ?_)
  · skip
    have hng := stV_neg c_5
    have hbad : ¬ ((0 ≤ x ∧ x ≤ X 64 0 - 1) ∧ (1 ≤ kd ∧ kd ≤ 2) ∧ (0 ≤ h ∧ h ≤ 5) ∧ (0 ≤ r ∧ r ≤ 9) ∧ -2 ≤ v ∧ v ≤ 99) := by omega
    refine z_iconst F dX7_votes_22 ?_
    exact z_iret F hr hlocks hZ (by rw [rVotes, if_neg hbad]) rfl dX7_votes_23 (by omega) (by omega)
  · skip
    obtain ⟨j, rfl, hj0, hj, hz⟩ := stV_pos hn c_5
    refine z_iload_n F dX7_votes_8 rfl (lv_at hl 2 rfl) ?_
    refine z_if_eq (tgt := 22) F (by omega) dX7_votes_9 (by decide) (fun c_9 => ?_) (fun c_9 => ?_)
    · skip
      have hbad : ¬ ((0 ≤ (j : Int) ∧ (j : Int) ≤ X 64 0 - 1) ∧ (1 ≤ kd ∧ kd ≤ 2) ∧ (0 ≤ h ∧ h ≤ 5) ∧ (0 ≤ r ∧ r ≤ 9) ∧ -2 ≤ v ∧ v ≤ 99) := by omega
      refine z_iconst F dX7_votes_22 ?_
      exact z_iret F hr hlocks hZ (by rw [rVotes, if_neg hbad]) rfl dX7_votes_23 (by omega) (by omega)
    · skip
      refine z_iload_n F dX7_votes_12 rfl (lv_at hl 2 rfl) ?_
      refine z_iload_n F dX7_votes_13 rfl (lv_at hl 3 rfl) ?_
      refine z_iload F dX7_votes_14 (lv_at hl 4 rfl) ?_
      refine z_bxi hZ (va_runS (As := [.int (zI (kd)), .int (zI (h)), .int (zI (r))]) (rest := []) F (k_X7_slot l w dom A hDA sz G kd h r (by omega) (by omega) (by omega)) (va_cwS 3 F.2.2.2.2 gX7_votes_X7_slot rfl rfl rfl (by decide +kernel) ⟨Nat.le_of_ble_eq_true rfl, Nat.le_of_ble_eq_true rfl⟩) (z_preS hK hZ _) rfl rfl hl.1 rfl (lv_room (Nat.le_of_ble_eq_true rfl)) dX7_votes_16 ⟨Nat.le_of_ble_eq_true rfl, Nat.le_of_ble_eq_true rfl⟩) (fun H locs hZ => ?_)
      have hslr := slF_rng kd h r
      refine z_if_ge (tgt := 24) F (by omega) dX7_votes_19 (by decide) (fun c_19 => ?_) (fun c_19 => ?_)
      · skip
        have hsp := slF_pos c_19
        refine z_iload F dX7_votes_24 (lv_at hl 5 rfl) ?_
        refine z_bipush F (by decide) dX7_votes_26 ?_
        refine z_icmp_lt (tgt := 38) F (by omega) (by omega) dX7_votes_28 (by decide) (fun c_28 => ?_) (fun c_28 => ?_)
        · skip
          have hbad : ¬ ((0 ≤ (j : Int) ∧ (j : Int) ≤ X 64 0 - 1) ∧ (1 ≤ kd ∧ kd ≤ 2) ∧ (0 ≤ h ∧ h ≤ 5) ∧ (0 ≤ r ∧ r ≤ 9) ∧ -2 ≤ v ∧ v ≤ 99) := by omega
          refine z_iconst F dX7_votes_38 ?_
          exact z_iret F hr hlocks hZ (by rw [rVotes, if_neg hbad]) rfl dX7_votes_39 (by omega) (by omega)
        · skip
          refine z_iload F dX7_votes_31 (lv_at hl 5 rfl) ?_
          refine z_bipush F (by decide) dX7_votes_33 ?_
          refine z_icmp_lt (tgt := 40) F (by omega) (by omega) dX7_votes_35 (by decide) (fun c_35 => ?_) (fun c_35 => ?_)
          · skip
            refine z_aload_n F dX7_votes_40 rfl (lv_at hl 0 rfl) ?_
            refine z_get F hK hZ (0) (hd _ (by omega)) rfl (by decide) rfl hin7 1 (by decide) mX7_votes_19 rfl rfl dX7_votes_41 ?_
            refine z_iload_n F dX7_votes_44 rfl (lv_at hl 2 rfl) ?_
            refine z_iload_n F dX7_votes_45 rfl (lv_at hl 3 rfl) ?_
            refine z_iload F dX7_votes_46 (lv_at hl 4 rfl) ?_
            refine z_bxr hZ (va_runV (As := [.int (zI (kd)), .int (zI (h)), .int (zI (r))]) (rest := []) F (k_X4_first l w dom A hDA sz G hd kd h r (by omega) (by omega) (by omega)) (cwV 3 F.2.2.2.2 gX7_votes_X4_first rfl rfl rfl (by decide +kernel) ⟨Nat.le_of_ble_eq_true rfl, Nat.le_of_ble_eq_true rfl⟩) (z_preV hK hZ (2) (hd _ (by omega)) rfl (by decide) rfl _) rfl rfl hl.1 rfl (lv_room (Nat.le_of_ble_eq_true rfl)) dX7_votes_48 ⟨Nat.le_of_ble_eq_true rfl, Nat.le_of_ble_eq_true rfl⟩) (fun H locs hZ => ?_)
            rw [show G 4 ((kd * 6 + h) * 10 + r) = nx X ((kd * 6 + h) * 10 + r) 0 from (hS4 _ (by omega) (by omega)).1]
            refine z_iload_n F dX7_votes_51 rfl (lv_at hl 1 rfl) ?_
            refine z_iload F dX7_votes_52 (lv_at hl 5 rfl) ?_
            refine z_bxi hZ (va_runS (As := [zV w (nx X ((kd * 6 + h) * 10 + r) 0), .int (zI ((j : Int))), .int (zI (v))]) (rest := []) F (k_X4_voters l w dom A hDA sz G X mm hd hdl hS hI ((kd * 6 + h) * 10 + r) ((j : Int)) v (by omega) (by omega)) (va_cwS 3 F.2.2.2.2 gX7_votes_X4_voters rfl rfl rfl (by decide +kernel) ⟨Nat.le_of_ble_eq_true rfl, Nat.le_of_ble_eq_true rfl⟩) (z_preS hK hZ _) rfl rfl hl.1 rfl (lv_room (Nat.le_of_ble_eq_true rfl)) dX7_votes_54 ⟨Nat.le_of_ble_eq_true rfl, Nat.le_of_ble_eq_true rfl⟩) (fun H locs hZ => ?_)
            refine z_topI (vM_vote hI (kd := kd) (h := h) (r := r) (by omega) (by omega) (by omega)) ?_
            exact z_iret F hr hlocks hZ (by rw [rVotes, if_pos (by omega)]) rfl dX7_votes_57 (by omega) (by omega)
          · skip
            have hbad : ¬ ((0 ≤ (j : Int) ∧ (j : Int) ≤ X 64 0 - 1) ∧ (1 ≤ kd ∧ kd ≤ 2) ∧ (0 ≤ h ∧ h ≤ 5) ∧ (0 ≤ r ∧ r ≤ 9) ∧ -2 ≤ v ∧ v ≤ 99) := by omega
            refine z_iconst F dX7_votes_38 ?_
            exact z_iret F hr hlocks hZ (by rw [rVotes, if_neg hbad]) rfl dX7_votes_39 (by omega) (by omega)
      · skip
        have hsn := slF_neg c_19
        have hbad : ¬ ((0 ≤ (j : Int) ∧ (j : Int) ≤ X 64 0 - 1) ∧ (1 ≤ kd ∧ kd ≤ 2) ∧ (0 ≤ h ∧ h ≤ 5) ∧ (0 ≤ r ∧ r ≤ 9) ∧ -2 ≤ v ∧ v ≤ 99) := by omega
        refine z_iconst F dX7_votes_22 ?_
        exact z_iret F hr hlocks hZ (by rw [rVotes, if_neg hbad]) rfl dX7_votes_23 (by omega) (by omega)

theorem mX7_shown_19 : Cond.fieldLink RX7 19 "LockedChain" "post" "LLockedChain$Post;" ∈ wsX7_shown := by decide +kernel
set_option maxHeartbeats 4000000 in
set_option maxRecDepth 100000 in
theorem k_X7_shown (l : Launch) (w : zW) (dom : Nat → Prop) (A : Nat → Prop) (hDA : ∀ i, dom i → A (w.2.1 + i)) (sz : Nat) (G : zM) (X : zM) (mm : Nat) (hd : ∀ i, i < 64 → dom i) (hdl : ∀ i, 71 ≤ i ∧ i < 71 + mm → dom i) (hM : Sim G X mm) (hI : Inv X) (x t : Int) (hx : -2147483648 ≤ x ∧ x < 2147483648) (ht : -2147483648 ≤ t ∧ t < 2147483648) : Met l yX7_shown wsX7_shown { frames := 2, cells := 0, slots := 0, locals := 46 } (zPre w dom sz G [.ref (w.2.1 + (0)), .int (zI (x)), .int (zI (t))]) (zQi w dom sz (rShown X x t) (fun C => C = G) A) (0) (0) A := by
  refine Met.ofW (cc := cX7_shown) (maxL := 3) (ret := (some .int)) (by decide) rfl ?_
  intro p e s m args below meth c s₁ B hml hv
  obtain ⟨rfl, hsz, hP, hK⟩ := hv
  have F : CallFix p m c cX7_shown 3 s _ wsX7_shown RX7 := ⟨B.exec, B.bytes, hml, findClass_of_methodNamed B.named, atoms_spec (ws := wsX7_shown) B.pre⟩
  have hr := B.returns
  have hlocks := B.notSynchronized
  have hZ : Zs w dom A s.heap sz G s.heap [] := ⟨hsz, hP, va_S.rf⟩
  have hl := lv_entry ([.ref (w.2.1 + (0)), .int (zI (x)), .int (zI (t))]) (n := 3) (Nat.le_of_ble_eq_true rfl)
  rw [lg_entry_eq]
  generalize (lg_sl ([.ref (w.2.1 + (0)), .int (zI (x)), .int (zI (t))]) ++ List.replicate (3 - (lg_sl ([.ref (w.2.1 + (0)), .int (zI (x)), .int (zI (t))])).length) Slot.unset).toArray = ls at hl ⊢
  have hl : lv_has ls 3 [(0, .ref (w.2.1 + (0))), (1, .int (zI (x))), (2, .int (zI (t)))] := hl
  have hin7 : ∀ v ∈ u_ws RX7 TX7 6, v ∈ wsX7_shown := by decide +kernel
  have hn := hI.1
  have hLL := hI.2.2.2.1
  have hS : PostS G X mm := hM.1
  obtain ⟨hS1, hS2, hS3, hS4, hS5⟩ := hM.1
  have hC0 := hM.2.1
  refine z_aload_n F dX7_shown_0 rfl (lv_at hl 0 rfl) ?_
  refine z_iload_n F dX7_shown_1 rfl (lv_at hl 1 rfl) ?_
  refine z_bxr hZ (va_runV (As := [.int (zI (x))]) (rest := []) F (k_X7_seated l w dom A hDA sz G X mm hd hdl hM hI x (by omega)) (cwV 1 F.2.2.2.2 gX7_shown_X7_seated rfl rfl rfl (by decide +kernel) ⟨Nat.le_of_ble_eq_true rfl, Nat.le_of_ble_eq_true rfl⟩) (z_preV hK hZ (0) (hd _ (by omega)) rfl (by decide) rfl _) rfl rfl hl.1 rfl (lv_room (Nat.le_of_ble_eq_true rfl)) dX7_shown_2 ⟨Nat.le_of_ble_eq_true rfl, Nat.le_of_ble_eq_true rfl⟩) (fun H locs hZ => ?_)
  refine z_ifnull (tgt := 16) F dX7_shown_5 (by decide) (fun c_5 => ?_) (fun c_5 => ?_)
  · skip
    have hng := stV_neg c_5
    have hbad : ¬ ((0 ≤ x ∧ x ≤ X 64 0 - 1) ∧ 0 ≤ t ∧ t ≤ X 64 0 - 1) := by omega
    refine z_iconst F dX7_shown_16 ?_
    exact z_iret F hr hlocks hZ (by rw [rShown, if_pos hbad]) rfl dX7_shown_17 (by omega) (by omega)
  · skip
    obtain ⟨j, hx, hj0, hj, hz⟩ := stV_pos hn c_5
    refine z_aload_n F dX7_shown_8 rfl (lv_at hl 0 rfl) ?_
    refine z_iload_n F dX7_shown_9 rfl (lv_at hl 2 rfl) ?_
    refine z_bxr hZ (va_runV (As := [.int (zI (t))]) (rest := []) F (k_X7_seated l w dom A hDA sz G X mm hd hdl hM hI t (by omega)) (cwV 1 F.2.2.2.2 gX7_shown_X7_seated rfl rfl rfl (by decide +kernel) ⟨Nat.le_of_ble_eq_true rfl, Nat.le_of_ble_eq_true rfl⟩) (z_preV hK hZ (0) (hd _ (by omega)) rfl (by decide) rfl _) rfl rfl hl.1 rfl (lv_room (Nat.le_of_ble_eq_true rfl)) dX7_shown_10 ⟨Nat.le_of_ble_eq_true rfl, Nat.le_of_ble_eq_true rfl⟩) (fun H locs hZ => ?_)
    refine z_ifnonnull (tgt := 18) F dX7_shown_13 (by decide) (fun c_13 => ?_) (fun c_13 => ?_)
    · skip
      obtain ⟨j2, ht2, hj20, hj2, hz2⟩ := stV_pos hn c_13
      refine z_aload_n F dX7_shown_18 rfl (lv_at hl 0 rfl) ?_
      refine z_get F hK hZ (0) (hd _ (by omega)) rfl (by decide) rfl hin7 1 (by decide) mX7_shown_19 rfl rfl dX7_shown_19 ?_
      refine z_iload_n F dX7_shown_22 rfl (lv_at hl 1 rfl) ?_
      refine z_iload_n F dX7_shown_23 rfl (lv_at hl 2 rfl) ?_
      refine z_bxi hZ (va_runV (As := [.int (zI (x)), .int (zI (t))]) (rest := []) F (k_X4_shows l w dom A hDA sz G X mm hd hdl hS hI x t (by omega) (by omega)) (cwV 2 F.2.2.2.2 gX7_shown_X4_shows rfl rfl rfl (by decide +kernel) ⟨Nat.le_of_ble_eq_true rfl, Nat.le_of_ble_eq_true rfl⟩) (z_preV hK hZ (2) (hd _ (by omega)) rfl (by decide) rfl _) rfl rfl hl.1 rfl (lv_room (Nat.le_of_ble_eq_true rfl)) dX7_shown_24 ⟨Nat.le_of_ble_eq_true rfl, Nat.le_of_ble_eq_true rfl⟩) (fun H locs hZ => ?_)
      refine z_ifB_eq (tgt := 34) F dX7_shown_27 (by decide) (fun c_27 => ?_) (fun c_27 => ?_)
      · skip
        refine z_iconst F dX7_shown_34 ?_
        exact z_iret F hr hlocks hZ (by rw [rShown, if_neg (by omega)]; first | exact bI_1 c_27 | exact bI_0 c_27) rfl dX7_shown_35 (by omega) (by omega)
      · skip
        refine z_iconst F dX7_shown_30 ?_
        refine lv_goto (tgt := 35) F.1 F.2.1 dX7_shown_31 (by decide) ?_
        exact z_iret F hr hlocks hZ (by rw [rShown, if_neg (by omega)]; first | exact bI_1 c_27 | exact bI_0 c_27) rfl dX7_shown_35 (by omega) (by omega)
    · skip
      have hng := stV_neg c_13
      have hbad : ¬ ((0 ≤ x ∧ x ≤ X 64 0 - 1) ∧ 0 ≤ t ∧ t ≤ X 64 0 - 1) := by omega
      refine z_iconst F dX7_shown_16 ?_
      exact z_iret F hr hlocks hZ (by rw [rShown, if_pos hbad]) rfl dX7_shown_17 (by omega) (by omega)

theorem mX7_count_10 : Cond.fieldLink RX7 10 "LockedChain" "council" "LLockedChain$Council;" ∈ wsX7_count := by decide +kernel
theorem mX7_count_19 : Cond.fieldLink RX7 19 "LockedChain" "post" "LLockedChain$Post;" ∈ wsX7_count := by decide +kernel
theorem mX7_count_41 : Cond.fieldLink RX7 41 "LockedChain" "begun" "Z" ∈ wsX7_count := by decide +kernel
set_option maxHeartbeats 4000000 in
set_option maxRecDepth 100000 in
theorem k_X7_count (l : Launch) (w : zW) (dom : Nat → Prop) (A : Nat → Prop) (hDA : ∀ i, dom i → A (w.2.1 + i)) (sz : Nat) (G : zM) (X : zM) (mm : Nat) (hd : ∀ i, i < 64 → dom i) (hdl : ∀ i, 71 ≤ i ∧ i < 71 + mm → dom i) (hM : Sim G X mm) (hI : Inv X) (q : Int) (hq : -2147483648 ≤ q ∧ q < 2147483648) : Met l yX7_count wsX7_count { frames := 5, cells := 0, slots := 0, locals := 110 } (zPre w dom sz G [.ref (w.2.1 + (0)), .int (zI (q))]) (zQi w dom sz (rCount X q) (fun C => C = G) A) (0) (0) A := by
  refine Met.ofW (cc := cX7_count) (maxL := 2) (ret := (some .int)) (by decide) rfl ?_
  intro p e s m args below meth c s₁ B hml hv
  obtain ⟨rfl, hsz, hP, hK⟩ := hv
  have F : CallFix p m c cX7_count 2 s _ wsX7_count RX7 := ⟨B.exec, B.bytes, hml, findClass_of_methodNamed B.named, atoms_spec (ws := wsX7_count) B.pre⟩
  have hr := B.returns
  have hlocks := B.notSynchronized
  have hZ : Zs w dom A s.heap sz G s.heap [] := ⟨hsz, hP, va_S.rf⟩
  have hl := lv_entry ([.ref (w.2.1 + (0)), .int (zI (q))]) (n := 2) (Nat.le_of_ble_eq_true rfl)
  rw [lg_entry_eq]
  generalize (lg_sl ([.ref (w.2.1 + (0)), .int (zI (q))]) ++ List.replicate (2 - (lg_sl ([.ref (w.2.1 + (0)), .int (zI (q))])).length) Slot.unset).toArray = ls at hl ⊢
  have hl : lv_has ls 2 [(0, .ref (w.2.1 + (0))), (1, .int (zI (q)))] := hl
  have hin7 : ∀ v ∈ u_ws RX7 TX7 6, v ∈ wsX7_count := by decide +kernel
  have hn := hI.1
  have hLL := hI.2.2.2.1
  have hS : PostS G X mm := hM.1
  obtain ⟨hS1, hS2, hS3, hS4, hS5⟩ := hM.1
  have hC0 := hM.2.1
  refine z_iload_n F dX7_count_0 rfl (lv_at hl 1 rfl) ?_
  by_cases h_1 : q < 0 ∨ 9 < q
  · refine lv_tableOut (tgt := 126) F.1 F.2.1 dX7_count_1 (by rw [zI_toInt (by omega)]; exact h_1) (by decide) ?_
    refine z_iconst F dX7_count_126 ?_
    exact z_iret F hr hlocks hZ (by rw [rCount, if_neg (by omega), if_neg (by omega), if_neg (by omega), if_neg (by omega), if_neg (by omega), if_neg (by omega), if_neg (by omega), if_neg (by omega), if_neg (by omega), if_neg (by omega)]) rfl dX7_count_127 (by omega) (by omega)
  · rcases (show q = 0 ∨ q = 1 ∨ q = 2 ∨ q = 3 ∨ q = 4 ∨ q = 5 ∨ q = 6 ∨ q = 7 ∨ q = 8 ∨ q = 9 by omega) with rfl | rfl | rfl | rfl | rfl | rfl | rfl | rfl | rfl | rfl
    · refine lv_tableIn (tgt := 56) F.1 F.2.1 dX7_count_1 (by decide) (by decide) (off := 55) (by decide) (by decide) ?_
      refine z_aload_n F dX7_count_56 rfl (lv_at hl 0 rfl) ?_
      refine z_get F hK hZ (0) (hd _ (by omega)) rfl (by decide) rfl hin7 0 (by decide) mX7_count_10 rfl rfl dX7_count_57 ?_
      refine z_bxi hZ (va_runV (As := []) (rest := []) F (k_X1_size l w dom A hDA sz G hd) (cwV 0 F.2.2.2.2 gX7_count_X1_size rfl rfl rfl (by decide +kernel) ⟨Nat.le_of_ble_eq_true rfl, Nat.le_of_ble_eq_true rfl⟩) (z_preV hK hZ (1) (hd _ (by omega)) rfl (by decide) rfl _) rfl rfl hl.1 rfl (lv_room (Nat.le_of_ble_eq_true rfl)) dX7_count_60 ⟨Nat.le_of_ble_eq_true rfl, Nat.le_of_ble_eq_true rfl⟩) (fun H locs hZ => ?_)
      refine z_topI (show G 1 0 = X 64 0 from hC0.2.2) ?_
      exact z_iret F hr hlocks hZ (by unfold rCount; simp only [Int.reduceEq, ↓reduceIte]) rfl dX7_count_63 (by omega) (by omega)
    · refine lv_tableIn (tgt := 64) F.1 F.2.1 dX7_count_1 (by decide) (by decide) (off := 63) (by decide) (by decide) ?_
      refine z_aload_n F dX7_count_64 rfl (lv_at hl 0 rfl) ?_
      refine z_bxi hZ (va_runV (As := []) (rest := []) F (k_X7_falseOnes l w dom A hDA sz G X mm hd hdl hM hI) (cwV 0 F.2.2.2.2 gX7_count_X7_falseOnes rfl rfl rfl (by decide +kernel) ⟨Nat.le_of_ble_eq_true rfl, Nat.le_of_ble_eq_true rfl⟩) (z_preV hK hZ (0) (hd _ (by omega)) rfl (by decide) rfl _) rfl rfl hl.1 rfl (lv_room (Nat.le_of_ble_eq_true rfl)) dX7_count_65 ⟨Nat.le_of_ble_eq_true rfl, Nat.le_of_ble_eq_true rfl⟩) (fun H locs hZ => ?_)
      exact z_iret F hr hlocks hZ (by unfold rCount; simp only [Int.reduceEq, ↓reduceIte]) rfl dX7_count_68 (by omega) (by omega)
    · refine lv_tableIn (tgt := 69) F.1 F.2.1 dX7_count_1 (by decide) (by decide) (off := 68) (by decide) (by decide) ?_
      refine z_aload_n F dX7_count_69 rfl (lv_at hl 0 rfl) ?_
      refine z_get F hK hZ (0) (hd _ (by omega)) rfl (by decide) rfl hin7 1 (by decide) mX7_count_19 rfl rfl dX7_count_70 ?_
      refine z_bxi hZ (va_runV (As := []) (rest := []) F (k_X4_sent l w dom A hDA sz G hd) (cwV 0 F.2.2.2.2 gX7_count_X4_sent rfl rfl rfl (by decide +kernel) ⟨Nat.le_of_ble_eq_true rfl, Nat.le_of_ble_eq_true rfl⟩) (z_preV hK hZ (2) (hd _ (by omega)) rfl (by decide) rfl _) rfl rfl hl.1 rfl (lv_room (Nat.le_of_ble_eq_true rfl)) dX7_count_73 ⟨Nat.le_of_ble_eq_true rfl, Nat.le_of_ble_eq_true rfl⟩) (fun H locs hZ => ?_)
      refine z_topI (show G 2 3 = X 64 7 from hM.1.1) ?_
      exact z_iret F hr hlocks hZ (by unfold rCount; simp only [Int.reduceEq, ↓reduceIte]) rfl dX7_count_76 (by omega) (by omega)
    · refine lv_tableIn (tgt := 77) F.1 F.2.1 dX7_count_1 (by decide) (by decide) (off := 76) (by decide) (by decide) ?_
      refine z_aload_n F dX7_count_77 rfl (lv_at hl 0 rfl) ?_
      refine z_bxi hZ (va_runV (As := []) (rest := []) F (k_X7_stillToCome l w dom A hDA sz G X mm hd hdl hM hI) (cwV 0 F.2.2.2.2 gX7_count_X7_stillToCome rfl rfl rfl (by decide +kernel) ⟨Nat.le_of_ble_eq_true rfl, Nat.le_of_ble_eq_true rfl⟩) (z_preV hK hZ (0) (hd _ (by omega)) rfl (by decide) rfl _) rfl rfl hl.1 rfl (lv_room (Nat.le_of_ble_eq_true rfl)) dX7_count_78 ⟨Nat.le_of_ble_eq_true rfl, Nat.le_of_ble_eq_true rfl⟩) (fun H locs hZ => ?_)
      exact z_iret F hr hlocks hZ (by unfold rCount; simp only [Int.reduceEq, ↓reduceIte]) rfl dX7_count_81 (by omega) (by omega)
    · refine lv_tableIn (tgt := 82) F.1 F.2.1 dX7_count_1 (by decide) (by decide) (off := 81) (by decide) (by decide) ?_
      refine z_aload_n F dX7_count_82 rfl (lv_at hl 0 rfl) ?_
      refine z_bxi hZ (va_runV (As := []) (rest := []) F (k_X7_leastHeight l w dom A hDA sz G X mm hd hdl hM hI) (cwV 0 F.2.2.2.2 gX7_count_X7_leastHeight rfl rfl rfl (by decide +kernel) ⟨Nat.le_of_ble_eq_true rfl, Nat.le_of_ble_eq_true rfl⟩) (z_preV hK hZ (0) (hd _ (by omega)) rfl (by decide) rfl _) rfl rfl hl.1 rfl (lv_room (Nat.le_of_ble_eq_true rfl)) dX7_count_83 ⟨Nat.le_of_ble_eq_true rfl, Nat.le_of_ble_eq_true rfl⟩) (fun H locs hZ => ?_)
      exact z_iret F hr hlocks hZ (by unfold rCount; simp only [Int.reduceEq, ↓reduceIte]) rfl dX7_count_86 (by omega) (by omega)
    · refine lv_tableIn (tgt := 87) F.1 F.2.1 dX7_count_1 (by decide) (by decide) (off := 86) (by decide) (by decide) ?_
      refine z_aload_n F dX7_count_87 rfl (lv_at hl 0 rfl) ?_
      refine z_bxi hZ (va_runV (As := []) (rest := []) F (k_X7_greatestHeight l w dom A hDA sz G X mm hd hdl hM hI) (cwV 0 F.2.2.2.2 gX7_count_X7_greatestHeight rfl rfl rfl (by decide +kernel) ⟨Nat.le_of_ble_eq_true rfl, Nat.le_of_ble_eq_true rfl⟩) (z_preV hK hZ (0) (hd _ (by omega)) rfl (by decide) rfl _) rfl rfl hl.1 rfl (lv_room (Nat.le_of_ble_eq_true rfl)) dX7_count_88 ⟨Nat.le_of_ble_eq_true rfl, Nat.le_of_ble_eq_true rfl⟩) (fun H locs hZ => ?_)
      exact z_iret F hr hlocks hZ (by unfold rCount; simp only [Int.reduceEq, ↓reduceIte]) rfl dX7_count_91 (by omega) (by omega)
    · refine lv_tableIn (tgt := 92) F.1 F.2.1 dX7_count_1 (by decide) (by decide) (off := 91) (by decide) (by decide) ?_
      refine z_aload_n F dX7_count_92 rfl (lv_at hl 0 rfl) ?_
      refine z_get F hK hZ (0) (hd _ (by omega)) rfl (by decide) rfl hin7 4 (by decide) mX7_count_41 rfl rfl dX7_count_93 ?_
      have r_1 := hZ.2.1.1 (0) (4)
      refine z_topI (show G 0 4 = X 64 2 from hC0.1) ?_
      have r_2 : -2147483648 ≤ X 64 2 ∧ X 64 2 < 2147483648 := by rw [← show G 0 4 = X 64 2 from hC0.1]; exact hZ.2.1.1 _ _
      refine z_if_eq (tgt := 103) F (by omega) dX7_count_96 (by decide) (fun c_96 => ?_) (fun c_96 => ?_)
      · skip
        refine z_iconst F dX7_count_103 ?_
        exact z_iret F hr hlocks hZ (by unfold rCount; simp only [Int.reduceEq, ↓reduceIte]; first | rw [if_pos c_96] | rw [if_neg (fun q => q c_96)]) rfl dX7_count_104 (by omega) (by omega)
      · skip
        refine z_iconst F dX7_count_99 ?_
        refine lv_goto (tgt := 104) F.1 F.2.1 dX7_count_100 (by decide) ?_
        exact z_iret F hr hlocks hZ (by unfold rCount; simp only [Int.reduceEq, ↓reduceIte]; first | rw [if_pos c_96] | rw [if_neg (fun q => q c_96)]) rfl dX7_count_104 (by omega) (by omega)
    · refine lv_tableIn (tgt := 105) F.1 F.2.1 dX7_count_1 (by decide) (by decide) (off := 104) (by decide) (by decide) ?_
      refine z_aload_n F dX7_count_105 rfl (lv_at hl 0 rfl) ?_
      refine z_get F hK hZ (0) (hd _ (by omega)) rfl (by decide) rfl hin7 0 (by decide) mX7_count_10 rfl rfl dX7_count_106 ?_
      refine z_bxi hZ (va_runV (As := []) (rest := []) F (k_X1_many l w dom A hDA sz G hd (by omega)) (cwV 0 F.2.2.2.2 gX7_count_X1_many rfl rfl rfl (by decide +kernel) ⟨Nat.le_of_ble_eq_true rfl, Nat.le_of_ble_eq_true rfl⟩) (z_preV hK hZ (1) (hd _ (by omega)) rfl (by decide) rfl _) rfl rfl hl.1 rfl (lv_room (Nat.le_of_ble_eq_true rfl)) dX7_count_109 ⟨Nat.le_of_ble_eq_true rfl, Nat.le_of_ble_eq_true rfl⟩) (fun H locs hZ => ?_)
      refine z_topI (show 2 * G 1 0 / 3 + 1 = 2 * X 64 0 / 3 + 1 from by rw [hC0.2.2]) ?_
      exact z_iret F hr hlocks hZ (by unfold rCount; simp only [Int.reduceEq, ↓reduceIte]) rfl dX7_count_112 (by omega) (by omega)
    · refine lv_tableIn (tgt := 113) F.1 F.2.1 dX7_count_1 (by decide) (by decide) (off := 112) (by decide) (by decide) ?_
      refine z_aload_n F dX7_count_113 rfl (lv_at hl 0 rfl) ?_
      refine z_get F hK hZ (0) (hd _ (by omega)) rfl (by decide) rfl hin7 0 (by decide) mX7_count_10 rfl rfl dX7_count_114 ?_
      refine z_bxi hZ (va_runV (As := []) (rest := []) F (k_X1_some l w dom A hDA sz G hd (by omega)) (cwV 0 F.2.2.2.2 gX7_count_X1_some rfl rfl rfl (by decide +kernel) ⟨Nat.le_of_ble_eq_true rfl, Nat.le_of_ble_eq_true rfl⟩) (z_preV hK hZ (1) (hd _ (by omega)) rfl (by decide) rfl _) rfl rfl hl.1 rfl (lv_room (Nat.le_of_ble_eq_true rfl)) dX7_count_117 ⟨Nat.le_of_ble_eq_true rfl, Nat.le_of_ble_eq_true rfl⟩) (fun H locs hZ => ?_)
      refine z_topI (show (G 1 0 - 1) / 3 + 1 = (X 64 0 - 1) / 3 + 1 from by rw [hC0.2.2]) ?_
      exact z_iret F hr hlocks hZ (by unfold rCount; simp only [Int.reduceEq, ↓reduceIte]) rfl dX7_count_120 (by omega) (by omega)
    · refine lv_tableIn (tgt := 121) F.1 F.2.1 dX7_count_1 (by decide) (by decide) (off := 120) (by decide) (by decide) ?_
      refine z_aload_n F dX7_count_121 rfl (lv_at hl 0 rfl) ?_
      refine z_bxi hZ (va_runV (As := []) (rest := []) F (k_X7_splitHeights l w dom A hDA sz G X mm hd hdl hM hI) (cwV 0 F.2.2.2.2 gX7_count_X7_splitHeights rfl rfl rfl (by decide +kernel) ⟨Nat.le_of_ble_eq_true rfl, Nat.le_of_ble_eq_true rfl⟩) (z_preV hK hZ (0) (hd _ (by omega)) rfl (by decide) rfl _) rfl rfl hl.1 rfl (lv_room (Nat.le_of_ble_eq_true rfl)) dX7_count_122 ⟨Nat.le_of_ble_eq_true rfl, Nat.le_of_ble_eq_true rfl⟩) (fun H locs hZ => ?_)
      exact z_iret F hr hlocks hZ (by unfold rCount; simp only [Int.reduceEq, ↓reduceIte]) rfl dX7_count_125 (by omega) (by omega)
