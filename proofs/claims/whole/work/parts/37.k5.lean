theorem mX5_counts_9 : Cond.fieldLink RX5 9 "LockedChain$Rules" "council" "LLockedChain$Council;" ∈ wsX5_counts := by decide +kernel
theorem mX5_counts_57 : Cond.fieldLink RX5 57 "LockedChain$Seat" "number" "I" ∈ wsX5_counts := by decide +kernel
theorem mX5_counts_150 : Cond.fieldLink RX5 150 "LockedChain$Letter" "sender" "I" ∈ wsX5_counts := by decide +kernel
theorem mX5_counts_199 : Cond.fieldLink RX5 199 "LockedChain$Letter" "height" "I" ∈ wsX5_counts := by decide +kernel
theorem mX5_counts_200 : Cond.fieldLink RX5 200 "LockedChain$Letter" "round" "I" ∈ wsX5_counts := by decide +kernel
set_option maxHeartbeats 4000000 in
set_option maxRecDepth 100000 in
theorem k_X5_counts (l : Launch) (w : zW) (dom : Nat → Prop) (A : Nat → Prop) (hDA : ∀ i, dom i → A (w.2.1 + i)) (sz : Nat) (G : zM) (X : zM) (mm : Nat) (hd : ∀ i, i < 64 → dom i) (hdl : ∀ i, 71 ≤ i ∧ i < 71 + mm → dom i) (hM : Sim G X mm) (hI : Inv X) (j : Nat) (hj0 : (j : Int) < X 64 0) (y : Nat) (hy : (y : Int) < X 64 7) : Met l yX5_counts wsX5_counts { frames := 1, cells := 0, slots := 0, locals := 22 } (zPre w dom sz G [.ref (w.2.1 + (6)), .ref (w.2.1 + (8 + 8 * j)), .ref (w.2.1 + (71 + y))]) (zQi w dom sz (bI (prC X j y)) (fun C => C = G) A) (0) (0) A := by
  refine Met.ofW (cc := cX5_counts) (maxL := 3) (ret := (some .boolean)) (by decide) rfl ?_
  intro p e s m args below meth c s₁ B hml hv
  obtain ⟨rfl, hsz, hP, hK⟩ := hv
  have F : CallFix p m c cX5_counts 3 s _ wsX5_counts RX5 := ⟨B.exec, B.bytes, hml, findClass_of_methodNamed B.named, atoms_spec (ws := wsX5_counts) B.pre⟩
  have hr := B.returns
  have hlocks := B.notSynchronized
  have hZ : Zs w dom A s.heap sz G s.heap [] := ⟨hsz, hP, va_S.rf⟩
  have hl := lv_entry ([.ref (w.2.1 + (6)), .ref (w.2.1 + (8 + 8 * j)), .ref (w.2.1 + (71 + y))]) (n := 3) (Nat.le_of_ble_eq_true rfl)
  rw [lg_entry_eq]
  generalize (lg_sl ([.ref (w.2.1 + (6)), .ref (w.2.1 + (8 + 8 * j)), .ref (w.2.1 + (71 + y))]) ++ List.replicate (3 - (lg_sl ([.ref (w.2.1 + (6)), .ref (w.2.1 + (8 + 8 * j)), .ref (w.2.1 + (71 + y))])).length) Slot.unset).toArray = ls at hl ⊢
  have hl : lv_has ls 3 [(0, .ref (w.2.1 + (6))), (1, .ref (w.2.1 + (8 + 8 * j))), (2, .ref (w.2.1 + (71 + y)))] := hl
  have hin2 : ∀ v ∈ u_ws RX2 TX2 8, v ∈ wsX5_counts := by decide +kernel
  have hin5 : ∀ v ∈ u_ws RX5 TX5 2, v ∈ wsX5_counts := by decide +kernel
  have hin6 : ∀ v ∈ u_ws RX6 TX6 15, v ∈ wsX5_counts := by decide +kernel
  have hn := hI.1
  have hLL := hI.2.2.2.1
  have hj : j < 7 := by omega
  have hS : PostS G X mm := hM.1
  obtain ⟨hS1, hS2, hS3, hS4, hS5⟩ := hM.1
  have hC0 := hM.2.1
  have sf := Sim_f hM hj
  have sr := seat_rng hI (s := (j : Int)) (by omega)
  obtain ⟨⟨e0, e1, e2, e3, e4, e5⟩, e6, e7⟩ := hS5 y hy
  have hqr := let_rng hI (l := (y : Int)) ⟨by omega, hy⟩
  refine z_aload_n F dX5_counts_0 rfl (lv_at hl 2 rfl) ?_
  refine z_aload_n F dX5_counts_1 rfl (lv_at hl 1 rfl) ?_
  refine z_get F hK hZ (8 + 8 * j) (hd _ (by omega)) (shp_seat j hj) (by decide) rfl hin6 0 (by decide) mX5_counts_57 rfl rfl dX5_counts_2 ?_
  have r_1 := hZ.2.1.1 (8 + 8 * j) (0)
  refine z_topI (show G (8 + 8 * j) 0 = (j : Int) from sf.1) ?_
  refine z_bxi hZ (va_runV (As := [.int (zI ((j : Int)))]) (rest := []) F (k_X2_cameTo l w dom A hDA sz G y (hdl _ (by omega)) (cam_rng hS (by omega)) ((j : Int)) (by omega)) (cwV 1 F.2.2.2.2 gX5_counts_X2_cameTo rfl rfl rfl (by decide +kernel) ⟨Nat.le_of_ble_eq_true rfl, Nat.le_of_ble_eq_true rfl⟩) (z_preV hK hZ (71 + y) (hdl _ (by omega)) (shp_let y) (by decide) rfl _) rfl rfl hl.1 rfl (lv_room (Nat.le_of_ble_eq_true rfl)) dX5_counts_5 ⟨Nat.le_of_ble_eq_true rfl, Nat.le_of_ble_eq_true rfl⟩) (fun H locs hZ => ?_)
  refine z_topI (cam_bI hS (l := y) (s := (j : Int)) (by omega) (by omega)) ?_
  refine z_ifB_eq (tgt := 37) F dX5_counts_8 (by decide) (fun c_8 => ?_) (fun c_8 => ?_)
  · skip
    refine z_iconst F dX5_counts_37 ?_
    exact z_zret F hr hlocks hZ (by first | exact bI_1 ⟨c_8, c_30⟩ | exact bI_0 (fun z => c_30 z.2) | exact bI_0 (fun z => c_8 z.1)) (by omega) rfl dX5_counts_38 (by omega) (by omega)
  · skip
    refine z_aload_n F dX5_counts_11 rfl (lv_at hl 2 rfl) ?_
    refine z_get F hK hZ (71 + y) (hdl _ (by omega)) (shp_let y) (by decide) rfl hin2 0 (by decide) mX5_counts_150 rfl rfl dX5_counts_12 ?_
    have r_2 := hZ.2.1.1 (71 + y) (0)
    refine z_topI (show G (71 + y) 0 = X 69 (6 * (y : Int) + 0) from e0) ?_
    refine z_aload_n F dX5_counts_15 rfl (lv_at hl 0 rfl) ?_
    refine z_get F hK hZ (6) (hd _ (by omega)) rfl (by decide) rfl hin5 0 (by decide) mX5_counts_9 rfl rfl dX5_counts_16 ?_
    refine z_aload_n F dX5_counts_19 rfl (lv_at hl 2 rfl) ?_
    refine z_get F hK hZ (71 + y) (hdl _ (by omega)) (shp_let y) (by decide) rfl hin2 2 (by decide) mX5_counts_199 rfl rfl dX5_counts_20 ?_
    have r_3 := hZ.2.1.1 (71 + y) (2)
    refine z_topI (show G (71 + y) 2 = X 69 (6 * (y : Int) + 2) from e2) ?_
    refine z_aload_n F dX5_counts_23 rfl (lv_at hl 2 rfl) ?_
    refine z_get F hK hZ (71 + y) (hdl _ (by omega)) (shp_let y) (by decide) rfl hin2 3 (by decide) mX5_counts_200 rfl rfl dX5_counts_24 ?_
    have r_4 := hZ.2.1.1 (71 + y) (3)
    refine z_topI (show G (71 + y) 3 = X 69 (6 * (y : Int) + 3) from e3) ?_
    refine z_bxi hZ (va_runV (As := [.int (zI (X 69 (6 * (y : Int) + 2))), .int (zI (X 69 (6 * (y : Int) + 3)))]) (rest := [.int (zI (X 69 (6 * (y : Int) + 0)))]) F (k_X1_proposer l w dom A hDA sz G hd (by omega) (X 69 (6 * (y : Int) + 2)) (X 69 (6 * (y : Int) + 3)) (by omega) (by omega)) (cwV 2 F.2.2.2.2 gX5_counts_X1_proposer rfl rfl rfl (by decide +kernel) ⟨Nat.le_of_ble_eq_true rfl, Nat.le_of_ble_eq_true rfl⟩) (z_preV hK hZ (1) (hd _ (by omega)) rfl (by decide) rfl _) rfl rfl hl.1 rfl (lv_room (Nat.le_of_ble_eq_true rfl)) dX5_counts_27 ⟨Nat.le_of_ble_eq_true rfl, Nat.le_of_ble_eq_true rfl⟩) (fun H locs hZ => ?_)
    refine z_topI (show (X 69 (6 * (y : Int) + 2) + X 69 (6 * (y : Int) + 3)) % G 1 0 = (X 69 (6 * (y : Int) + 2) + X 69 (6 * (y : Int) + 3)) % X 64 0 from by rw [hC0.2.2]) ?_
    have r_5 := mod_rng (X 69 (6 * (y : Int) + 2) + X 69 (6 * (y : Int) + 3)) hn
    refine z_icmp_ne (tgt := 37) F (by omega) (by omega) dX5_counts_30 (by decide) (fun c_30 => ?_) (fun c_30 => ?_)
    · skip
      refine z_iconst F dX5_counts_37 ?_
      exact z_zret F hr hlocks hZ (by first | exact bI_1 ⟨c_8, c_30⟩ | exact bI_0 (fun z => c_30 z.2) | exact bI_0 (fun z => c_8 z.1)) (by omega) rfl dX5_counts_38 (by omega) (by omega)
    · skip
      refine z_iconst F dX5_counts_33 ?_
      refine lv_goto (tgt := 38) F.1 F.2.1 dX5_counts_34 (by decide) ?_
      exact z_zret F hr hlocks hZ (by first | exact bI_1 ⟨c_8, c_30⟩ | exact bI_0 (fun z => c_30 z.2) | exact bI_0 (fun z => c_8 z.1)) (by omega) rfl dX5_counts_38 (by omega) (by omega)

theorem mX5_hasMany_9 : Cond.fieldLink RX5 9 "LockedChain$Rules" "council" "LLockedChain$Council;" ∈ wsX5_hasMany := by decide +kernel
theorem mX5_hasMany_15 : Cond.fieldLink RX5 15 "LockedChain$Rules" "post" "LLockedChain$Post;" ∈ wsX5_hasMany := by decide +kernel
theorem mX5_hasMany_48 : Cond.fieldLink RX5 48 "LockedChain$Seat" "height" "I" ∈ wsX5_hasMany := by decide +kernel
theorem mX5_hasMany_57 : Cond.fieldLink RX5 57 "LockedChain$Seat" "number" "I" ∈ wsX5_hasMany := by decide +kernel
set_option maxHeartbeats 4000000 in
set_option maxRecDepth 100000 in
theorem k_X5_hasMany (l : Launch) (w : zW) (dom : Nat → Prop) (A : Nat → Prop) (hDA : ∀ i, dom i → A (w.2.1 + i)) (sz : Nat) (G : zM) (X : zM) (mm : Nat) (hd : ∀ i, i < 64 → dom i) (hdl : ∀ i, 71 ≤ i ∧ i < 71 + mm → dom i) (hM : Sim G X mm) (hI : Inv X) (j : Nat) (hj0 : (j : Int) < X 64 0) (hh : X 67 (20 * (j : Int) + 0) ≤ 5) (kd r v : Int) (hk : 0 ≤ kd ∧ kd ≤ 2) (hro : 0 ≤ r ∧ r ≤ 9) (hv : -2147483648 ≤ v ∧ v < 2147483648) : Met l yX5_hasMany wsX5_hasMany { frames := 2, cells := 0, slots := 0, locals := 46 } (zPre w dom sz G [.ref (w.2.1 + (6)), .ref (w.2.1 + (8 + 8 * j)), .int (zI (kd)), .int (zI (r)), .int (zI (v))]) (zQi w dom sz (bI (manyN X ≤ voteN X j kd (X 67 (20 * (j : Int) + 0)) r v)) (fun C => C = G) A) (0) (0) A := by
  refine Met.ofW (cc := cX5_hasMany) (maxL := 5) (ret := (some .boolean)) (by decide) rfl ?_
  intro p e s m args below meth c s₁ B hml hv
  obtain ⟨rfl, hsz, hP, hK⟩ := hv
  have F : CallFix p m c cX5_hasMany 5 s _ wsX5_hasMany RX5 := ⟨B.exec, B.bytes, hml, findClass_of_methodNamed B.named, atoms_spec (ws := wsX5_hasMany) B.pre⟩
  have hr := B.returns
  have hlocks := B.notSynchronized
  have hZ : Zs w dom A s.heap sz G s.heap [] := ⟨hsz, hP, va_S.rf⟩
  have hl := lv_entry ([.ref (w.2.1 + (6)), .ref (w.2.1 + (8 + 8 * j)), .int (zI (kd)), .int (zI (r)), .int (zI (v))]) (n := 5) (Nat.le_of_ble_eq_true rfl)
  rw [lg_entry_eq]
  generalize (lg_sl ([.ref (w.2.1 + (6)), .ref (w.2.1 + (8 + 8 * j)), .int (zI (kd)), .int (zI (r)), .int (zI (v))]) ++ List.replicate (5 - (lg_sl ([.ref (w.2.1 + (6)), .ref (w.2.1 + (8 + 8 * j)), .int (zI (kd)), .int (zI (r)), .int (zI (v))])).length) Slot.unset).toArray = ls at hl ⊢
  have hl : lv_has ls 5 [(0, .ref (w.2.1 + (6))), (1, .ref (w.2.1 + (8 + 8 * j))), (2, .int (zI (kd))), (3, .int (zI (r))), (4, .int (zI (v)))] := hl
  have hin5 : ∀ v ∈ u_ws RX5 TX5 2, v ∈ wsX5_hasMany := by decide +kernel
  have hin6 : ∀ v ∈ u_ws RX6 TX6 15, v ∈ wsX5_hasMany := by decide +kernel
  have hn := hI.1
  have hLL := hI.2.2.2.1
  have hj : j < 7 := by omega
  have hS : PostS G X mm := hM.1
  obtain ⟨hS1, hS2, hS3, hS4, hS5⟩ := hM.1
  have hC0 := hM.2.1
  have sf := Sim_f hM hj
  have sr := seat_rng hI (s := (j : Int)) (by omega)
  have hmn : manyN X = 2 * X 64 0 / 3 + 1 := rfl
  refine z_aload_n F dX5_hasMany_0 rfl (lv_at hl 0 rfl) ?_
  refine z_get F hK hZ (6) (hd _ (by omega)) rfl (by decide) rfl hin5 1 (by decide) mX5_hasMany_15 rfl rfl dX5_hasMany_1 ?_
  refine z_iload_n F dX5_hasMany_4 rfl (lv_at hl 2 rfl) ?_
  refine z_aload_n F dX5_hasMany_5 rfl (lv_at hl 1 rfl) ?_
  refine z_get F hK hZ (8 + 8 * j) (hd _ (by omega)) (shp_seat j hj) (by decide) rfl hin6 2 (by decide) mX5_hasMany_48 rfl rfl dX5_hasMany_6 ?_
  have r_1 := hZ.2.1.1 (8 + 8 * j) (2)
  refine z_topI (show G (8 + 8 * j) 2 = X 67 (20 * (j : Int) + 0) from sf.2.2.1) ?_
  refine z_iload_n F dX5_hasMany_9 rfl (lv_at hl 3 rfl) ?_
  refine z_bxr hZ (va_runV (As := [.int (zI (kd)), .int (zI (X 67 (20 * (j : Int) + 0))), .int (zI (r))]) (rest := []) F (k_X4_first l w dom A hDA sz G hd kd (X 67 (20 * (j : Int) + 0)) r (by omega) (by omega) (by omega)) (cwV 3 F.2.2.2.2 gX5_hasMany_X4_first rfl rfl rfl (by decide +kernel) ⟨Nat.le_of_ble_eq_true rfl, Nat.le_of_ble_eq_true rfl⟩) (z_preV hK hZ (2) (hd _ (by omega)) rfl (by decide) rfl _) rfl rfl hl.1 rfl (lv_room (Nat.le_of_ble_eq_true rfl)) dX5_hasMany_10 ⟨Nat.le_of_ble_eq_true rfl, Nat.le_of_ble_eq_true rfl⟩) (fun H locs hZ => ?_)
  rw [show G 4 ((kd * 6 + (X 67 (20 * (j : Int) + 0))) * 10 + r) = nx X ((kd * 6 + X 67 (20 * (j : Int) + 0)) * 10 + r) 0 from (hS4 _ (by omega) (by omega)).1]
  refine z_aload_n F dX5_hasMany_13 rfl (lv_at hl 1 rfl) ?_
  refine z_get F hK hZ (8 + 8 * j) (hd _ (by omega)) (shp_seat j hj) (by decide) rfl hin6 0 (by decide) mX5_hasMany_57 rfl rfl dX5_hasMany_14 ?_
  have r_2 := hZ.2.1.1 (8 + 8 * j) (0)
  refine z_topI (show G (8 + 8 * j) 0 = (j : Int) from sf.1) ?_
  refine z_iload F dX5_hasMany_17 (lv_at hl 4 rfl) ?_
  refine z_bxi hZ (va_runS (As := [zV w (nx X ((kd * 6 + X 67 (20 * (j : Int) + 0)) * 10 + r) 0), .int (zI ((j : Int))), .int (zI (v))]) (rest := []) F (k_X4_voters l w dom A hDA sz G X mm hd hdl hS hI ((kd * 6 + X 67 (20 * (j : Int) + 0)) * 10 + r) ((j : Int)) v (by omega) (by omega)) (va_cwS 3 F.2.2.2.2 gX5_hasMany_X4_voters rfl rfl rfl (by decide +kernel) ⟨Nat.le_of_ble_eq_true rfl, Nat.le_of_ble_eq_true rfl⟩) (z_preS hK hZ _) rfl rfl hl.1 rfl (lv_room (Nat.le_of_ble_eq_true rfl)) dX5_hasMany_19 ⟨Nat.le_of_ble_eq_true rfl, Nat.le_of_ble_eq_true rfl⟩) (fun H locs hZ => ?_)
  refine z_topI (vM_vote hI (kd := kd) (h := X 67 (20 * (j : Int) + 0)) (r := r) (by omega) (by omega) (by omega)) ?_
  have r_3 := voteN_rng X ((j : Int)) kd (X 67 (20 * (j : Int) + 0)) r v
  refine z_aload_n F dX5_hasMany_22 rfl (lv_at hl 0 rfl) ?_
  refine z_get F hK hZ (6) (hd _ (by omega)) rfl (by decide) rfl hin5 0 (by decide) mX5_hasMany_9 rfl rfl dX5_hasMany_23 ?_
  refine z_bxi hZ (va_runV (As := []) (rest := [.int (zI (voteN X ((j : Int)) kd (X 67 (20 * (j : Int) + 0)) r v))]) F (k_X1_many l w dom A hDA sz G hd (by omega)) (cwV 0 F.2.2.2.2 gX5_hasMany_X1_many rfl rfl rfl (by decide +kernel) ⟨Nat.le_of_ble_eq_true rfl, Nat.le_of_ble_eq_true rfl⟩) (z_preV hK hZ (1) (hd _ (by omega)) rfl (by decide) rfl _) rfl rfl hl.1 rfl (lv_room (Nat.le_of_ble_eq_true rfl)) dX5_hasMany_26 ⟨Nat.le_of_ble_eq_true rfl, Nat.le_of_ble_eq_true rfl⟩) (fun H locs hZ => ?_)
  refine z_icmp_lt (tgt := 36) F (by omega) (by omega) dX5_hasMany_29 (by decide) (fun c_29 => ?_) (fun c_29 => ?_)
  · skip
    refine z_iconst F dX5_hasMany_36 ?_
    exact z_zret F hr hlocks hZ (by first | exact bI_1 (by omega) | exact bI_0 (by omega)) (by omega) rfl dX5_hasMany_37 (by omega) (by omega)
  · skip
    refine z_iconst F dX5_hasMany_32 ?_
    refine lv_goto (tgt := 37) F.1 F.2.1 dX5_hasMany_33 (by decide) ?_
    exact z_zret F hr hlocks hZ (by first | exact bI_1 (by omega) | exact bI_0 (by omega)) (by omega) rfl dX5_hasMany_37 (by omega) (by omega)

theorem mX5_supported_15 : Cond.fieldLink RX5 15 "LockedChain$Rules" "post" "LLockedChain$Post;" ∈ wsX5_supported := by decide +kernel
theorem mX5_supported_48 : Cond.fieldLink RX5 48 "LockedChain$Seat" "height" "I" ∈ wsX5_supported := by decide +kernel
theorem mX5_supported_123 : Cond.fieldLink RX5 123 "LockedChain$Letter" "value" "I" ∈ wsX5_supported := by decide +kernel
theorem mX5_supported_153 : Cond.fieldLink RX5 153 "LockedChain$Letter" "next" "LLockedChain$Letter;" ∈ wsX5_supported := by decide +kernel
theorem mX5_supported_167 : Cond.fieldLink RX5 167 "LockedChain$Seat" "chain" "LLockedChain$Chain;" ∈ wsX5_supported := by decide +kernel
set_option maxHeartbeats 4000000 in
set_option maxRecDepth 100000 in
theorem k_X5_supported (l : Launch) (w : zW) (dom : Nat → Prop) (A : Nat → Prop) (hDA : ∀ i, dom i → A (w.2.1 + i)) (sz : Nat) (G : zM) (X : zM) (mm : Nat) (hd : ∀ i, i < 64 → dom i) (hdl : ∀ i, 71 ≤ i ∧ i < 71 + mm → dom i) (hM : Sim G X mm) (hI : Inv X) (j : Nat) (hj0 : (j : Int) < X 64 0) (hh : X 67 (20 * (j : Int) + 0) ≤ 5) (r kd : Int) (hro : 0 ≤ r ∧ r ≤ 9) (hk : 0 ≤ kd ∧ kd ≤ 2) : Met l yX5_supported wsX5_supported { frames := 3, cells := 0, slots := 0, locals := 70 } (zPre w dom sz G [.ref (w.2.1 + (6)), .ref (w.2.1 + (8 + 8 * j)), .int (zI (r)), .int (zI (kd))]) (zQr w dom sz (oL (fstB (supP X j r kd) (X 64 7).toNat 0)) (fun C => C = G) A) (0) (0) A := by
  refine Met.ofW (cc := cX5_supported) (maxL := 5) (ret := (some (.object "LockedChain$Letter"))) (by decide) rfl ?_
  intro p e s m args below meth c s₁ B hml hv
  obtain ⟨rfl, hsz, hP, hK⟩ := hv
  have F : CallFix p m c cX5_supported 5 s _ wsX5_supported RX5 := ⟨B.exec, B.bytes, hml, findClass_of_methodNamed B.named, atoms_spec (ws := wsX5_supported) B.pre⟩
  have hr := B.returns
  have hlocks := B.notSynchronized
  have hZ : Zs w dom A s.heap sz G s.heap [] := ⟨hsz, hP, va_S.rf⟩
  have hl := lv_entry ([.ref (w.2.1 + (6)), .ref (w.2.1 + (8 + 8 * j)), .int (zI (r)), .int (zI (kd))]) (n := 5) (Nat.le_of_ble_eq_true rfl)
  rw [lg_entry_eq]
  generalize (lg_sl ([.ref (w.2.1 + (6)), .ref (w.2.1 + (8 + 8 * j)), .int (zI (r)), .int (zI (kd))]) ++ List.replicate (5 - (lg_sl ([.ref (w.2.1 + (6)), .ref (w.2.1 + (8 + 8 * j)), .int (zI (r)), .int (zI (kd))])).length) Slot.unset).toArray = ls at hl ⊢
  have hl : lv_has ls 5 [(0, .ref (w.2.1 + (6))), (1, .ref (w.2.1 + (8 + 8 * j))), (2, .int (zI (r))), (3, .int (zI (kd)))] := hl
  have hin2 : ∀ v ∈ u_ws RX2 TX2 8, v ∈ wsX5_supported := by decide +kernel
  have hin5 : ∀ v ∈ u_ws RX5 TX5 2, v ∈ wsX5_supported := by decide +kernel
  have hin6 : ∀ v ∈ u_ws RX6 TX6 15, v ∈ wsX5_supported := by decide +kernel
  have hn := hI.1
  have hLL := hI.2.2.2.1
  have hj : j < 7 := by omega
  have hS : PostS G X mm := hM.1
  obtain ⟨hS1, hS2, hS3, hS4, hS5⟩ := hM.1
  have hC0 := hM.2.1
  have sf := Sim_f hM hj
  have sr := seat_rng hI (s := (j : Int)) (by omega)
  refine z_aload_n F dX5_supported_0 rfl (lv_at hl 0 rfl) ?_
  refine z_get F hK hZ (6) (hd _ (by omega)) rfl (by decide) rfl hin5 1 (by decide) mX5_supported_15 rfl rfl dX5_supported_1 ?_
  refine z_iconst F dX5_supported_4 ?_
  refine z_aload_n F dX5_supported_5 rfl (lv_at hl 1 rfl) ?_
  refine z_get F hK hZ (8 + 8 * j) (hd _ (by omega)) (shp_seat j hj) (by decide) rfl hin6 2 (by decide) mX5_supported_48 rfl rfl dX5_supported_6 ?_
  have r_1 := hZ.2.1.1 (8 + 8 * j) (2)
  refine z_topI (show G (8 + 8 * j) 2 = X 67 (20 * (j : Int) + 0) from sf.2.2.1) ?_
  refine z_iload_n F dX5_supported_9 rfl (lv_at hl 2 rfl) ?_
  refine z_bxr hZ (va_runV (As := [.int (zI (0)), .int (zI (X 67 (20 * (j : Int) + 0))), .int (zI (r))]) (rest := []) F (k_X4_first l w dom A hDA sz G hd 0 (X 67 (20 * (j : Int) + 0)) r (by omega) (by omega) (by omega)) (cwV 3 F.2.2.2.2 gX5_supported_X4_first rfl rfl rfl (by decide +kernel) ⟨Nat.le_of_ble_eq_true rfl, Nat.le_of_ble_eq_true rfl⟩) (z_preV hK hZ (2) (hd _ (by omega)) rfl (by decide) rfl _) rfl rfl hl.1 rfl (lv_room (Nat.le_of_ble_eq_true rfl)) dX5_supported_10 ⟨Nat.le_of_ble_eq_true rfl, Nat.le_of_ble_eq_true rfl⟩) (fun H locs hZ => ?_)
  rw [show G 4 ((0 * 6 + (X 67 (20 * (j : Int) + 0))) * 10 + r) = nx X ((0 * 6 + X 67 (20 * (j : Int) + 0)) * 10 + r) 0 from (hS4 _ (by omega) (by omega)).1]
  refine z_vstore (lv' := [(4, zV w (nx X ((0 * 6 + X 67 (20 * (j : Int) + 0)) * 10 + r) 0)), (0, .ref (w.2.1 + (6))), (1, .ref (w.2.1 + (8 + 8 * j))), (2, .int (zI (r))), (3, .int (zI (kd)))]) F dX5_supported_13 hl (by decide) (by unfold zV; (repeat' split) <;> rfl) (fun ls hl => ?_)
  have L_15 : ∀ (nf : Nat) (i : Nat), ((X 64 7).toNat + 1 ≤ i + nf) → (i ≤ (X 64 7).toNat) → (fstB (supP X j r kd) ((X 64 7).toNat - i) i = fstB (supP X j r kd) (X 64 7).toNat 0) →  ∀ (H : Heap) (locs : List Loc) (ls : Array Slot), Zs w dom A s.heap sz G H locs → lv_has ls 5 [(0, .ref (w.2.1 + (6))), (1, .ref (w.2.1 + (8 + 8 * j))), (2, .int (zI (r))), (3, .int (zI (kd))), (4, zV w (nx X ((0 * 6 + X 67 (20 * (j : Int) + 0)) * 10 + r) i))] → W p l e (headSpec wsX5_supported { frames := 3, cells := 0, slots := 0, locals := 70 }).room s m ([.ref (w.2.1 + (6)), .ref (w.2.1 + (8 + 8 * j)), .int (zI (r)), .int (zI (kd))] : List Value).toArray below meth c H locs (0 + 0) (0 + 0) (MQ below (zQr w dom sz (oL (fstB (supP X j r kd) (X 64 7).toNat 0)) (fun C => C = G) A) ([.ref (w.2.1 + (6)), .ref (w.2.1 + (8 + 8 * j)), .int (zI (r)), .int (zI (kd))] : List Value).toArray s (0) (0) A) (F0 m 15 ls []) := by
    intro nf
    induction nf with
    | zero => intro i  h15_0 h15_1 h15_2; exact absurd h15_0 (by omega)
    | succ nf ih_15 =>
      intro i  h15_0 h15_1 h15_2 H locs ls hZ hl
      refine z_vload (w := w) F dX5_supported_15 (lv_at hl 4 rfl) ?_
      refine z_ifnull (tgt := 73) F dX5_supported_17 (by decide) (fun c_17 => ?_) (fun c_17 => ?_)
      · skip
        have hno : fstB (supP X j r kd) ((X 64 7).toNat - i) i = none := by rw [fstB_skip (L := (X 64 7).toNat) (q := (X 64 7).toNat) (by omega) (by omega) (fun y a b c => nx_neg c_17 y a (by omega) (supP_slot c)), Nat.sub_self]; rfl
        refine lv_null F.1 F.2.1 dX5_supported_73 ?_
        rw [← zV_m1 w]
        exact z_aret F hr (Or.inl ⟨_, rfl⟩) hlocks hZ (by rw [← h15_2, hno]; rfl) rfl dX5_supported_74 (by omega) (by omega)
      · skip
        obtain ⟨q, hq, hq1, hq2, hq3, hq4⟩ := nx_pos (X := X) (k := (0 * 6 + X 67 (20 * (j : Int) + 0)) * 10 + r) (i := i) (by assumption)
        rw [hq, zV_nat] at hl
        obtain ⟨⟨e0, e1, e2, e3, e4, e5⟩, e6, e7⟩ := hS5 q hq2
        have hqr := let_rng hI (l := (q : Int)) ⟨by omega, hq2⟩
        have hqs := (slotL_eq hI hq2 (kd := 0) (h' := X 67 (20 * (j : Int) + 0)) (r := r) (by omega) (by omega) (by omega)).mp hq3
        have hv0 := (hI.2.2.2.2.2.1 (q : Int) (by omega) hq2).1.2.2.2.2.2.1 hqs.1
        refine z_aload_n F dX5_supported_20 rfl (lv_at hl 0 rfl) ?_
        refine z_aload_n F dX5_supported_21 rfl (lv_at hl 1 rfl) ?_
        refine z_aload F dX5_supported_22 (lv_at hl 4 rfl) ?_
        refine z_bxi hZ (va_runV (As := [.ref (w.2.1 + (8 + 8 * j)), .ref (w.2.1 + (71 + q))]) (rest := []) F (k_X5_counts l w dom A hDA sz G X mm hd hdl hM hI j hj0 q (by omega)) (cwV 2 F.2.2.2.2 gX5_supported_X5_counts rfl rfl rfl (by decide +kernel) ⟨Nat.le_of_ble_eq_true rfl, Nat.le_of_ble_eq_true rfl⟩) (z_preV hK hZ (6) (hd _ (by omega)) rfl (by decide) rfl _) rfl rfl hl.1 rfl (lv_room (Nat.le_of_ble_eq_true rfl)) dX5_supported_24 ⟨Nat.le_of_ble_eq_true rfl, Nat.le_of_ble_eq_true rfl⟩) (fun H locs hZ => ?_)
        refine z_ifB_eq (tgt := 63) F dX5_supported_27 (by decide) (fun c_27 => ?_) (fun c_27 => ?_)
        · skip
          refine z_aload F dX5_supported_63 (lv_at hl 4 rfl) ?_
          refine z_get F hK hZ (71 + q) (hdl _ (by omega)) (shp_let q) (by decide) rfl hin2 7 (by decide) mX5_supported_153 rfl rfl dX5_supported_65 ?_
          rw [show G (71 + q) 7 = nx X ((0 * 6 + X 67 (20 * (j : Int) + 0)) * 10 + r) (q + 1) from by rw [e7, hq3]]
          refine z_vstore (lv' := [(4, zV w (nx X ((0 * 6 + X 67 (20 * (j : Int) + 0)) * 10 + r) (q + 1))), (0, .ref (w.2.1 + (6))), (1, .ref (w.2.1 + (8 + 8 * j))), (2, .int (zI (r))), (3, .int (zI (kd)))]) F dX5_supported_68 hl (by decide) (by unfold zV; (repeat' split) <;> rfl) (fun ls hl => ?_)
          refine lv_goto (tgt := 15) F.1 F.2.1 dX5_supported_70 (by decide) ?_
          exact ih_15 (q + 1) (by omega) (by omega) (by rw [← h15_2, fstB_skip (L := (X 64 7).toNat) hq1 (by omega) (fun y a b c => hq4 y a b (supP_slot c)), fstB_f (k := (X 64 7).toNat - q) (i := q) (by omega) (fun z => by have y := (supP_iff hI hq2 (by omega) (by omega) hq3).mp z; first | exact c_27 y.1 | exact c_42 y.2.1 | exact c_57 y.2.2), Nat.sub_sub]) _ _ _ hZ (lv_sub hl [1, 2, 3, 4, 0] rfl)
        · skip
          refine z_aload_n F dX5_supported_30 rfl (lv_at hl 1 rfl) ?_
          refine z_get F hK hZ (8 + 8 * j) (hd _ (by omega)) (shp_seat j hj) (by decide) rfl hin6 12 (by decide) mX5_supported_167 rfl rfl dX5_supported_31 ?_
          refine z_aload F dX5_supported_34 (lv_at hl 4 rfl) ?_
          refine z_get F hK hZ (71 + q) (hdl _ (by omega)) (shp_let q) (by decide) rfl hin2 4 (by decide) mX5_supported_123 rfl rfl dX5_supported_36 ?_
          have r_2 := hZ.2.1.1 (71 + q) (4)
          refine z_topI (show G (71 + q) 4 = X 69 (6 * (q : Int) + 4) from e4) ?_
          refine z_bxi hZ (va_runV (As := [.int (zI (X 69 (6 * (q : Int) + 4)))]) (rest := []) F (k_X0_isRight l w dom A hDA sz G hd j hj (X 69 (6 * (q : Int) + 4)) (by omega)) (cwV 1 F.2.2.2.2 gX5_supported_X0_isRight rfl rfl rfl (by decide +kernel) ⟨Nat.le_of_ble_eq_true rfl, Nat.le_of_ble_eq_true rfl⟩) (z_preV hK hZ (8 + 8 * j + 3) (hd _ (by omega)) (shp_chain j hj) (by decide) rfl _) rfl rfl hl.1 rfl (lv_room (Nat.le_of_ble_eq_true rfl)) dX5_supported_39 ⟨Nat.le_of_ble_eq_true rfl, Nat.le_of_ble_eq_true rfl⟩) (fun H locs hZ => ?_)
          refine z_topI (show bI (isRC (G (8 + 8 * j + 4)) (X 69 (6 * (q : Int) + 4)) = true) = bI (isR X j (X 69 (6 * (q : Int) + 4)) = true) from by rw [isR_eq hM hj (by omega)]) ?_
          refine z_ifB_eq (tgt := 63) F dX5_supported_42 (by decide) (fun c_42 => ?_) (fun c_42 => ?_)
          · skip
            refine z_aload F dX5_supported_63 (lv_at hl 4 rfl) ?_
            refine z_get F hK hZ (71 + q) (hdl _ (by omega)) (shp_let q) (by decide) rfl hin2 7 (by decide) mX5_supported_153 rfl rfl dX5_supported_65 ?_
            rw [show G (71 + q) 7 = nx X ((0 * 6 + X 67 (20 * (j : Int) + 0)) * 10 + r) (q + 1) from by rw [e7, hq3]]
            refine z_vstore (lv' := [(4, zV w (nx X ((0 * 6 + X 67 (20 * (j : Int) + 0)) * 10 + r) (q + 1))), (0, .ref (w.2.1 + (6))), (1, .ref (w.2.1 + (8 + 8 * j))), (2, .int (zI (r))), (3, .int (zI (kd)))]) F dX5_supported_68 hl (by decide) (by unfold zV; (repeat' split) <;> rfl) (fun ls hl => ?_)
            refine lv_goto (tgt := 15) F.1 F.2.1 dX5_supported_70 (by decide) ?_
            exact ih_15 (q + 1) (by omega) (by omega) (by rw [← h15_2, fstB_skip (L := (X 64 7).toNat) hq1 (by omega) (fun y a b c => hq4 y a b (supP_slot c)), fstB_f (k := (X 64 7).toNat - q) (i := q) (by omega) (fun z => by have y := (supP_iff hI hq2 (by omega) (by omega) hq3).mp z; first | exact c_27 y.1 | exact c_42 y.2.1 | exact c_57 y.2.2), Nat.sub_sub]) _ _ _ hZ (lv_sub hl [1, 2, 3, 4, 0] rfl)
          · skip
            refine z_aload_n F dX5_supported_45 rfl (lv_at hl 0 rfl) ?_
            refine z_aload_n F dX5_supported_46 rfl (lv_at hl 1 rfl) ?_
            refine z_iload_n F dX5_supported_47 rfl (lv_at hl 3 rfl) ?_
            refine z_iload_n F dX5_supported_48 rfl (lv_at hl 2 rfl) ?_
            refine z_aload F dX5_supported_49 (lv_at hl 4 rfl) ?_
            refine z_get F hK hZ (71 + q) (hdl _ (by omega)) (shp_let q) (by decide) rfl hin2 4 (by decide) mX5_supported_123 rfl rfl dX5_supported_51 ?_
            have r_3 := hZ.2.1.1 (71 + q) (4)
            refine z_topI (show G (71 + q) 4 = X 69 (6 * (q : Int) + 4) from e4) ?_
            refine z_bxi hZ (va_runV (As := [.ref (w.2.1 + (8 + 8 * j)), .int (zI (kd)), .int (zI (r)), .int (zI (X 69 (6 * (q : Int) + 4)))]) (rest := []) F (k_X5_hasMany l w dom A hDA sz G X mm hd hdl hM hI j hj0 (by omega) kd r (X 69 (6 * (q : Int) + 4)) (by omega) (by omega) (by omega)) (cwV 4 F.2.2.2.2 gX5_supported_X5_hasMany rfl rfl rfl (by decide +kernel) ⟨Nat.le_of_ble_eq_true rfl, Nat.le_of_ble_eq_true rfl⟩) (z_preV hK hZ (6) (hd _ (by omega)) rfl (by decide) rfl _) rfl rfl hl.1 rfl (lv_room (Nat.le_of_ble_eq_true rfl)) dX5_supported_54 ⟨Nat.le_of_ble_eq_true rfl, Nat.le_of_ble_eq_true rfl⟩) (fun H locs hZ => ?_)
            refine z_ifB_eq (tgt := 63) F dX5_supported_57 (by decide) (fun c_57 => ?_) (fun c_57 => ?_)
            · skip
              refine z_aload F dX5_supported_63 (lv_at hl 4 rfl) ?_
              refine z_get F hK hZ (71 + q) (hdl _ (by omega)) (shp_let q) (by decide) rfl hin2 7 (by decide) mX5_supported_153 rfl rfl dX5_supported_65 ?_
              rw [show G (71 + q) 7 = nx X ((0 * 6 + X 67 (20 * (j : Int) + 0)) * 10 + r) (q + 1) from by rw [e7, hq3]]
              refine z_vstore (lv' := [(4, zV w (nx X ((0 * 6 + X 67 (20 * (j : Int) + 0)) * 10 + r) (q + 1))), (0, .ref (w.2.1 + (6))), (1, .ref (w.2.1 + (8 + 8 * j))), (2, .int (zI (r))), (3, .int (zI (kd)))]) F dX5_supported_68 hl (by decide) (by unfold zV; (repeat' split) <;> rfl) (fun ls hl => ?_)
              refine lv_goto (tgt := 15) F.1 F.2.1 dX5_supported_70 (by decide) ?_
              exact ih_15 (q + 1) (by omega) (by omega) (by rw [← h15_2, fstB_skip (L := (X 64 7).toNat) hq1 (by omega) (fun y a b c => hq4 y a b (supP_slot c)), fstB_f (k := (X 64 7).toNat - q) (i := q) (by omega) (fun z => by have y := (supP_iff hI hq2 (by omega) (by omega) hq3).mp z; first | exact c_27 y.1 | exact c_42 y.2.1 | exact c_57 y.2.2), Nat.sub_sub]) _ _ _ hZ (lv_sub hl [1, 2, 3, 4, 0] rfl)
            · skip
              refine z_aload F dX5_supported_60 (lv_at hl 4 rfl) ?_
              rw [← zV_nat w (71 + q)]
              exact z_aret F hr (Or.inl ⟨_, rfl⟩) hlocks hZ (by rw [← h15_2, fstB_skip (L := (X 64 7).toNat) hq1 (by omega) (fun y a b c => hq4 y a b (supP_slot c)), fstB_t (by omega) ((supP_iff hI hq2 (by omega) (by omega) hq3).mpr ⟨c_27, c_42, c_57⟩)]; rfl) rfl dX5_supported_62 (by omega) (by omega)
  exact L_15 ((X 64 7).toNat + 1) 0 (by omega) (by omega) rfl _ _ _ hZ (lv_sub hl [1, 2, 3, 4, 0] rfl)

theorem mX5_writers_15 : Cond.fieldLink RX5 15 "LockedChain$Rules" "post" "LLockedChain$Post;" ∈ wsX5_writers := by decide +kernel
theorem mX5_writers_48 : Cond.fieldLink RX5 48 "LockedChain$Seat" "height" "I" ∈ wsX5_writers := by decide +kernel
theorem mX5_writers_57 : Cond.fieldLink RX5 57 "LockedChain$Seat" "number" "I" ∈ wsX5_writers := by decide +kernel
theorem mX5_writers_150 : Cond.fieldLink RX5 150 "LockedChain$Letter" "sender" "I" ∈ wsX5_writers := by decide +kernel
theorem mX5_writers_153 : Cond.fieldLink RX5 153 "LockedChain$Letter" "next" "LLockedChain$Letter;" ∈ wsX5_writers := by decide +kernel
set_option maxHeartbeats 4000000 in
set_option maxRecDepth 100000 in
theorem k_X5_writers (l : Launch) (w : zW) (dom : Nat → Prop) (A : Nat → Prop) (hDA : ∀ i, dom i → A (w.2.1 + i)) (sz : Nat) (G : zM) (X : zM) (mm : Nat) (hd : ∀ i, i < 64 → dom i) (hdl : ∀ i, 71 ≤ i ∧ i < 71 + mm → dom i) (hM : Sim G X mm) (hI : Inv X) (j : Nat) (hj0 : (j : Int) < X 64 0) (hh : X 67 (20 * (j : Int) + 0) ≤ 5) (r : Int) (hro : 0 ≤ r ∧ r ≤ 9) : Met l yX5_writers wsX5_writers { frames := 2, cells := 0, slots := 0, locals := 46 } (zPre w dom sz G [.ref (w.2.1 + (6)), .ref (w.2.1 + (8 + 8 * j)), .int (zI (r))]) (zQi w dom sz (wM X j (X 67 (20 * (j : Int) + 0)) r (X 64 7).toNat 3 0) (fun C => C = G) A) (0) (0) A := by
  refine Met.ofW (cc := cX5_writers) (maxL := 6) (ret := (some .int)) (by decide) rfl ?_
  intro p e s m args below meth c s₁ B hml hv
  obtain ⟨rfl, hsz, hP, hK⟩ := hv
  have F : CallFix p m c cX5_writers 6 s _ wsX5_writers RX5 := ⟨B.exec, B.bytes, hml, findClass_of_methodNamed B.named, atoms_spec (ws := wsX5_writers) B.pre⟩
  have hr := B.returns
  have hlocks := B.notSynchronized
  have hZ : Zs w dom A s.heap sz G s.heap [] := ⟨hsz, hP, va_S.rf⟩
  have hl := lv_entry ([.ref (w.2.1 + (6)), .ref (w.2.1 + (8 + 8 * j)), .int (zI (r))]) (n := 6) (Nat.le_of_ble_eq_true rfl)
  rw [lg_entry_eq]
  generalize (lg_sl ([.ref (w.2.1 + (6)), .ref (w.2.1 + (8 + 8 * j)), .int (zI (r))]) ++ List.replicate (6 - (lg_sl ([.ref (w.2.1 + (6)), .ref (w.2.1 + (8 + 8 * j)), .int (zI (r))])).length) Slot.unset).toArray = ls at hl ⊢
  have hl : lv_has ls 6 [(0, .ref (w.2.1 + (6))), (1, .ref (w.2.1 + (8 + 8 * j))), (2, .int (zI (r)))] := hl
  have hin2 : ∀ v ∈ u_ws RX2 TX2 8, v ∈ wsX5_writers := by decide +kernel
  have hin5 : ∀ v ∈ u_ws RX5 TX5 2, v ∈ wsX5_writers := by decide +kernel
  have hin6 : ∀ v ∈ u_ws RX6 TX6 15, v ∈ wsX5_writers := by decide +kernel
  have hn := hI.1
  have hLL := hI.2.2.2.1
  have hj : j < 7 := by omega
  have hS : PostS G X mm := hM.1
  obtain ⟨hS1, hS2, hS3, hS4, hS5⟩ := hM.1
  have hC0 := hM.2.1
  have sf := Sim_f hM hj
  have sr := seat_rng hI (s := (j : Int)) (by omega)
  refine z_iconst F dX5_writers_0 ?_
  refine z_istore_n (lv' := [(3, .int (zI (0))), (0, .ref (w.2.1 + (6))), (1, .ref (w.2.1 + (8 + 8 * j))), (2, .int (zI (r)))]) F dX5_writers_1 rfl hl (by decide) rfl (fun ls hl => ?_)
  refine z_iconst F dX5_writers_2 ?_
  refine z_istore (lv' := [(4, .int (zI (0))), (3, .int (zI (0))), (0, .ref (w.2.1 + (6))), (1, .ref (w.2.1 + (8 + 8 * j))), (2, .int (zI (r)))]) F dX5_writers_3 hl (by decide) rfl (fun ls hl => ?_)
  have L_5 : ∀ (nf : Nat) (k : Nat) (b : Int), (4 ≤ k + nf) → (k ≤ 3) → (b = wM X j (X 67 (20 * (j : Int) + 0)) r (X 64 7).toNat k 0) →  ∀ (H : Heap) (locs : List Loc) (ls : Array Slot), Zs w dom A s.heap sz G H locs → lv_has ls 6 [(0, .ref (w.2.1 + (6))), (1, .ref (w.2.1 + (8 + 8 * j))), (2, .int (zI (r))), (3, .int (zI (b))), (4, .int (zI ((k : Int))))] → W p l e (headSpec wsX5_writers { frames := 2, cells := 0, slots := 0, locals := 46 }).room s m ([.ref (w.2.1 + (6)), .ref (w.2.1 + (8 + 8 * j)), .int (zI (r))] : List Value).toArray below meth c H locs (0) (0) (MQ below (zQi w dom sz (wM X j (X 67 (20 * (j : Int) + 0)) r (X 64 7).toNat 3 0) (fun C => C = G) A) ([.ref (w.2.1 + (6)), .ref (w.2.1 + (8 + 8 * j)), .int (zI (r))] : List Value).toArray s (0) (0) A) (F0 m 5 ls []) := by
    intro nf
    induction nf with
    | zero => intro k  b  h5_0 h5_1 h5_2; exact absurd h5_0 (by omega)
    | succ nf ih_5 =>
      intro k  b  h5_0 h5_1 h5_2 H locs ls hZ hl
      subst h5_2
      have hw0 : 0 ≤ wM X j (X 67 (20 * (j : Int) + 0)) r (X 64 7).toNat k 0 ∧ wM X j (X 67 (20 * (j : Int) + 0)) r (X 64 7).toNat k 0 < 128 := msk_rng _
      refine z_iload F dX5_writers_5 (lv_at hl 4 rfl) ?_
      refine z_iconst F dX5_writers_7 ?_
      refine z_icmp_ge (tgt := 70) F (by omega) (by omega) dX5_writers_8 (by decide) (fun c_8 => ?_) (fun c_8 => ?_)
      · skip
        refine z_iload_n F dX5_writers_70 rfl (lv_at hl 3 rfl) ?_
        exact z_iret F hr hlocks hZ (by rw [show k = 3 by omega]) rfl dX5_writers_71 (by omega) (by omega)
      · skip
        refine z_aload_n F dX5_writers_11 rfl (lv_at hl 0 rfl) ?_
        refine z_get F hK hZ (6) (hd _ (by omega)) rfl (by decide) rfl hin5 1 (by decide) mX5_writers_15 rfl rfl dX5_writers_12 ?_
        refine z_iload F dX5_writers_15 (lv_at hl 4 rfl) ?_
        refine z_aload_n F dX5_writers_17 rfl (lv_at hl 1 rfl) ?_
        refine z_get F hK hZ (8 + 8 * j) (hd _ (by omega)) (shp_seat j hj) (by decide) rfl hin6 2 (by decide) mX5_writers_48 rfl rfl dX5_writers_18 ?_
        have r_1 := hZ.2.1.1 (8 + 8 * j) (2)
        refine z_topI (show G (8 + 8 * j) 2 = X 67 (20 * (j : Int) + 0) from sf.2.2.1) ?_
        refine z_iload_n F dX5_writers_21 rfl (lv_at hl 2 rfl) ?_
        refine z_bxr hZ (va_runV (As := [.int (zI ((k : Int))), .int (zI (X 67 (20 * (j : Int) + 0))), .int (zI (r))]) (rest := []) F (k_X4_first l w dom A hDA sz G hd ((k : Int)) (X 67 (20 * (j : Int) + 0)) r (by omega) (by omega) (by omega)) (cwV 3 F.2.2.2.2 gX5_writers_X4_first rfl rfl rfl (by decide +kernel) ⟨Nat.le_of_ble_eq_true rfl, Nat.le_of_ble_eq_true rfl⟩) (z_preV hK hZ (2) (hd _ (by omega)) rfl (by decide) rfl _) rfl rfl hl.1 rfl (lv_room (Nat.le_of_ble_eq_true rfl)) dX5_writers_22 ⟨Nat.le_of_ble_eq_true rfl, Nat.le_of_ble_eq_true rfl⟩) (fun H locs hZ => ?_)
        rw [show G 4 ((((k : Int)) * 6 + (X 67 (20 * (j : Int) + 0))) * 10 + r) = nx X ((((k : Int)) * 6 + X 67 (20 * (j : Int) + 0)) * 10 + r) 0 from (hS4 _ (by omega) (by omega)).1]
        refine z_vstore (lv' := [(5, zV w (nx X ((((k : Int)) * 6 + X 67 (20 * (j : Int) + 0)) * 10 + r) 0)), (0, .ref (w.2.1 + (6))), (1, .ref (w.2.1 + (8 + 8 * j))), (2, .int (zI (r))), (3, .int (zI (wM X j (X 67 (20 * (j : Int) + 0)) r (X 64 7).toNat k 0))), (4, .int (zI ((k : Int))))]) F dX5_writers_25 hl (by decide) (by unfold zV; (repeat' split) <;> rfl) (fun ls hl => ?_)
        have L_27 : ∀ (nf : Nat) (i : Nat) (b : Int), ((X 64 7).toNat + 1 ≤ i + nf) → (i ≤ (X 64 7).toNat) → (b = wM X j (X 67 (20 * (j : Int) + 0)) r (X 64 7).toNat k i) →  ∀ (H : Heap) (locs : List Loc) (ls : Array Slot), Zs w dom A s.heap sz G H locs → lv_has ls 6 [(0, .ref (w.2.1 + (6))), (1, .ref (w.2.1 + (8 + 8 * j))), (2, .int (zI (r))), (3, .int (zI (b))), (4, .int (zI ((k : Int)))), (5, zV w (nx X (((k : Int) * 6 + X 67 (20 * (j : Int) + 0)) * 10 + r) i))] → W p l e (headSpec wsX5_writers { frames := 2, cells := 0, slots := 0, locals := 46 }).room s m ([.ref (w.2.1 + (6)), .ref (w.2.1 + (8 + 8 * j)), .int (zI (r))] : List Value).toArray below meth c H locs (0 + 0) (0 + 0) (MQ below (zQi w dom sz (wM X j (X 67 (20 * (j : Int) + 0)) r (X 64 7).toNat 3 0) (fun C => C = G) A) ([.ref (w.2.1 + (6)), .ref (w.2.1 + (8 + 8 * j)), .int (zI (r))] : List Value).toArray s (0) (0) A) (F0 m 27 ls []) := by
          intro nf
          induction nf with
          | zero => intro i  b  h27_0 h27_1 h27_2; exact absurd h27_0 (by omega)
          | succ nf ih_27 =>
            intro i  b  h27_0 h27_1 h27_2 H locs ls hZ hl
            subst h27_2
            have hw1 : 0 ≤ wM X j (X 67 (20 * (j : Int) + 0)) r (X 64 7).toNat k i ∧ wM X j (X 67 (20 * (j : Int) + 0)) r (X 64 7).toNat k i < 128 := msk_rng _
            refine z_vload (w := w) F dX5_writers_27 (lv_at hl 5 rfl) ?_
            refine z_ifnull (tgt := 64) F dX5_writers_29 (by decide) (fun c_29 => ?_) (fun c_29 => ?_)
            · skip
              have hend : wM X j (X 67 (20 * (j : Int) + 0)) r (X 64 7).toNat k (X 64 7).toNat = wM X j (X 67 (20 * (j : Int) + 0)) r (X 64 7).toNat k i := (wM_skip (by omega) (fun y a b => nx_neg c_29 y a (by omega)))
              refine z_iinc (k := 4) (z := (k : Int)) (lv' := [(4, .int (zI ((k : Int) + 1))), (0, .ref (w.2.1 + (6))), (1, .ref (w.2.1 + (8 + 8 * j))), (2, .int (zI (r))), (3, .int (zI (wM X j (X 67 (20 * (j : Int) + 0)) r (X 64 7).toNat k i))), (5, zV w (nx X (((k : Int) * 6 + X 67 (20 * (j : Int) + 0)) * 10 + r) i))]) F dX5_writers_64 hl rfl (by decide) (by unfold zV; (repeat' split) <;> rfl) (fun ls hl => ?_)
              refine lv_goto (tgt := 5) F.1 F.2.1 dX5_writers_67 (by decide) ?_
              exact ih_5 (k + 1) (wM X j (X 67 (20 * (j : Int) + 0)) r (X 64 7).toNat k i) (by omega) (by omega) (by rw [wM_next, ← hend]) _ _ _ hZ (lv_sub hl [1, 2, 3, 4, 0] rfl)
            · skip
              obtain ⟨q, hq, hq1, hq2, hq3, hq4⟩ := nx_pos (X := X) (k := ((k : Int) * 6 + X 67 (20 * (j : Int) + 0)) * 10 + r) (i := i) (by assumption)
              rw [hq, zV_nat] at hl
              obtain ⟨⟨e0, e1, e2, e3, e4, e5⟩, e6, e7⟩ := hS5 q hq2
              have hqr := let_rng hI (l := (q : Int)) ⟨by omega, hq2⟩
              refine z_aload F dX5_writers_32 (lv_at hl 5 rfl) ?_
              refine z_aload_n F dX5_writers_34 rfl (lv_at hl 1 rfl) ?_
              refine z_get F hK hZ (8 + 8 * j) (hd _ (by omega)) (shp_seat j hj) (by decide) rfl hin6 0 (by decide) mX5_writers_57 rfl rfl dX5_writers_35 ?_
              have r_2 := hZ.2.1.1 (8 + 8 * j) (0)
              refine z_topI (show G (8 + 8 * j) 0 = (j : Int) from sf.1) ?_
              refine z_bxi hZ (va_runV (As := [.int (zI ((j : Int)))]) (rest := []) F (k_X2_cameTo l w dom A hDA sz G q (hdl _ (by omega)) (cam_rng hS (by omega)) ((j : Int)) (by omega)) (cwV 1 F.2.2.2.2 gX5_writers_X2_cameTo rfl rfl rfl (by decide +kernel) ⟨Nat.le_of_ble_eq_true rfl, Nat.le_of_ble_eq_true rfl⟩) (z_preV hK hZ (71 + q) (hdl _ (by omega)) (shp_let q) (by decide) rfl _) rfl rfl hl.1 rfl (lv_room (Nat.le_of_ble_eq_true rfl)) dX5_writers_38 ⟨Nat.le_of_ble_eq_true rfl, Nat.le_of_ble_eq_true rfl⟩) (fun H locs hZ => ?_)
              refine z_topI (cam_bI hS (l := q) (s := (j : Int)) (by omega) (by omega)) ?_
              refine z_ifB_eq (tgt := 54) F dX5_writers_41 (by decide) (fun c_41 => ?_) (fun c_41 => ?_)
              · skip
                refine z_aload F dX5_writers_54 (lv_at hl 5 rfl) ?_
                refine z_get F hK hZ (71 + q) (hdl _ (by omega)) (shp_let q) (by decide) rfl hin2 7 (by decide) mX5_writers_153 rfl rfl dX5_writers_56 ?_
                rw [show G (71 + q) 7 = nx X (((k : Int) * 6 + X 67 (20 * (j : Int) + 0)) * 10 + r) (q + 1) from by rw [e7, hq3]]
                refine z_vstore (lv' := [(5, zV w (nx X (((k : Int) * 6 + X 67 (20 * (j : Int) + 0)) * 10 + r) (q + 1))), (0, .ref (w.2.1 + (6))), (1, .ref (w.2.1 + (8 + 8 * j))), (2, .int (zI (r))), (3, .int (zI (wM X j (X 67 (20 * (j : Int) + 0)) r (X 64 7).toNat k i))), (4, .int (zI ((k : Int))))]) F dX5_writers_59 hl (by decide) (by unfold zV; (repeat' split) <;> rfl) (fun ls hl => ?_)
                refine lv_goto (tgt := 27) F.1 F.2.1 dX5_writers_61 (by decide) ?_
                exact ih_27 (q + 1) (wM X j (X 67 (20 * (j : Int) + 0)) r (X 64 7).toNat k i) (by omega) (by omega) (by rw [← wM_skip hq1 hq4]; first | exact (wM_no c_41).symm | exact wM_yes hq3 c_41 (by omega)) _ _ _ hZ (lv_sub hl [1, 2, 3, 4, 5, 0] rfl)
              · skip
                refine z_iload_n F dX5_writers_44 rfl (lv_at hl 3 rfl) ?_
                refine z_iconst F dX5_writers_45 ?_
                refine z_aload F dX5_writers_46 (lv_at hl 5 rfl) ?_
                refine z_get F hK hZ (71 + q) (hdl _ (by omega)) (shp_let q) (by decide) rfl hin2 0 (by decide) mX5_writers_150 rfl rfl dX5_writers_48 ?_
                have r_3 := hZ.2.1.1 (71 + q) (0)
                refine z_topI (show G (71 + q) 0 = X 69 (6 * (q : Int) + 0) from e0) ?_
                refine z_ishl F dX5_writers_51 ?_
                refine z_ior F dX5_writers_52 ?_
                refine z_istore_n (lv' := [(3, .int (zI (bOr (wM X j (X 67 (20 * (j : Int) + 0)) r (X 64 7).toNat k i) (bShl 1 (X 69 (6 * (q : Int) + 0)))))), (0, .ref (w.2.1 + (6))), (1, .ref (w.2.1 + (8 + 8 * j))), (2, .int (zI (r))), (4, .int (zI ((k : Int)))), (5, .ref (w.2.1 + (71 + q)))]) F dX5_writers_53 rfl hl (by decide) rfl (fun ls hl => ?_)
                refine z_aload F dX5_writers_54 (lv_at hl 5 rfl) ?_
                refine z_get F hK hZ (71 + q) (hdl _ (by omega)) (shp_let q) (by decide) rfl hin2 7 (by decide) mX5_writers_153 rfl rfl dX5_writers_56 ?_
                rw [show G (71 + q) 7 = nx X (((k : Int) * 6 + X 67 (20 * (j : Int) + 0)) * 10 + r) (q + 1) from by rw [e7, hq3]]
                refine z_vstore (lv' := [(5, zV w (nx X (((k : Int) * 6 + X 67 (20 * (j : Int) + 0)) * 10 + r) (q + 1))), (3, .int (zI (bOr (wM X j (X 67 (20 * (j : Int) + 0)) r (X 64 7).toNat k i) (bShl 1 (X 69 (6 * (q : Int) + 0)))))), (0, .ref (w.2.1 + (6))), (1, .ref (w.2.1 + (8 + 8 * j))), (2, .int (zI (r))), (4, .int (zI ((k : Int))))]) F dX5_writers_59 hl (by decide) (by unfold zV; (repeat' split) <;> rfl) (fun ls hl => ?_)
                refine lv_goto (tgt := 27) F.1 F.2.1 dX5_writers_61 (by decide) ?_
                exact ih_27 (q + 1) (bOr (wM X j (X 67 (20 * (j : Int) + 0)) r (X 64 7).toNat k i) (bShl 1 (X 69 (6 * (q : Int) + 0)))) (by omega) (by omega) (by rw [← wM_skip hq1 hq4]; first | exact (wM_no c_41).symm | exact wM_yes hq3 c_41 (by omega)) _ _ _ hZ (lv_sub hl [2, 3, 4, 1, 5, 0] rfl)
        exact L_27 ((X 64 7).toNat + 1) 0 (wM X j (X 67 (20 * (j : Int) + 0)) r (X 64 7).toNat k 0) (by omega) (by omega) rfl _ _ _ hZ (lv_sub hl [1, 2, 3, 4, 5, 0] rfl)
  exact L_5 4 0 0 (by omega) (by omega) msk_none.symm _ _ _ hZ (lv_sub hl [2, 3, 4, 1, 0] rfl)
