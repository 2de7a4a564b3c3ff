theorem mX5_send_15 : Cond.fieldLink RX5 15 "LockedChain$Rules" "post" "LLockedChain$Post;" ∈ wsX5_send := by decide +kernel
theorem mX5_send_33 : Cond.fieldLink RX5 33 "LockedChain$Seat" "round" "I" ∈ wsX5_send := by decide +kernel
theorem mX5_send_48 : Cond.fieldLink RX5 48 "LockedChain$Seat" "height" "I" ∈ wsX5_send := by decide +kernel
theorem mX5_send_57 : Cond.fieldLink RX5 57 "LockedChain$Seat" "number" "I" ∈ wsX5_send := by decide +kernel
set_option maxHeartbeats 4000000 in
set_option maxRecDepth 100000 in
theorem k_X5_send (l : Launch) (w : zW) (A : Nat → Prop) (hA : ∀ i, i < 64 ∨ 71 ≤ i → A (w.2.1 + i)) (mm : Nat) (G X : zM) (hM : Sim G X mm) (hI : Inv X) (j : Nat) (hj0 : (j : Int) < X 64 0) (hh : X 67 (20 * (j : Int) + 0) ≤ 5) (kd v vr : Int) (hk : 0 ≤ kd ∧ kd ≤ 2) (hv : -1 ≤ v ∧ v ≤ 99) (hvr : -1 ≤ vr ∧ vr ≤ 9) : Met l yX5_send wsX5_send { frames := 3, cells := (mU mm (sendsM X j kd (X 67 (20 * (j : Int) + 0)) (X 67 (20 * (j : Int) + 1)) v vr 1) - mm), slots := (8 * (mU mm (sendsM X j kd (X 67 (20 * (j : Int) + 0)) (X 67 (20 * (j : Int) + 1)) v vr 1) - mm)), locals := 61 } (zPre w (dC mm) (w.2.1 + (71 + mm)) G [.ref (w.2.1 + (6)), .ref (w.2.1 + (8 + 8 * j)), .int (zI (kd)), .int (zI (v)), .int (zI (vr))]) (zQv w (dC (mU mm (sendsM X j kd (X 67 (20 * (j : Int) + 0)) (X 67 (20 * (j : Int) + 1)) v vr 1))) (w.2.1 + (71 + mU mm (sendsM X j kd (X 67 (20 * (j : Int) + 0)) (X 67 (20 * (j : Int) + 1)) v vr 1))) (fun C => Sim C (sendsM X j kd (X 67 (20 * (j : Int) + 0)) (X 67 (20 * (j : Int) + 1)) v vr 1) (mU mm (sendsM X j kd (X 67 (20 * (j : Int) + 0)) (X 67 (20 * (j : Int) + 1)) v vr 1))) A) ((mU mm (sendsM X j kd (X 67 (20 * (j : Int) + 0)) (X 67 (20 * (j : Int) + 1)) v vr 1) - mm)) ((8 * (mU mm (sendsM X j kd (X 67 (20 * (j : Int) + 0)) (X 67 (20 * (j : Int) + 1)) v vr 1) - mm))) A := by
  refine Met.ofW (cc := cX5_send) (maxL := 5) (ret := none) (by decide) rfl ?_
  intro p e s m args below meth c s₁ B hml hv
  obtain ⟨rfl, hsz, hP, hK⟩ := hv
  have F : CallFix p m c cX5_send 5 s _ wsX5_send RX5 := ⟨B.exec, B.bytes, hml, findClass_of_methodNamed B.named, atoms_spec (ws := wsX5_send) B.pre⟩
  have hr := B.returns
  have hlocks := B.notSynchronized
  have hZ : Zs w (dC mm) A s.heap (w.2.1 + (71 + mm)) G s.heap [] := ⟨hsz, hP, va_S.rf⟩
  have hl := lv_entry ([.ref (w.2.1 + (6)), .ref (w.2.1 + (8 + 8 * j)), .int (zI (kd)), .int (zI (v)), .int (zI (vr))]) (n := 5) (Nat.le_of_ble_eq_true rfl)
  rw [lg_entry_eq]
  generalize (lg_sl ([.ref (w.2.1 + (6)), .ref (w.2.1 + (8 + 8 * j)), .int (zI (kd)), .int (zI (v)), .int (zI (vr))]) ++ List.replicate (5 - (lg_sl ([.ref (w.2.1 + (6)), .ref (w.2.1 + (8 + 8 * j)), .int (zI (kd)), .int (zI (v)), .int (zI (vr))])).length) Slot.unset).toArray = ls at hl ⊢
  have hl : lv_has ls 5 [(0, .ref (w.2.1 + (6))), (1, .ref (w.2.1 + (8 + 8 * j))), (2, .int (zI (kd))), (3, .int (zI (v))), (4, .int (zI (vr)))] := hl
  have hin5 : ∀ v ∈ u_ws RX5 TX5 2, v ∈ wsX5_send := by decide +kernel
  have hin6 : ∀ v ∈ u_ws RX6 TX6 15, v ∈ wsX5_send := by decide +kernel
  have hn := hI.1
  have hLL := hI.2.2.2.1
  have hj : j < 7 := by omega
  have hS : PostS G X mm := hM.1
  obtain ⟨hS1, hS2, hS3, hS4, hS5⟩ := hM.1
  have hC0 := hM.2.1
  have sf := Sim_f hM hj
  have sr := seat_rng hI (s := (j : Int)) (by omega)
  have hu := mU_c mm (sendsM X j kd (X 67 (20 * (j : Int) + 0)) (X 67 (20 * (j : Int) + 1)) v vr 1)
  refine z_aload_n F dX5_send_0 rfl (lv_at hl 0 rfl) ?_
  refine z_get F hK hZ (6) (dC_s (by omega)) rfl (by decide) rfl hin5 1 (by decide) mX5_send_15 rfl rfl dX5_send_1 ?_
  refine z_aload_n F dX5_send_4 rfl (lv_at hl 1 rfl) ?_
  refine z_get F hK hZ (8 + 8 * j) (dC_s (by omega)) (shp_seat j hj) (by decide) rfl hin6 0 (by decide) mX5_send_57 rfl rfl dX5_send_5 ?_
  have r_1 := hZ.2.1.1 (8 + 8 * j) (0)
  refine z_topI (show G (8 + 8 * j) 0 = (j : Int) from sf.1) ?_
  refine z_iload_n F dX5_send_8 rfl (lv_at hl 2 rfl) ?_
  refine z_aload_n F dX5_send_9 rfl (lv_at hl 1 rfl) ?_
  refine z_get F hK hZ (8 + 8 * j) (dC_s (by omega)) (shp_seat j hj) (by decide) rfl hin6 2 (by decide) mX5_send_48 rfl rfl dX5_send_10 ?_
  have r_2 := hZ.2.1.1 (8 + 8 * j) (2)
  refine z_topI (show G (8 + 8 * j) 2 = X 67 (20 * (j : Int) + 0) from sf.2.2.1) ?_
  refine z_aload_n F dX5_send_13 rfl (lv_at hl 1 rfl) ?_
  refine z_get F hK hZ (8 + 8 * j) (dC_s (by omega)) (shp_seat j hj) (by decide) rfl hin6 3 (by decide) mX5_send_33 rfl rfl dX5_send_14 ?_
  have r_3 := hZ.2.1.1 (8 + 8 * j) (3)
  refine z_topI (show G (8 + 8 * j) 3 = X 67 (20 * (j : Int) + 1) from sf.2.2.2.1) ?_
  refine z_iload_n F dX5_send_17 rfl (lv_at hl 3 rfl) ?_
  refine z_iload F dX5_send_18 (lv_at hl 4 rfl) ?_
  refine z_iconst F dX5_send_20 ?_
  refine z_aload_n F dX5_send_21 rfl (lv_at hl 1 rfl) ?_
  refine z_get F hK hZ (8 + 8 * j) (dC_s (by omega)) (shp_seat j hj) (by decide) rfl hin6 0 (by decide) mX5_send_57 rfl rfl dX5_send_22 ?_
  have r_4 := hZ.2.1.1 (8 + 8 * j) (0)
  refine z_topI (show G (8 + 8 * j) 0 = (j : Int) from sf.1) ?_
  refine z_ishl F dX5_send_25 ?_
  have hca := shl_own hj
  have hcr : 0 ≤ bShl 1 (j : Int) ∧ bShl 1 (j : Int) < 128 := by rw [hca]; exact msk_rng _
  refine z_backv hZ (va_runV (As := [.int (zI ((j : Int))), .int (zI (kd)), .int (zI (X 67 (20 * (j : Int) + 0))), .int (zI (X 67 (20 * (j : Int) + 1))), .int (zI (v)), .int (zI (vr)), .int (zI (bShl 1 ((j : Int))))]) (rest := []) F (k_X4_send l w A hA mm G X hS hI ((j : Int)) kd (X 67 (20 * (j : Int) + 0)) (X 67 (20 * (j : Int) + 1)) v vr (bShl 1 ((j : Int))) 1 (by omega) (by omega) (by omega) (by omega) (by omega) (by omega) hcr hca) (cwV 7 F.2.2.2.2 gX5_send_X4_send rfl rfl rfl (by decide +kernel) ⟨Nat.le_of_ble_eq_true rfl, Nat.le_of_ble_eq_true rfl⟩) (z_preV hK hZ (2) (dC_s (by omega)) rfl (by decide) rfl _) rfl rfl hl.1 rfl (lv_room (Nat.le_of_ble_eq_true rfl)) dX5_send_26 ⟨by show 0 + (mU mm (sendsM X j kd (X 67 (20 * (j : Int) + 0)) (X 67 (20 * (j : Int) + 1)) v vr 1) - mm) ≤ (mU mm (sendsM X j kd (X 67 (20 * (j : Int) + 0)) (X 67 (20 * (j : Int) + 1)) v vr 1) - mm); omega, by show 0 + (8 * (mU mm (sendsM X j kd (X 67 (20 * (j : Int) + 0)) (X 67 (20 * (j : Int) + 1)) v vr 1) - mm)) ≤ (8 * (mU mm (sendsM X j kd (X 67 (20 * (j : Int) + 0)) (X 67 (20 * (j : Int) + 1)) v vr 1) - mm)); omega⟩) (fun C1 H locs hC1 hZ => ?_)
  exact z_vret F hr hlocks hZ (Sim_send hM hC1.1 hC1.2) dX5_send_29 (by omega) (by omega)

theorem mX5_vote_25 : Cond.fieldLink RX5 25 "LockedChain$Seat" "step" "I" ∈ wsX5_vote := by decide +kernel
set_option maxHeartbeats 4000000 in
set_option maxRecDepth 100000 in
theorem k_X5_vote (l : Launch) (w : zW) (A : Nat → Prop) (hA : ∀ i, i < 64 ∨ 71 ≤ i → A (w.2.1 + i)) (mm : Nat) (G X : zM) (hM : Sim G X mm) (hI : Inv X) (j : Nat) (hj0 : (j : Int) < X 64 0) (hh : X 67 (20 * (j : Int) + 0) ≤ 5) (kd v : Int) (hk : 0 ≤ kd ∧ kd ≤ 2) (hv : -1 ≤ v ∧ v ≤ 99) : Met l yX5_vote wsX5_vote { frames := 4, cells := (mU mm (castsM X j kd v) - mm), slots := (8 * (mU mm (castsM X j kd v) - mm)), locals := 85 } (zPre w (dC mm) (w.2.1 + (71 + mm)) G [.ref (w.2.1 + (6)), .ref (w.2.1 + (8 + 8 * j)), .int (zI (kd)), .int (zI (v))]) (zQv w (dC (mU mm (castsM X j kd v))) (w.2.1 + (71 + mU mm (castsM X j kd v))) (fun C => Sim C (castsM X j kd v) (mU mm (castsM X j kd v))) A) ((mU mm (castsM X j kd v) - mm)) ((8 * (mU mm (castsM X j kd v) - mm))) A := by
  refine Met.ofW (cc := cX5_vote) (maxL := 4) (ret := none) (by decide) rfl ?_
  intro p e s m args below meth c s₁ B hml hv
  obtain ⟨rfl, hsz, hP, hK⟩ := hv
  have F : CallFix p m c cX5_vote 4 s _ wsX5_vote RX5 := ⟨B.exec, B.bytes, hml, findClass_of_methodNamed B.named, atoms_spec (ws := wsX5_vote) B.pre⟩
  have hr := B.returns
  have hlocks := B.notSynchronized
  have hZ : Zs w (dC mm) A s.heap (w.2.1 + (71 + mm)) G s.heap [] := ⟨hsz, hP, va_S.rf⟩
  have hl := lv_entry ([.ref (w.2.1 + (6)), .ref (w.2.1 + (8 + 8 * j)), .int (zI (kd)), .int (zI (v))]) (n := 4) (Nat.le_of_ble_eq_true rfl)
  rw [lg_entry_eq]
  generalize (lg_sl ([.ref (w.2.1 + (6)), .ref (w.2.1 + (8 + 8 * j)), .int (zI (kd)), .int (zI (v))]) ++ List.replicate (4 - (lg_sl ([.ref (w.2.1 + (6)), .ref (w.2.1 + (8 + 8 * j)), .int (zI (kd)), .int (zI (v))])).length) Slot.unset).toArray = ls at hl ⊢
  have hl : lv_has ls 4 [(0, .ref (w.2.1 + (6))), (1, .ref (w.2.1 + (8 + 8 * j))), (2, .int (zI (kd))), (3, .int (zI (v)))] := hl
  have hin6 : ∀ v ∈ u_ws RX6 TX6 15, v ∈ wsX5_vote := by decide +kernel
  have hn := hI.1
  have hLL := hI.2.2.2.1
  have hj : j < 7 := by omega
  have hS : PostS G X mm := hM.1
  obtain ⟨hS1, hS2, hS3, hS4, hS5⟩ := hM.1
  have hC0 := hM.2.1
  have sf := Sim_f hM hj
  have sr := seat_rng hI (s := (j : Int)) (by omega)
  have hu := mU_c mm (castsM X j kd v)
  refine z_aload_n F dX5_vote_0 rfl (lv_at hl 0 rfl) ?_
  refine z_aload_n F dX5_vote_1 rfl (lv_at hl 1 rfl) ?_
  refine z_iload_n F dX5_vote_2 rfl (lv_at hl 2 rfl) ?_
  refine z_iload_n F dX5_vote_3 rfl (lv_at hl 3 rfl) ?_
  refine z_iconst F dX5_vote_4 ?_
  have hsx : castsM X j kd v = setM (sendsM X j kd (X 67 (20 * (j : Int) + 0)) (X 67 (20 * (j : Int) + 1)) v (-1) 1) j 2 kd := rfl
  have hue : mU mm (sendsM X j kd (X 67 (20 * (j : Int) + 0)) (X 67 (20 * (j : Int) + 1)) v (-1) 1) = mU mm (castsM X j kd v) := by rw [hsx, mU_set]
  have huC1 := mU_c mm (sendsM X j kd (X 67 (20 * (j : Int) + 0)) (X 67 (20 * (j : Int) + 1)) v (-1) 1)
  refine z_backv hZ (va_runV (As := [.ref (w.2.1 + (8 + 8 * j)), .int (zI (kd)), .int (zI (v)), .int (zI (-1))]) (rest := []) F (k_X5_send l w A hA mm G X hM hI j (by omega) (by omega) kd v (-1) (by omega) (by omega) (by omega)) (cwV 4 F.2.2.2.2 gX5_vote_X5_send rfl rfl rfl (by decide +kernel) ⟨Nat.le_of_ble_eq_true rfl, Nat.le_of_ble_eq_true rfl⟩) (z_preV hK hZ (6) (dC_s (by omega)) rfl (by decide) rfl _) rfl rfl hl.1 rfl (lv_room (Nat.le_of_ble_eq_true rfl)) dX5_vote_5 ⟨by show 0 + (mU mm (sendsM X j kd (X 67 (20 * (j : Int) + 0)) (X 67 (20 * (j : Int) + 1)) v (-1) 1) - mm) ≤ (mU mm (castsM X j kd v) - mm); omega, by show 0 + (8 * (mU mm (sendsM X j kd (X 67 (20 * (j : Int) + 0)) (X 67 (20 * (j : Int) + 1)) v (-1) 1) - mm)) ≤ (8 * (mU mm (castsM X j kd v) - mm)); omega⟩) (fun C1 H locs hC1 hZ => ?_)
  refine z_aload_n F dX5_vote_8 rfl (lv_at hl 1 rfl) ?_
  refine z_iload_n F dX5_vote_9 rfl (lv_at hl 2 rfl) ?_
  refine z_put (z := kd) F hK hZ (dC_A hA) (8 + 8 * j) (dC_s (by omega)) (shp_seat j hj) (by decide) rfl hin6 tyX6 tyX6_ok nmX6 4 (by decide) mX5_vote_25 rfl rfl rfl rfl (by omega) (kz := 4) rfl rfl (Nat.le_of_ble_eq_true rfl) dX5_vote_10 (fun H locs hZ => ?_)
  have hfin : Sim (up C1 (8 + 8 * j) (4) (kd)) (castsM X j kd v) (mU mm (castsM X j kd v)) := by rw [← hue, hsx]; exact Sim_step hC1 hj
  rw [hue] at hZ
  exact z_vret F hr hlocks hZ hfin dX5_vote_13 (by omega) (by omega)

theorem mX5_start_9 : Cond.fieldLink RX5 9 "LockedChain$Rules" "council" "LLockedChain$Council;" ∈ wsX5_start := by decide +kernel
theorem mX5_start_40 : Cond.fieldLink RX5 40 "LockedChain$Seat" "isStale" "Z" ∈ wsX5_start := by decide +kernel
theorem mX5_start_48 : Cond.fieldLink RX5 48 "LockedChain$Seat" "height" "I" ∈ wsX5_start := by decide +kernel
theorem mX5_start_57 : Cond.fieldLink RX5 57 "LockedChain$Seat" "number" "I" ∈ wsX5_start := by decide +kernel
theorem mX5_start_63 : Cond.fieldLink RX5 63 "LockedChain$Seat" "valid" "LLockedChain$Mark;" ∈ wsX5_start := by decide +kernel
theorem mX5_start_81 : Cond.fieldLink RX5 81 "LockedChain$Mark" "value" "I" ∈ wsX5_start := by decide +kernel
theorem mX5_start_84 : Cond.fieldLink RX5 84 "LockedChain$Mark" "round" "I" ∈ wsX5_start := by decide +kernel
set_option maxHeartbeats 4000000 in
set_option maxRecDepth 100000 in
theorem k_X5_start (l : Launch) (w : zW) (A : Nat → Prop) (hA : ∀ i, i < 64 ∨ 71 ≤ i → A (w.2.1 + i)) (mm : Nat) (G X : zM) (hM : Sim G X mm) (hI : Inv X) (j : Nat) (hj0 : (j : Int) < X 64 0) (hh : X 67 (20 * (j : Int) + 0) ≤ 5) (r : Int) (hro : 0 ≤ r ∧ r ≤ 10) : Met l yX5_start wsX5_start { frames := 4, cells := (mU mm (startsM X j r) - mm), slots := (8 * (mU mm (startsM X j r) - mm)), locals := 85 } (zPre w (dC mm) (w.2.1 + (71 + mm)) G [.ref (w.2.1 + (6)), .ref (w.2.1 + (8 + 8 * j)), .int (zI (r))]) (zQv w (dC (mU mm (startsM X j r))) (w.2.1 + (71 + mU mm (startsM X j r))) (fun C => Sim C (startsM X j r) (mU mm (startsM X j r))) A) ((mU mm (startsM X j r) - mm)) ((8 * (mU mm (startsM X j r) - mm))) A := by
  refine Met.ofW (cc := cX5_start) (maxL := 3) (ret := none) (by decide) rfl ?_
  intro p e s m args below meth c s₁ B hml hv
  obtain ⟨rfl, hsz, hP, hK⟩ := hv
  have F : CallFix p m c cX5_start 3 s _ wsX5_start RX5 := ⟨B.exec, B.bytes, hml, findClass_of_methodNamed B.named, atoms_spec (ws := wsX5_start) B.pre⟩
  have hr := B.returns
  have hlocks := B.notSynchronized
  have hZ : Zs w (dC mm) A s.heap (w.2.1 + (71 + mm)) G s.heap [] := ⟨hsz, hP, va_S.rf⟩
  have hl := lv_entry ([.ref (w.2.1 + (6)), .ref (w.2.1 + (8 + 8 * j)), .int (zI (r))]) (n := 3) (Nat.le_of_ble_eq_true rfl)
  rw [lg_entry_eq]
  generalize (lg_sl ([.ref (w.2.1 + (6)), .ref (w.2.1 + (8 + 8 * j)), .int (zI (r))]) ++ List.replicate (3 - (lg_sl ([.ref (w.2.1 + (6)), .ref (w.2.1 + (8 + 8 * j)), .int (zI (r))])).length) Slot.unset).toArray = ls at hl ⊢
  have hl : lv_has ls 3 [(0, .ref (w.2.1 + (6))), (1, .ref (w.2.1 + (8 + 8 * j))), (2, .int (zI (r)))] := hl
  have hin3 : ∀ v ∈ u_ws RX3 TX3 2, v ∈ wsX5_start := by decide +kernel
  have hin5 : ∀ v ∈ u_ws RX5 TX5 2, v ∈ wsX5_start := by decide +kernel
  have hin6 : ∀ v ∈ u_ws RX6 TX6 15, v ∈ wsX5_start := by decide +kernel
  have hn := hI.1
  have hLL := hI.2.2.2.1
  have hj : j < 7 := by omega
  have hS : PostS G X mm := hM.1
  obtain ⟨hS1, hS2, hS3, hS4, hS5⟩ := hM.1
  have hC0 := hM.2.1
  have sf := Sim_f hM hj
  have sr := seat_rng hI (s := (j : Int)) (by omega)
  have hu := mU_c mm (startsM X j r)
  refine z_iload_n F dX5_start_0 rfl (lv_at hl 2 rfl) ?_
  refine z_bipush F (by decide) dX5_start_1 ?_
  refine z_icmp_lt (tgt := 12) F (by omega) (by omega) dX5_start_3 (by decide) (fun c_3 => ?_) (fun c_3 => ?_)
  · skip
    refine z_aload_n F dX5_start_12 rfl (lv_at hl 1 rfl) ?_
    refine z_iload_n F dX5_start_13 rfl (lv_at hl 2 rfl) ?_
    refine z_bxv hZ (va_runV (As := [.int (zI (r))]) (rest := []) F (k_X6_enter l w (dC mm) A (dC_A hA) (w.2.1 + (71 + mm)) G (fun i h => dC_s h) j hj r (by omega)) (cwV 1 F.2.2.2.2 gX5_start_X6_enter rfl rfl rfl (by decide +kernel) ⟨Nat.le_of_ble_eq_true rfl, Nat.le_of_ble_eq_true rfl⟩) (z_preV hK hZ (8 + 8 * j) (dC_s (by omega)) (shp_seat j hj) (by decide) rfl _) rfl rfl hl.1 rfl (lv_room (Nat.le_of_ble_eq_true rfl)) dX5_start_14 ⟨by show 0 + (0) ≤ (mU mm (startsM X j r) - mm); omega, by show 0 + (0) ≤ (8 * (mU mm (startsM X j r) - mm)); omega⟩) (fun H locs hZ => ?_)
    obtain ⟨G1, hG1⟩ : ∃ q : zM, q = cEnter G j r := ⟨_, rfl⟩
    obtain ⟨X1, hX1⟩ : ∃ q : zM, q = enterM X j r := ⟨_, rfl⟩
    have hM1 : Sim G1 X1 mm := by rw [hG1, hX1]; exact Sim_enter hM hj
    have hI1 : Inv X1 := by rw [hX1]; exact (Nx_enter hI (by omega) (by omega)).1
    rw [← hG1] at hZ
    have sf1 := Sim_f hM1 hj
    have hC01 := hM1.2.1
    have h64 : X1 64 = X 64 := by rw [hX1, enterM_64]
    have hh1 : X1 67 (20 * (j : Int) + 0) ≤ 5 := by rw [hX1, enterM_ne _ _ _ _ ⟨by omega, by omega, by omega, by omega, by omega⟩]; exact hh
    have hr1 : X1 67 (20 * (j : Int) + 1) = r := by rw [hX1, enterM_1]
    have h640 : X1 64 0 = X 64 0 := by rw [h64]
    have h647 : X1 64 7 = X 64 7 := by rw [h64]
    have sr1 := seat_rng hI1 (s := (j : Int)) (by omega)
    have hn1 : 4 ≤ X1 64 0 ∧ X1 64 0 ≤ 7 := by omega
    refine z_aload_n F dX5_start_17 rfl (lv_at hl 0 rfl) ?_
    refine z_get F hK hZ (6) (dC_s (by omega)) rfl (by decide) rfl hin5 0 (by decide) mX5_start_9 rfl rfl dX5_start_18 ?_
    refine z_aload_n F dX5_start_21 rfl (lv_at hl 1 rfl) ?_
    refine z_get F hK hZ (8 + 8 * j) (dC_s (by omega)) (shp_seat j hj) (by decide) rfl hin6 2 (by decide) mX5_start_48 rfl rfl dX5_start_22 ?_
    have r_1 := hZ.2.1.1 (8 + 8 * j) (2)
    refine z_topI (show G1 (8 + 8 * j) 2 = X1 67 (20 * (j : Int) + 0) from sf1.2.2.1) ?_
    refine z_iload_n F dX5_start_25 rfl (lv_at hl 2 rfl) ?_
    refine z_bxi hZ (va_runV (As := [.int (zI (X1 67 (20 * (j : Int) + 0))), .int (zI (r))]) (rest := []) F (k_X1_proposer l w (dC mm) A (dC_A hA) (w.2.1 + (71 + mm)) G1 (fun i h => dC_s h) (by omega) (X1 67 (20 * (j : Int) + 0)) r (by omega) (by omega)) (cwV 2 F.2.2.2.2 gX5_start_X1_proposer rfl rfl rfl (by decide +kernel) ⟨Nat.le_of_ble_eq_true rfl, Nat.le_of_ble_eq_true rfl⟩) (z_preV hK hZ (1) (dC_s (by omega)) rfl (by decide) rfl _) rfl rfl hl.1 rfl (lv_room (Nat.le_of_ble_eq_true rfl)) dX5_start_26 ⟨by show 0 + 0 + (0) ≤ (mU mm (startsM X j r) - mm); omega, by show 0 + 0 + (0) ≤ (8 * (mU mm (startsM X j r) - mm)); omega⟩) (fun H locs hZ => ?_)
    refine z_topI (show (X1 67 (20 * (j : Int) + 0) + r) % G1 1 0 = (X1 67 (20 * (j : Int) + 0) + r) % X1 64 0 from by rw [hC01.2.2]) ?_
    have r_2 := mod_rng (X1 67 (20 * (j : Int) + 0) + r) hn1
    refine z_aload_n F dX5_start_29 rfl (lv_at hl 1 rfl) ?_
    refine z_get F hK hZ (8 + 8 * j) (dC_s (by omega)) (shp_seat j hj) (by decide) rfl hin6 0 (by decide) mX5_start_57 rfl rfl dX5_start_30 ?_
    have r_3 := hZ.2.1.1 (8 + 8 * j) (0)
    refine z_topI (show G1 (8 + 8 * j) 0 = (j : Int) from sf1.1) ?_
    refine z_icmp_eq (tgt := 44) F (by omega) (by omega) dX5_start_33 (by decide) (fun c_33 => ?_) (fun c_33 => ?_)
    · skip
      refine z_aload_n F dX5_start_44 rfl (lv_at hl 1 rfl) ?_
      refine z_get F hK hZ (8 + 8 * j) (dC_s (by omega)) (shp_seat j hj) (by decide) rfl hin6 11 (by decide) mX5_start_63 rfl rfl dX5_start_45 ?_
      refine z_bxi hZ (va_runV (As := []) (rest := []) F (k_X3_isNone l w (dC mm) A (dC_A hA) (w.2.1 + (71 + mm)) G1 (8 + 8 * j + 2) (dC_s (by omega)) (shp_valid j hj)) (cwV 0 F.2.2.2.2 gX5_start_X3_isNone rfl rfl rfl (by decide +kernel) ⟨Nat.le_of_ble_eq_true rfl, Nat.le_of_ble_eq_true rfl⟩) (z_preV hK hZ (8 + 8 * j + 2) (dC_s (by omega)) (shp_valid j hj) (by decide) rfl _) rfl rfl hl.1 rfl (lv_room (Nat.le_of_ble_eq_true rfl)) dX5_start_48 ⟨by show 0 + 0 + 0 + (0) ≤ (mU mm (startsM X j r) - mm); omega, by show 0 + 0 + 0 + (0) ≤ (8 * (mU mm (startsM X j r) - mm)); omega⟩) (fun H locs hZ => ?_)
      refine z_ifB_eq (tgt := 68) F dX5_start_51 (by decide) (fun c_51 => ?_) (fun c_51 => ?_)
      · skip
        have hv1 := (Sim_vl hM1 hj).resolve_left (fun z => c_51 z.2.1)
        have hv6 := (hI1.2.2.2.2.1 (j : Int) (by omega) (by omega)).1.2.2.2.2.2.2.2.1 hv1.1
        refine z_aload_n F dX5_start_68 rfl (lv_at hl 0 rfl) ?_
        refine z_aload_n F dX5_start_69 rfl (lv_at hl 1 rfl) ?_
        refine z_iconst F dX5_start_70 ?_
        refine z_aload_n F dX5_start_71 rfl (lv_at hl 1 rfl) ?_
        refine z_get F hK hZ (8 + 8 * j) (dC_s (by omega)) (shp_seat j hj) (by decide) rfl hin6 11 (by decide) mX5_start_63 rfl rfl dX5_start_72 ?_
        refine z_get F hK hZ (8 + 8 * j + 2) (dC_s (by omega)) (shp_valid j hj) (by decide) rfl hin3 0 (by decide) mX5_start_81 rfl rfl dX5_start_75 ?_
        have r_4 := hZ.2.1.1 (8 + 8 * j + 2) (0)
        refine z_topI (show G1 (8 + 8 * j + 2) 0 = X1 67 (20 * (j : Int) + 5) from hv1.2.1) ?_
        refine z_aload_n F dX5_start_78 rfl (lv_at hl 1 rfl) ?_
        refine z_get F hK hZ (8 + 8 * j) (dC_s (by omega)) (shp_seat j hj) (by decide) rfl hin6 11 (by decide) mX5_start_63 rfl rfl dX5_start_79 ?_
        refine z_get F hK hZ (8 + 8 * j + 2) (dC_s (by omega)) (shp_valid j hj) (by decide) rfl hin3 1 (by decide) mX5_start_84 rfl rfl dX5_start_82 ?_
        have r_5 := hZ.2.1.1 (8 + 8 * j + 2) (1)
        refine z_topI (show G1 (8 + 8 * j + 2) 1 = X1 67 (20 * (j : Int) + 6) from hv1.2.2) ?_
        have hst : startsM X j r = (sendsM X1 j 0 (X1 67 (20 * (j : Int) + 0)) (X1 67 (20 * (j : Int) + 1)) (X1 67 (20 * (j : Int) + 5)) (X1 67 (20 * (j : Int) + 6)) 1) := by rw [hX1]; exact starts_c (by omega) (by rw [← hX1]; exact c_33) (by rw [← hX1]; exact hv1.1)
        have hue : mU mm (sendsM X1 j 0 (X1 67 (20 * (j : Int) + 0)) (X1 67 (20 * (j : Int) + 1)) (X1 67 (20 * (j : Int) + 5)) (X1 67 (20 * (j : Int) + 6)) 1) = mU mm (startsM X j r) := by rw [hst]
        have huC1 := mU_c mm (sendsM X1 j 0 (X1 67 (20 * (j : Int) + 0)) (X1 67 (20 * (j : Int) + 1)) (X1 67 (20 * (j : Int) + 5)) (X1 67 (20 * (j : Int) + 6)) 1)
        refine z_backv hZ (va_runV (As := [.ref (w.2.1 + (8 + 8 * j)), .int (zI (0)), .int (zI (X1 67 (20 * (j : Int) + 5))), .int (zI (X1 67 (20 * (j : Int) + 6)))]) (rest := []) F (k_X5_send l w A hA mm G1 X1 hM1 hI1 j (by omega) (by omega) 0 (X1 67 (20 * (j : Int) + 5)) (X1 67 (20 * (j : Int) + 6)) (by omega) (by omega) (by omega)) (cwV 4 F.2.2.2.2 gX5_start_X5_send rfl rfl rfl (by decide +kernel) ⟨Nat.le_of_ble_eq_true rfl, Nat.le_of_ble_eq_true rfl⟩) (z_preV hK hZ (6) (dC_s (by omega)) rfl (by decide) rfl _) rfl rfl hl.1 rfl (lv_room (Nat.le_of_ble_eq_true rfl)) dX5_start_85 ⟨by show 0 + 0 + 0 + 0 + (mU mm (sendsM X1 j 0 (X1 67 (20 * (j : Int) + 0)) (X1 67 (20 * (j : Int) + 1)) (X1 67 (20 * (j : Int) + 5)) (X1 67 (20 * (j : Int) + 6)) 1) - mm) ≤ (mU mm (startsM X j r) - mm); omega, by show 0 + 0 + 0 + 0 + (8 * (mU mm (sendsM X1 j 0 (X1 67 (20 * (j : Int) + 0)) (X1 67 (20 * (j : Int) + 1)) (X1 67 (20 * (j : Int) + 5)) (X1 67 (20 * (j : Int) + 6)) 1) - mm)) ≤ (8 * (mU mm (startsM X j r) - mm)); omega⟩) (fun C1 H locs hC1 hZ => ?_)
        have hfin : Sim C1 (startsM X j r) (mU mm (startsM X j r)) := by rw [hst]; exact hC1
        rw [hue] at hZ
        exact z_vret F hr hlocks hZ hfin dX5_start_88 (by omega) (by omega)
      · skip
        have hv1 : X1 67 (20 * (j : Int) + 5) < 0 := (Sim_vl hM1 hj).elim (fun z => z.1) (fun z => by omega)
        refine z_aload_n F dX5_start_54 rfl (lv_at hl 0 rfl) ?_
        refine z_aload_n F dX5_start_55 rfl (lv_at hl 1 rfl) ?_
        refine z_iconst F dX5_start_56 ?_
        refine z_aload_n F dX5_start_57 rfl (lv_at hl 1 rfl) ?_
        refine z_bxi hZ (va_runV (As := []) (rest := [.int (zI (0)), .ref (w.2.1 + (8 + 8 * j)), .ref (w.2.1 + (6))]) F (k_X6_leastRightValue l w (dC mm) A (dC_A hA) (w.2.1 + (71 + mm)) G1 (fun i h => dC_s h) j hj) (cwV 0 F.2.2.2.2 gX5_start_X6_leastRightValue rfl rfl rfl (by decide +kernel) ⟨Nat.le_of_ble_eq_true rfl, Nat.le_of_ble_eq_true rfl⟩) (z_preV hK hZ (8 + 8 * j) (dC_s (by omega)) (shp_seat j hj) (by decide) rfl _) rfl rfl hl.1 rfl (lv_room (Nat.le_of_ble_eq_true rfl)) dX5_start_58 ⟨by show 0 + 0 + 0 + 0 + (0) ≤ (mU mm (startsM X j r) - mm); omega, by show 0 + 0 + 0 + 0 + (0) ≤ (8 * (mU mm (startsM X j r) - mm)); omega⟩) (fun H locs hZ => ?_)
        refine z_topI (least_eq hM1 hj) ?_
        have hlr := leastV_rng X1 j
        refine z_iconst F dX5_start_61 ?_
        have hst : startsM X j r = (sendsM X1 j 0 (X1 67 (20 * (j : Int) + 0)) (X1 67 (20 * (j : Int) + 1)) (leastV X1 (j : Int)) (-1) 1) := by rw [hX1]; exact starts_d (by omega) (by rw [← hX1]; exact c_33) (by rw [← hX1]; omega)
        have hue : mU mm (sendsM X1 j 0 (X1 67 (20 * (j : Int) + 0)) (X1 67 (20 * (j : Int) + 1)) (leastV X1 (j : Int)) (-1) 1) = mU mm (startsM X j r) := by rw [hst]
        have huC2 := mU_c mm (sendsM X1 j 0 (X1 67 (20 * (j : Int) + 0)) (X1 67 (20 * (j : Int) + 1)) (leastV X1 (j : Int)) (-1) 1)
        refine z_backv hZ (va_runV (As := [.ref (w.2.1 + (8 + 8 * j)), .int (zI (0)), .int (zI (leastV X1 (j : Int))), .int (zI (-1))]) (rest := []) F (k_X5_send l w A hA mm G1 X1 hM1 hI1 j (by omega) (by omega) 0 (leastV X1 (j : Int)) (-1) (by omega) (by omega) (by omega)) (cwV 4 F.2.2.2.2 gX5_start_X5_send rfl rfl rfl (by decide +kernel) ⟨Nat.le_of_ble_eq_true rfl, Nat.le_of_ble_eq_true rfl⟩) (z_preV hK hZ (6) (dC_s (by omega)) rfl (by decide) rfl _) rfl rfl hl.1 rfl (lv_room (Nat.le_of_ble_eq_true rfl)) dX5_start_62 ⟨by show 0 + 0 + 0 + 0 + 0 + (mU mm (sendsM X1 j 0 (X1 67 (20 * (j : Int) + 0)) (X1 67 (20 * (j : Int) + 1)) (leastV X1 (j : Int)) (-1) 1) - mm) ≤ (mU mm (startsM X j r) - mm); omega, by show 0 + 0 + 0 + 0 + 0 + (8 * (mU mm (sendsM X1 j 0 (X1 67 (20 * (j : Int) + 0)) (X1 67 (20 * (j : Int) + 1)) (leastV X1 (j : Int)) (-1) 1) - mm)) ≤ (8 * (mU mm (startsM X j r) - mm)); omega⟩) (fun C2 H locs hC2 hZ => ?_)
        refine lv_goto (tgt := 88) F.1 F.2.1 dX5_start_65 (by decide) ?_
        have hfin : Sim C2 (startsM X j r) (mU mm (startsM X j r)) := by rw [hst]; exact hC2
        rw [hue] at hZ
        exact z_vret F hr hlocks hZ hfin dX5_start_88 (by omega) (by omega)
    · skip
      refine z_aload_n F dX5_start_36 rfl (lv_at hl 1 rfl) ?_
      refine z_iconst F dX5_start_37 ?_
      have hs2 := Sim_timer hM1 (k := 0) hj (by omega)
      refine z_bxv hZ (va_runV (As := [.int (zI (0))]) (rest := []) F (k_X6_set l w (dC mm) A (dC_A hA) (w.2.1 + (71 + mm)) G1 (fun i h => dC_s h) j hj (by omega) (by omega) 0 (by omega)) (cwV 1 F.2.2.2.2 gX5_start_X6_set rfl rfl rfl (by decide +kernel) ⟨Nat.le_of_ble_eq_true rfl, Nat.le_of_ble_eq_true rfl⟩) (z_preV hK hZ (8 + 8 * j) (dC_s (by omega)) (shp_seat j hj) (by decide) rfl _) rfl rfl hl.1 rfl (lv_room (Nat.le_of_ble_eq_true rfl)) dX5_start_38 ⟨by show 0 + 0 + 0 + (0) ≤ (mU mm (startsM X j r) - mm); omega, by show 0 + 0 + 0 + (0) ≤ (8 * (mU mm (startsM X j r) - mm)); omega⟩) (fun H locs hZ => ?_)
      refine lv_goto (tgt := 88) F.1 F.2.1 dX5_start_41 (by decide) ?_
      have hst : startsM X j r = setTimerM X1 j 0 := by rw [hX1]; exact starts_b (by omega) (by rw [← hX1]; exact c_33)
      have hue : mm = mU mm (startsM X j r) := by rw [hst, mU_self (by rw [setTimerM_64]; omega)]
      have hfin : Sim (up G1 (8 + 8 * j + 7) 0 (cMom G1 j)) (startsM X j r) (mU mm (startsM X j r)) := by rw [← hue, hst]; exact hs2
      rw [hue] at hZ
      exact z_vret F hr hlocks hZ hfin dX5_start_88 (by omega) (by omega)
  · skip
    refine z_aload_n F dX5_start_6 rfl (lv_at hl 1 rfl) ?_
    refine z_iconst F dX5_start_7 ?_
    refine z_put (z := 1) F hK hZ (dC_A hA) (8 + 8 * j) (dC_s (by omega)) (shp_seat j hj) (by decide) rfl hin6 tyX6 tyX6_ok nmX6 5 (by decide) mX5_start_40 rfl rfl rfl rfl (by omega) (kz := 5) rfl rfl (Nat.le_of_ble_eq_true rfl) dX5_start_8 (fun H locs hZ => ?_)
    have hst : startsM X j r = setM X j 7 1 := starts_a (by omega)
    have hue : mm = mU mm (startsM X j r) := by rw [hst, mU_set, mU_self (by omega)]
    have hfin : Sim (up G (8 + 8 * j) (5) (1)) (startsM X j r) (mU mm (startsM X j r)) := by rw [← hue, hst]; exact Sim_stale hM hj
    rw [hue] at hZ
    exact z_vret F hr hlocks hZ hfin dX5_start_11 (by omega) (by omega)
