theorem mX6_init_12 : Cond.fieldLink RX6 12 "LockedChain$Seat" "locked" "LLockedChain$Mark;" ∈ wsX6_init := by decide +kernel
theorem mX6_init_18 : Cond.fieldLink RX6 18 "LockedChain$Seat" "valid" "LLockedChain$Mark;" ∈ wsX6_init := by decide +kernel
theorem mX6_init_24 : Cond.fieldLink RX6 24 "LockedChain$Seat" "chain" "LLockedChain$Chain;" ∈ wsX6_init := by decide +kernel
theorem mX6_init_28 : Cond.fieldLink RX6 28 "LockedChain$Seat" "held" "[Z" ∈ wsX6_init := by decide +kernel
theorem mX6_init_32 : Cond.fieldLink RX6 32 "LockedChain$Seat" "timers" "[I" ∈ wsX6_init := by decide +kernel
theorem mX6_init_36 : Cond.fieldLink RX6 36 "LockedChain$Seat" "number" "I" ∈ wsX6_init := by decide +kernel
set_option maxHeartbeats 4000000 in
set_option maxRecDepth 100000 in
theorem k_X6_init (l : Launch) (w : zW) (j : Nat) (hj : j < 7) : Met l yX6_init wsX6_init { frames := 3, cells := 7, slots := 121, locals := 64 } (xPre w (8 + 8 * j + 1) (xu x0 (8 + 8 * j) (.inr (6, [.int 0, .int 0, .int 0, .int 0, .int 0, .int 0, .int 0, .int 0, .int 0, .int 0, .null, .null, .null, .null, .null]))) [.ref (w.2.1 + (8 + 8 * j)), .int (zI ((j : Int)))]) (xQv w (8 + 8 * j + 8) (xz w (8 + 8 * j) (8 + 8 * j + 8) (cClr (zS0 j) j)) (aN w (8 + 8 * j) (8 + 8 * j + 1))) 7 121 (aN w (8 + 8 * j) (8 + 8 * j + 1)) := by
  refine Met.ofW (cc := cX6_init) (maxL := 2) (ret := none) (by decide) rfl ?_
  intro p e s m args below meth c s₁ B hml hv
  obtain ⟨rfl, hsz, hP, hK⟩ := hv
  have F : CallFix p m c cX6_init 2 s _ wsX6_init RX6 := ⟨B.exec, B.bytes, hml, findClass_of_methodNamed B.named, atoms_spec (ws := wsX6_init) B.pre⟩
  have hinit : meth.name = "<init>" := (name_of_methodNamed B.named B.method).1
  have hr := B.returns
  have hlocks := B.notSynchronized
  have hZ : Xs w (aN w (8 + 8 * j) (8 + 8 * j + 1)) s.heap (8 + 8 * j + 1) (xu x0 (8 + 8 * j) (.inr (6, [.int 0, .int 0, .int 0, .int 0, .int 0, .int 0, .int 0, .int 0, .int 0, .int 0, .null, .null, .null, .null, .null]))) s.heap [] := ⟨hsz, hP, va_S.rf⟩
  have hA : ∀ q, w.2.1 + (8 + 8 * j + 1) ≤ q → aN w (8 + 8 * j) (8 + 8 * j + 1) q := fun q h => Or.inr h
  have hl := lv_entry ([.ref (w.2.1 + (8 + 8 * j)), .int (zI ((j : Int)))]) (n := 2) (Nat.le_of_ble_eq_true rfl)
  rw [lg_entry_eq]
  generalize (lg_sl ([.ref (w.2.1 + (8 + 8 * j)), .int (zI ((j : Int)))]) ++ List.replicate (2 - (lg_sl ([.ref (w.2.1 + (8 + 8 * j)), .int (zI ((j : Int)))])).length) Slot.unset).toArray = ls at hl ⊢
  have hl : lv_has ls 2 [(0, .ref (w.2.1 + (8 + 8 * j))), (1, .int (zI ((j : Int))))] := hl
  have hin0 : ∀ v ∈ u_ws RX0 TX0 2, v ∈ wsX6_init := by decide +kernel
  have hin3 : ∀ v ∈ u_ws RX3 TX3 2, v ∈ wsX6_init := by decide +kernel
  have hin6 : ∀ v ∈ u_ws RX6 TX6 15, v ∈ wsX6_init := by decide +kernel
  obtain ⟨X1, hX1⟩ : ∃ zz : zX, zz = xu x0 (8 + 8 * j) (.inr (6, [.int 0, .int 0, .int 0, .int 0, .int 0, .int 0, .int 0, .int 0, .int 0, .int 0, .null, .null, .null, .null, .null])) := ⟨_, rfl⟩
  rw [← hX1] at hZ
  have f1_0 : X1 (8 + 8 * j) = some (.inr (6, [.int 0, .int 0, .int 0, .int 0, .int 0, .int 0, .int 0, .int 0, .int 0, .int 0, .null, .null, .null, .null, .null])) := by rw [hX1]; exact xu_at _ _ _
  refine z_aload_n F dX6_init_0 rfl (lv_at hl 0 rfl) ?_
  refine W.objInit F.1 F.2.1 F.2.2.2.1 (F.2.2.2.2 (.methodLink RX6 3 objectInit) (by decide +kernel)) (F.2.2.2.2 (.instanceMethod objectInit) (by decide +kernel)) (F.2.2.2.2 (.code objectInit ⟨#[0xb1]⟩ 1 none) (by decide +kernel)) rfl (by rw [F.2.2.1]; exact hl.1) rfl dX6_init_1 (Nat.le_of_ble_eq_true rfl) (Nat.le_of_ble_eq_true rfl) ?_
  refine z_aload_n F dX6_init_4 rfl (lv_at hl 0 rfl) ?_
  refine x_new F hK hZ (k := 3) (N := 2) (C := RX3) (T := TX3) rfl tyX3 tyX3_ok (by decide +kernel) (by decide +kernel) (by decide +kernel) hin3 [.int 0, .int 0] (fun j hj => by rcases (show j = 0 ∨ j = 1 by omega) with rfl | rfl <;> rfl) (Nat.le_of_ble_eq_true rfl) (Nat.le_of_ble_eq_true rfl) dX6_init_5 (fun H hZ => ?_)
  obtain ⟨X2, hX2⟩ : ∃ zz : zX, zz = xu X1 (8 + 8 * j + 1) (.inr (3, [.int 0, .int 0])) := ⟨_, rfl⟩
  rw [← hX2] at hZ
  have f2_1 : X2 (8 + 8 * j + 1) = some (.inr (3, [.int 0, .int 0])) := by rw [hX2]; exact xu_at _ _ _
  have f2_0 : X2 (8 + 8 * j) = some (.inr (6, [.int 0, .int 0, .int 0, .int 0, .int 0, .int 0, .int 0, .int 0, .int 0, .int 0, .null, .null, .null, .null, .null])) := by rw [hX2]; exact (xu_ne _ _ (by omega)).trans f1_0
  refine lv_dup F.1 F.2.1 dX6_init_8 rfl ?_
  refine x_back hZ (i := 8 + 8 * j + 1) (hA _ (by omega)) (fun z hz => hA z (by omega)) ⟨_, xu_at _ _ _⟩ (va_runIN (As := []) (rest := [.ref (w.2.1 + (8 + 8 * j + 1)), .ref (w.2.1 + (8 + 8 * j))]) F (k_X3_init l w (8 + 8 * j + 1) (8 + 8 * j + 2)) ⟨va_cnB 0 F.2.2.2.2 gX6_init_X3_init_n11 rfl rfl rfl hK.2.1.2.2.1 (F.2.2.2.2 (.initialized RX3) (by decide +kernel)) (by decide +kernel) ⟨Nat.le_of_ble_eq_true rfl, Nat.le_of_ble_eq_true rfl⟩, rfl, F.2.2.2.2 (.instanceMethod yX3_init) (by decide +kernel)⟩ (x_preS hK hZ f2_1 _) rfl rfl hl.1 rfl (lv_room (Nat.le_of_ble_eq_true rfl)) dX6_init_9 ⟨Nat.le_of_ble_eq_true rfl, Nat.le_of_ble_eq_true rfl⟩) (fun H locs hZ => ?_)
  obtain ⟨X3, hX3⟩ : ∃ zz : zX, zz = xj X2 (xu (x0) (8 + 8 * j + 1) (.inr (3, [.int (zI (-4)), .int (zI (-4))]))) := ⟨_, rfl⟩
  rw [← hX3] at hZ
  have f3_1 : X3 (8 + 8 * j + 1) = some (.inr (3, [.int (zI (-4)), .int (zI (-4))])) := by rw [hX3]; exact xj_y (xu_at _ _ _)
  have f3_0 : X3 (8 + 8 * j) = some (.inr (6, [.int 0, .int 0, .int 0, .int 0, .int 0, .int 0, .int 0, .int 0, .int 0, .int 0, .null, .null, .null, .null, .null])) := by rw [hX3]; exact xj_x ((xu_ne _ _ (by omega)).trans (rfl)) f2_0
  refine x_putF F hK hZ (8 + 8 * j) (Or.inl rfl) (k := 6) (fs := [.int 0, .int 0, .int 0, .int 0, .int 0, .int 0, .int 0, .int 0, .int 0, .int 0, .null, .null, .null, .null, .null]) f3_0 (C := RX6) (T := TX6) (N := 15) rfl hin6 tyX6 tyX6_ok nmX6 10 (by decide) mX6_init_12 rfl rfl hinit rfl rfl rfl (Nat.le_of_ble_eq_true rfl) dX6_init_12 (fun H locs hZ => ?_)
  have hZ : Xs w (aN w (8 + 8 * j) (8 + 8 * j + 1)) s.heap (8 + 8 * j + 2) (xu X3 (8 + 8 * j) (.inr (6, [.int 0, .int 0, .int 0, .int 0, .int 0, .int 0, .int 0, .int 0, .int 0, .int 0, .ref (w.2.1 + (8 + 8 * j + 1)), .null, .null, .null, .null]))) H locs := hZ
  obtain ⟨X4, hX4⟩ : ∃ zz : zX, zz = xu X3 (8 + 8 * j) (.inr (6, [.int 0, .int 0, .int 0, .int 0, .int 0, .int 0, .int 0, .int 0, .int 0, .int 0, .ref (w.2.1 + (8 + 8 * j + 1)), .null, .null, .null, .null])) := ⟨_, rfl⟩
  rw [← hX4] at hZ
  have f4_0 : X4 (8 + 8 * j) = some (.inr (6, [.int 0, .int 0, .int 0, .int 0, .int 0, .int 0, .int 0, .int 0, .int 0, .int 0, .ref (w.2.1 + (8 + 8 * j + 1)), .null, .null, .null, .null])) := by rw [hX4]; exact xu_at _ _ _
  have f4_1 : X4 (8 + 8 * j + 1) = some (.inr (3, [.int (zI (-4)), .int (zI (-4))])) := by rw [hX4]; exact (xu_ne _ _ (by omega)).trans f3_1
  refine z_aload_n F dX6_init_15 rfl (lv_at hl 0 rfl) ?_
  refine x_new F hK hZ (k := 3) (N := 2) (C := RX3) (T := TX3) rfl tyX3 tyX3_ok (by decide +kernel) (by decide +kernel) (by decide +kernel) hin3 [.int 0, .int 0] (fun j hj => by rcases (show j = 0 ∨ j = 1 by omega) with rfl | rfl <;> rfl) (Nat.le_of_ble_eq_true rfl) (Nat.le_of_ble_eq_true rfl) dX6_init_16 (fun H hZ => ?_)
  obtain ⟨X5, hX5⟩ : ∃ zz : zX, zz = xu X4 (8 + 8 * j + 2) (.inr (3, [.int 0, .int 0])) := ⟨_, rfl⟩
  rw [← hX5] at hZ
  have f5_2 : X5 (8 + 8 * j + 2) = some (.inr (3, [.int 0, .int 0])) := by rw [hX5]; exact xu_at _ _ _
  have f5_0 : X5 (8 + 8 * j) = some (.inr (6, [.int 0, .int 0, .int 0, .int 0, .int 0, .int 0, .int 0, .int 0, .int 0, .int 0, .ref (w.2.1 + (8 + 8 * j + 1)), .null, .null, .null, .null])) := by rw [hX5]; exact (xu_ne _ _ (by omega)).trans f4_0
  have f5_1 : X5 (8 + 8 * j + 1) = some (.inr (3, [.int (zI (-4)), .int (zI (-4))])) := by rw [hX5]; exact (xu_ne _ _ (by omega)).trans f4_1
  refine lv_dup F.1 F.2.1 dX6_init_19 rfl ?_
  refine x_back hZ (i := 8 + 8 * j + 2) (hA _ (by omega)) (fun z hz => hA z (by omega)) ⟨_, xu_at _ _ _⟩ (va_runIN (As := []) (rest := [.ref (w.2.1 + (8 + 8 * j + 2)), .ref (w.2.1 + (8 + 8 * j))]) F (k_X3_init l w (8 + 8 * j + 2) (8 + 8 * j + 3)) ⟨va_cnB 0 F.2.2.2.2 gX6_init_X3_init_n11 rfl rfl rfl hK.2.1.2.2.1 (F.2.2.2.2 (.initialized RX3) (by decide +kernel)) (by decide +kernel) ⟨Nat.le_of_ble_eq_true rfl, Nat.le_of_ble_eq_true rfl⟩, rfl, F.2.2.2.2 (.instanceMethod yX3_init) (by decide +kernel)⟩ (x_preS hK hZ f5_2 _) rfl rfl hl.1 rfl (lv_room (Nat.le_of_ble_eq_true rfl)) dX6_init_20 ⟨Nat.le_of_ble_eq_true rfl, Nat.le_of_ble_eq_true rfl⟩) (fun H locs hZ => ?_)
  obtain ⟨X6, hX6⟩ : ∃ zz : zX, zz = xj X5 (xu (x0) (8 + 8 * j + 2) (.inr (3, [.int (zI (-4)), .int (zI (-4))]))) := ⟨_, rfl⟩
  rw [← hX6] at hZ
  have f6_2 : X6 (8 + 8 * j + 2) = some (.inr (3, [.int (zI (-4)), .int (zI (-4))])) := by rw [hX6]; exact xj_y (xu_at _ _ _)
  have f6_0 : X6 (8 + 8 * j) = some (.inr (6, [.int 0, .int 0, .int 0, .int 0, .int 0, .int 0, .int 0, .int 0, .int 0, .int 0, .ref (w.2.1 + (8 + 8 * j + 1)), .null, .null, .null, .null])) := by rw [hX6]; exact xj_x ((xu_ne _ _ (by omega)).trans (rfl)) f5_0
  have f6_1 : X6 (8 + 8 * j + 1) = some (.inr (3, [.int (zI (-4)), .int (zI (-4))])) := by rw [hX6]; exact xj_x ((xu_ne _ _ (by omega)).trans (rfl)) f5_1
  refine x_putF F hK hZ (8 + 8 * j) (Or.inl rfl) (k := 6) (fs := [.int 0, .int 0, .int 0, .int 0, .int 0, .int 0, .int 0, .int 0, .int 0, .int 0, .ref (w.2.1 + (8 + 8 * j + 1)), .null, .null, .null, .null]) f6_0 (C := RX6) (T := TX6) (N := 15) rfl hin6 tyX6 tyX6_ok nmX6 11 (by decide) mX6_init_18 rfl rfl hinit rfl rfl rfl (Nat.le_of_ble_eq_true rfl) dX6_init_23 (fun H locs hZ => ?_)
  have hZ : Xs w (aN w (8 + 8 * j) (8 + 8 * j + 1)) s.heap (8 + 8 * j + 3) (xu X6 (8 + 8 * j) (.inr (6, [.int 0, .int 0, .int 0, .int 0, .int 0, .int 0, .int 0, .int 0, .int 0, .int 0, .ref (w.2.1 + (8 + 8 * j + 1)), .ref (w.2.1 + (8 + 8 * j + 2)), .null, .null, .null]))) H locs := hZ
  obtain ⟨X7, hX7⟩ : ∃ zz : zX, zz = xu X6 (8 + 8 * j) (.inr (6, [.int 0, .int 0, .int 0, .int 0, .int 0, .int 0, .int 0, .int 0, .int 0, .int 0, .ref (w.2.1 + (8 + 8 * j + 1)), .ref (w.2.1 + (8 + 8 * j + 2)), .null, .null, .null])) := ⟨_, rfl⟩
  rw [← hX7] at hZ
  have f7_0 : X7 (8 + 8 * j) = some (.inr (6, [.int 0, .int 0, .int 0, .int 0, .int 0, .int 0, .int 0, .int 0, .int 0, .int 0, .ref (w.2.1 + (8 + 8 * j + 1)), .ref (w.2.1 + (8 + 8 * j + 2)), .null, .null, .null])) := by rw [hX7]; exact xu_at _ _ _
  have f7_1 : X7 (8 + 8 * j + 1) = some (.inr (3, [.int (zI (-4)), .int (zI (-4))])) := by rw [hX7]; exact (xu_ne _ _ (by omega)).trans f6_1
  have f7_2 : X7 (8 + 8 * j + 2) = some (.inr (3, [.int (zI (-4)), .int (zI (-4))])) := by rw [hX7]; exact (xu_ne _ _ (by omega)).trans f6_2
  refine z_aload_n F dX6_init_26 rfl (lv_at hl 0 rfl) ?_
  refine x_new F hK hZ (k := 0) (N := 2) (C := RX0) (T := TX0) rfl tyX0 tyX0_ok (by decide +kernel) (by decide +kernel) (by decide +kernel) hin0 [.null, .null] (fun j hj => by rcases (show j = 0 ∨ j = 1 by omega) with rfl | rfl <;> rfl) (Nat.le_of_ble_eq_true rfl) (Nat.le_of_ble_eq_true rfl) dX6_init_27 (fun H hZ => ?_)
  obtain ⟨X8, hX8⟩ : ∃ zz : zX, zz = xu X7 (8 + 8 * j + 3) (.inr (0, [.null, .null])) := ⟨_, rfl⟩
  rw [← hX8] at hZ
  have f8_3 : X8 (8 + 8 * j + 3) = some (.inr (0, [.null, .null])) := by rw [hX8]; exact xu_at _ _ _
  have f8_0 : X8 (8 + 8 * j) = some (.inr (6, [.int 0, .int 0, .int 0, .int 0, .int 0, .int 0, .int 0, .int 0, .int 0, .int 0, .ref (w.2.1 + (8 + 8 * j + 1)), .ref (w.2.1 + (8 + 8 * j + 2)), .null, .null, .null])) := by rw [hX8]; exact (xu_ne _ _ (by omega)).trans f7_0
  have f8_1 : X8 (8 + 8 * j + 1) = some (.inr (3, [.int (zI (-4)), .int (zI (-4))])) := by rw [hX8]; exact (xu_ne _ _ (by omega)).trans f7_1
  have f8_2 : X8 (8 + 8 * j + 2) = some (.inr (3, [.int (zI (-4)), .int (zI (-4))])) := by rw [hX8]; exact (xu_ne _ _ (by omega)).trans f7_2
  refine lv_dup F.1 F.2.1 dX6_init_30 rfl ?_
  refine x_back hZ (i := 8 + 8 * j + 3) (hA _ (by omega)) (fun z hz => hA z (by omega)) ⟨_, (xu_ne _ _ (by omega)).trans ((xu_ne _ _ (by omega)).trans (xu_at _ _ _))⟩ (va_runIN (As := []) (rest := [.ref (w.2.1 + (8 + 8 * j + 3)), .ref (w.2.1 + (8 + 8 * j))]) F (k_X0_init l w (8 + 8 * j + 3) (8 + 8 * j + 4) (by omega)) ⟨va_cnB 0 F.2.2.2.2 gX6_init_X0_init_n23 rfl rfl rfl hK.2.1.2.2.2 (F.2.2.2.2 (.initialized RX0) (by decide +kernel)) (by decide +kernel) ⟨Nat.le_of_ble_eq_true rfl, Nat.le_of_ble_eq_true rfl⟩, rfl, F.2.2.2.2 (.instanceMethod yX0_init) (by decide +kernel)⟩ (x_preS hK hZ f8_3 _) rfl rfl hl.1 rfl (lv_room (Nat.le_of_ble_eq_true rfl)) dX6_init_31 ⟨Nat.le_of_ble_eq_true rfl, Nat.le_of_ble_eq_true rfl⟩) (fun H locs hZ => ?_)
  obtain ⟨X9, hX9⟩ : ∃ zz : zX, zz = xj X8 (xu (xu (xu (x0) (8 + 8 * j + 3) (.inr (0, [.ref (w.2.1 + (8 + 8 * j + 4)), .ref (w.2.1 + (8 + 8 * j + 4 + 1))]))) (8 + 8 * j + 4) (.inl (w.2.2.1, 6, .inl (fun _ => 0)))) (8 + 8 * j + 4 + 1) (.inl (w.2.2.1, 6, .inl (fun _ => 0)))) := ⟨_, rfl⟩
  rw [← hX9] at hZ
  have f9_3 : X9 (8 + 8 * j + 3) = some (.inr (0, [.ref (w.2.1 + (8 + 8 * j + 4)), .ref (w.2.1 + (8 + 8 * j + 4 + 1))])) := by rw [hX9]; exact xj_y ((xu_ne _ _ (by omega)).trans ((xu_ne _ _ (by omega)).trans (xu_at _ _ _)))
  have f9_4 : X9 (8 + 8 * j + 4) = some (.inl (w.2.2.1, 6, .inl (fun _ => 0))) := by rw [hX9]; exact xj_y ((xu_ne _ _ (by omega)).trans (xu_at _ _ _))
  have f9_5 : X9 (8 + 8 * j + 5) = some (.inl (w.2.2.1, 6, .inl (fun _ => 0))) := by rw [hX9]; exact xj_y (xu_at _ _ _)
  have f9_0 : X9 (8 + 8 * j) = some (.inr (6, [.int 0, .int 0, .int 0, .int 0, .int 0, .int 0, .int 0, .int 0, .int 0, .int 0, .ref (w.2.1 + (8 + 8 * j + 1)), .ref (w.2.1 + (8 + 8 * j + 2)), .null, .null, .null])) := by rw [hX9]; exact xj_x ((xu_ne _ _ (by omega)).trans ((xu_ne _ _ (by omega)).trans ((xu_ne _ _ (by omega)).trans (rfl)))) f8_0
  have f9_1 : X9 (8 + 8 * j + 1) = some (.inr (3, [.int (zI (-4)), .int (zI (-4))])) := by rw [hX9]; exact xj_x ((xu_ne _ _ (by omega)).trans ((xu_ne _ _ (by omega)).trans ((xu_ne _ _ (by omega)).trans (rfl)))) f8_1
  have f9_2 : X9 (8 + 8 * j + 2) = some (.inr (3, [.int (zI (-4)), .int (zI (-4))])) := by rw [hX9]; exact xj_x ((xu_ne _ _ (by omega)).trans ((xu_ne _ _ (by omega)).trans ((xu_ne _ _ (by omega)).trans (rfl)))) f8_2
  refine x_putF F hK hZ (8 + 8 * j) (Or.inl rfl) (k := 6) (fs := [.int 0, .int 0, .int 0, .int 0, .int 0, .int 0, .int 0, .int 0, .int 0, .int 0, .ref (w.2.1 + (8 + 8 * j + 1)), .ref (w.2.1 + (8 + 8 * j + 2)), .null, .null, .null]) f9_0 (C := RX6) (T := TX6) (N := 15) rfl hin6 tyX6 tyX6_ok nmX6 12 (by decide) mX6_init_24 rfl rfl hinit rfl rfl rfl (Nat.le_of_ble_eq_true rfl) dX6_init_34 (fun H locs hZ => ?_)
  have hZ : Xs w (aN w (8 + 8 * j) (8 + 8 * j + 1)) s.heap (8 + 8 * j + 6) (xu X9 (8 + 8 * j) (.inr (6, [.int 0, .int 0, .int 0, .int 0, .int 0, .int 0, .int 0, .int 0, .int 0, .int 0, .ref (w.2.1 + (8 + 8 * j + 1)), .ref (w.2.1 + (8 + 8 * j + 2)), .ref (w.2.1 + (8 + 8 * j + 3)), .null, .null]))) H locs := hZ
  obtain ⟨X10, hX10⟩ : ∃ zz : zX, zz = xu X9 (8 + 8 * j) (.inr (6, [.int 0, .int 0, .int 0, .int 0, .int 0, .int 0, .int 0, .int 0, .int 0, .int 0, .ref (w.2.1 + (8 + 8 * j + 1)), .ref (w.2.1 + (8 + 8 * j + 2)), .ref (w.2.1 + (8 + 8 * j + 3)), .null, .null])) := ⟨_, rfl⟩
  rw [← hX10] at hZ
  have f10_0 : X10 (8 + 8 * j) = some (.inr (6, [.int 0, .int 0, .int 0, .int 0, .int 0, .int 0, .int 0, .int 0, .int 0, .int 0, .ref (w.2.1 + (8 + 8 * j + 1)), .ref (w.2.1 + (8 + 8 * j + 2)), .ref (w.2.1 + (8 + 8 * j + 3)), .null, .null])) := by rw [hX10]; exact xu_at _ _ _
  have f10_1 : X10 (8 + 8 * j + 1) = some (.inr (3, [.int (zI (-4)), .int (zI (-4))])) := by rw [hX10]; exact (xu_ne _ _ (by omega)).trans f9_1
  have f10_2 : X10 (8 + 8 * j + 2) = some (.inr (3, [.int (zI (-4)), .int (zI (-4))])) := by rw [hX10]; exact (xu_ne _ _ (by omega)).trans f9_2
  have f10_3 : X10 (8 + 8 * j + 3) = some (.inr (0, [.ref (w.2.1 + (8 + 8 * j + 4)), .ref (w.2.1 + (8 + 8 * j + 4 + 1))])) := by rw [hX10]; exact (xu_ne _ _ (by omega)).trans f9_3
  have f10_4 : X10 (8 + 8 * j + 4) = some (.inl (w.2.2.1, 6, .inl (fun _ => 0))) := by rw [hX10]; exact (xu_ne _ _ (by omega)).trans f9_4
  have f10_5 : X10 (8 + 8 * j + 5) = some (.inl (w.2.2.1, 6, .inl (fun _ => 0))) := by rw [hX10]; exact (xu_ne _ _ (by omega)).trans f9_5
  refine z_aload_n F dX6_init_37 rfl (lv_at hl 0 rfl) ?_
  refine z_bipush F (by decide) dX6_init_38 ?_
  refine x_newZ F hK hZ (N := 100) (by decide +kernel) (by omega) rfl (Nat.le_of_ble_eq_true rfl) (Nat.le_of_ble_eq_true rfl) (Nat.le_of_ble_eq_true rfl) dX6_init_40 (fun H hZ => ?_)
  obtain ⟨X11, hX11⟩ : ∃ zz : zX, zz = xu X10 (8 + 8 * j + 6) (.inl (w.2.2.2.1, 100, .inl (fun _ => 0))) := ⟨_, rfl⟩
  rw [← hX11] at hZ
  have f11_6 : X11 (8 + 8 * j + 6) = some (.inl (w.2.2.2.1, 100, .inl (fun _ => 0))) := by rw [hX11]; exact xu_at _ _ _
  have f11_0 : X11 (8 + 8 * j) = some (.inr (6, [.int 0, .int 0, .int 0, .int 0, .int 0, .int 0, .int 0, .int 0, .int 0, .int 0, .ref (w.2.1 + (8 + 8 * j + 1)), .ref (w.2.1 + (8 + 8 * j + 2)), .ref (w.2.1 + (8 + 8 * j + 3)), .null, .null])) := by rw [hX11]; exact (xu_ne _ _ (by omega)).trans f10_0
  have f11_1 : X11 (8 + 8 * j + 1) = some (.inr (3, [.int (zI (-4)), .int (zI (-4))])) := by rw [hX11]; exact (xu_ne _ _ (by omega)).trans f10_1
  have f11_2 : X11 (8 + 8 * j + 2) = some (.inr (3, [.int (zI (-4)), .int (zI (-4))])) := by rw [hX11]; exact (xu_ne _ _ (by omega)).trans f10_2
  have f11_3 : X11 (8 + 8 * j + 3) = some (.inr (0, [.ref (w.2.1 + (8 + 8 * j + 4)), .ref (w.2.1 + (8 + 8 * j + 4 + 1))])) := by rw [hX11]; exact (xu_ne _ _ (by omega)).trans f10_3
  have f11_4 : X11 (8 + 8 * j + 4) = some (.inl (w.2.2.1, 6, .inl (fun _ => 0))) := by rw [hX11]; exact (xu_ne _ _ (by omega)).trans f10_4
  have f11_5 : X11 (8 + 8 * j + 5) = some (.inl (w.2.2.1, 6, .inl (fun _ => 0))) := by rw [hX11]; exact (xu_ne _ _ (by omega)).trans f10_5
  refine x_putF F hK hZ (8 + 8 * j) (Or.inl rfl) (k := 6) (fs := [.int 0, .int 0, .int 0, .int 0, .int 0, .int 0, .int 0, .int 0, .int 0, .int 0, .ref (w.2.1 + (8 + 8 * j + 1)), .ref (w.2.1 + (8 + 8 * j + 2)), .ref (w.2.1 + (8 + 8 * j + 3)), .null, .null]) f11_0 (C := RX6) (T := TX6) (N := 15) rfl hin6 tyX6 tyX6_ok nmX6 13 (by decide) mX6_init_28 rfl rfl hinit rfl rfl rfl (Nat.le_of_ble_eq_true rfl) dX6_init_42 (fun H locs hZ => ?_)
  have hZ : Xs w (aN w (8 + 8 * j) (8 + 8 * j + 1)) s.heap (8 + 8 * j + 7) (xu X11 (8 + 8 * j) (.inr (6, [.int 0, .int 0, .int 0, .int 0, .int 0, .int 0, .int 0, .int 0, .int 0, .int 0, .ref (w.2.1 + (8 + 8 * j + 1)), .ref (w.2.1 + (8 + 8 * j + 2)), .ref (w.2.1 + (8 + 8 * j + 3)), .ref (w.2.1 + (8 + 8 * j + 6)), .null]))) H locs := hZ
  obtain ⟨X12, hX12⟩ : ∃ zz : zX, zz = xu X11 (8 + 8 * j) (.inr (6, [.int 0, .int 0, .int 0, .int 0, .int 0, .int 0, .int 0, .int 0, .int 0, .int 0, .ref (w.2.1 + (8 + 8 * j + 1)), .ref (w.2.1 + (8 + 8 * j + 2)), .ref (w.2.1 + (8 + 8 * j + 3)), .ref (w.2.1 + (8 + 8 * j + 6)), .null])) := ⟨_, rfl⟩
  rw [← hX12] at hZ
  have f12_0 : X12 (8 + 8 * j) = some (.inr (6, [.int 0, .int 0, .int 0, .int 0, .int 0, .int 0, .int 0, .int 0, .int 0, .int 0, .ref (w.2.1 + (8 + 8 * j + 1)), .ref (w.2.1 + (8 + 8 * j + 2)), .ref (w.2.1 + (8 + 8 * j + 3)), .ref (w.2.1 + (8 + 8 * j + 6)), .null])) := by rw [hX12]; exact xu_at _ _ _
  have f12_1 : X12 (8 + 8 * j + 1) = some (.inr (3, [.int (zI (-4)), .int (zI (-4))])) := by rw [hX12]; exact (xu_ne _ _ (by omega)).trans f11_1
  have f12_2 : X12 (8 + 8 * j + 2) = some (.inr (3, [.int (zI (-4)), .int (zI (-4))])) := by rw [hX12]; exact (xu_ne _ _ (by omega)).trans f11_2
  have f12_3 : X12 (8 + 8 * j + 3) = some (.inr (0, [.ref (w.2.1 + (8 + 8 * j + 4)), .ref (w.2.1 + (8 + 8 * j + 4 + 1))])) := by rw [hX12]; exact (xu_ne _ _ (by omega)).trans f11_3
  have f12_4 : X12 (8 + 8 * j + 4) = some (.inl (w.2.2.1, 6, .inl (fun _ => 0))) := by rw [hX12]; exact (xu_ne _ _ (by omega)).trans f11_4
  have f12_5 : X12 (8 + 8 * j + 5) = some (.inl (w.2.2.1, 6, .inl (fun _ => 0))) := by rw [hX12]; exact (xu_ne _ _ (by omega)).trans f11_5
  have f12_6 : X12 (8 + 8 * j + 6) = some (.inl (w.2.2.2.1, 100, .inl (fun _ => 0))) := by rw [hX12]; exact (xu_ne _ _ (by omega)).trans f11_6
  refine z_aload_n F dX6_init_45 rfl (lv_at hl 0 rfl) ?_
  refine z_iconst F dX6_init_46 ?_
  refine x_newI F hK hZ (N := 3) (by decide +kernel) (by omega) rfl (Nat.le_of_ble_eq_true rfl) (Nat.le_of_ble_eq_true rfl) (Nat.le_of_ble_eq_true rfl) dX6_init_47 (fun H hZ => ?_)
  obtain ⟨X13, hX13⟩ : ∃ zz : zX, zz = xu X12 (8 + 8 * j + 7) (.inl (w.2.2.1, 3, .inl (fun _ => 0))) := ⟨_, rfl⟩
  rw [← hX13] at hZ
  have f13_7 : X13 (8 + 8 * j + 7) = some (.inl (w.2.2.1, 3, .inl (fun _ => 0))) := by rw [hX13]; exact xu_at _ _ _
  have f13_0 : X13 (8 + 8 * j) = some (.inr (6, [.int 0, .int 0, .int 0, .int 0, .int 0, .int 0, .int 0, .int 0, .int 0, .int 0, .ref (w.2.1 + (8 + 8 * j + 1)), .ref (w.2.1 + (8 + 8 * j + 2)), .ref (w.2.1 + (8 + 8 * j + 3)), .ref (w.2.1 + (8 + 8 * j + 6)), .null])) := by rw [hX13]; exact (xu_ne _ _ (by omega)).trans f12_0
  have f13_1 : X13 (8 + 8 * j + 1) = some (.inr (3, [.int (zI (-4)), .int (zI (-4))])) := by rw [hX13]; exact (xu_ne _ _ (by omega)).trans f12_1
  have f13_2 : X13 (8 + 8 * j + 2) = some (.inr (3, [.int (zI (-4)), .int (zI (-4))])) := by rw [hX13]; exact (xu_ne _ _ (by omega)).trans f12_2
  have f13_3 : X13 (8 + 8 * j + 3) = some (.inr (0, [.ref (w.2.1 + (8 + 8 * j + 4)), .ref (w.2.1 + (8 + 8 * j + 4 + 1))])) := by rw [hX13]; exact (xu_ne _ _ (by omega)).trans f12_3
  have f13_4 : X13 (8 + 8 * j + 4) = some (.inl (w.2.2.1, 6, .inl (fun _ => 0))) := by rw [hX13]; exact (xu_ne _ _ (by omega)).trans f12_4
  have f13_5 : X13 (8 + 8 * j + 5) = some (.inl (w.2.2.1, 6, .inl (fun _ => 0))) := by rw [hX13]; exact (xu_ne _ _ (by omega)).trans f12_5
  have f13_6 : X13 (8 + 8 * j + 6) = some (.inl (w.2.2.2.1, 100, .inl (fun _ => 0))) := by rw [hX13]; exact (xu_ne _ _ (by omega)).trans f12_6
  refine x_putF F hK hZ (8 + 8 * j) (Or.inl rfl) (k := 6) (fs := [.int 0, .int 0, .int 0, .int 0, .int 0, .int 0, .int 0, .int 0, .int 0, .int 0, .ref (w.2.1 + (8 + 8 * j + 1)), .ref (w.2.1 + (8 + 8 * j + 2)), .ref (w.2.1 + (8 + 8 * j + 3)), .ref (w.2.1 + (8 + 8 * j + 6)), .null]) f13_0 (C := RX6) (T := TX6) (N := 15) rfl hin6 tyX6 tyX6_ok nmX6 14 (by decide) mX6_init_32 rfl rfl hinit rfl rfl rfl (Nat.le_of_ble_eq_true rfl) dX6_init_49 (fun H locs hZ => ?_)
  have hZ : Xs w (aN w (8 + 8 * j) (8 + 8 * j + 1)) s.heap (8 + 8 * j + 8) (xu X13 (8 + 8 * j) (.inr (6, [.int 0, .int 0, .int 0, .int 0, .int 0, .int 0, .int 0, .int 0, .int 0, .int 0, .ref (w.2.1 + (8 + 8 * j + 1)), .ref (w.2.1 + (8 + 8 * j + 2)), .ref (w.2.1 + (8 + 8 * j + 3)), .ref (w.2.1 + (8 + 8 * j + 6)), .ref (w.2.1 + (8 + 8 * j + 7))]))) H locs := hZ
  obtain ⟨X14, hX14⟩ : ∃ zz : zX, zz = xu X13 (8 + 8 * j) (.inr (6, [.int 0, .int 0, .int 0, .int 0, .int 0, .int 0, .int 0, .int 0, .int 0, .int 0, .ref (w.2.1 + (8 + 8 * j + 1)), .ref (w.2.1 + (8 + 8 * j + 2)), .ref (w.2.1 + (8 + 8 * j + 3)), .ref (w.2.1 + (8 + 8 * j + 6)), .ref (w.2.1 + (8 + 8 * j + 7))])) := ⟨_, rfl⟩
  rw [← hX14] at hZ
  have f14_0 : X14 (8 + 8 * j) = some (.inr (6, [.int 0, .int 0, .int 0, .int 0, .int 0, .int 0, .int 0, .int 0, .int 0, .int 0, .ref (w.2.1 + (8 + 8 * j + 1)), .ref (w.2.1 + (8 + 8 * j + 2)), .ref (w.2.1 + (8 + 8 * j + 3)), .ref (w.2.1 + (8 + 8 * j + 6)), .ref (w.2.1 + (8 + 8 * j + 7))])) := by rw [hX14]; exact xu_at _ _ _
  have f14_1 : X14 (8 + 8 * j + 1) = some (.inr (3, [.int (zI (-4)), .int (zI (-4))])) := by rw [hX14]; exact (xu_ne _ _ (by omega)).trans f13_1
  have f14_2 : X14 (8 + 8 * j + 2) = some (.inr (3, [.int (zI (-4)), .int (zI (-4))])) := by rw [hX14]; exact (xu_ne _ _ (by omega)).trans f13_2
  have f14_3 : X14 (8 + 8 * j + 3) = some (.inr (0, [.ref (w.2.1 + (8 + 8 * j + 4)), .ref (w.2.1 + (8 + 8 * j + 4 + 1))])) := by rw [hX14]; exact (xu_ne _ _ (by omega)).trans f13_3
  have f14_4 : X14 (8 + 8 * j + 4) = some (.inl (w.2.2.1, 6, .inl (fun _ => 0))) := by rw [hX14]; exact (xu_ne _ _ (by omega)).trans f13_4
  have f14_5 : X14 (8 + 8 * j + 5) = some (.inl (w.2.2.1, 6, .inl (fun _ => 0))) := by rw [hX14]; exact (xu_ne _ _ (by omega)).trans f13_5
  have f14_6 : X14 (8 + 8 * j + 6) = some (.inl (w.2.2.2.1, 100, .inl (fun _ => 0))) := by rw [hX14]; exact (xu_ne _ _ (by omega)).trans f13_6
  have f14_7 : X14 (8 + 8 * j + 7) = some (.inl (w.2.2.1, 3, .inl (fun _ => 0))) := by rw [hX14]; exact (xu_ne _ _ (by omega)).trans f13_7
  refine z_aload_n F dX6_init_52 rfl (lv_at hl 0 rfl) ?_
  refine z_iload_n F dX6_init_53 rfl (lv_at hl 1 rfl) ?_
  refine x_putF F hK hZ (8 + 8 * j) (Or.inl rfl) (k := 6) (fs := [.int 0, .int 0, .int 0, .int 0, .int 0, .int 0, .int 0, .int 0, .int 0, .int 0, .ref (w.2.1 + (8 + 8 * j + 1)), .ref (w.2.1 + (8 + 8 * j + 2)), .ref (w.2.1 + (8 + 8 * j + 3)), .ref (w.2.1 + (8 + 8 * j + 6)), .ref (w.2.1 + (8 + 8 * j + 7))]) f14_0 (C := RX6) (T := TX6) (N := 15) rfl hin6 tyX6 tyX6_ok nmX6 0 (by decide) mX6_init_36 rfl rfl hinit rfl rfl rfl (Nat.le_of_ble_eq_true rfl) dX6_init_54 (fun H locs hZ => ?_)
  have hZ : Xs w (aN w (8 + 8 * j) (8 + 8 * j + 1)) s.heap (8 + 8 * j + 8) (xu X14 (8 + 8 * j) (.inr (6, [.int (zI ((j : Int))), .int 0, .int 0, .int 0, .int 0, .int 0, .int 0, .int 0, .int 0, .int 0, .ref (w.2.1 + (8 + 8 * j + 1)), .ref (w.2.1 + (8 + 8 * j + 2)), .ref (w.2.1 + (8 + 8 * j + 3)), .ref (w.2.1 + (8 + 8 * j + 6)), .ref (w.2.1 + (8 + 8 * j + 7))]))) H locs := hZ
  obtain ⟨X15, hX15⟩ : ∃ zz : zX, zz = xu X14 (8 + 8 * j) (.inr (6, [.int (zI ((j : Int))), .int 0, .int 0, .int 0, .int 0, .int 0, .int 0, .int 0, .int 0, .int 0, .ref (w.2.1 + (8 + 8 * j + 1)), .ref (w.2.1 + (8 + 8 * j + 2)), .ref (w.2.1 + (8 + 8 * j + 3)), .ref (w.2.1 + (8 + 8 * j + 6)), .ref (w.2.1 + (8 + 8 * j + 7))])) := ⟨_, rfl⟩
  rw [← hX15] at hZ
  have f15_0 : X15 (8 + 8 * j) = some (.inr (6, [.int (zI ((j : Int))), .int 0, .int 0, .int 0, .int 0, .int 0, .int 0, .int 0, .int 0, .int 0, .ref (w.2.1 + (8 + 8 * j + 1)), .ref (w.2.1 + (8 + 8 * j + 2)), .ref (w.2.1 + (8 + 8 * j + 3)), .ref (w.2.1 + (8 + 8 * j + 6)), .ref (w.2.1 + (8 + 8 * j + 7))])) := by rw [hX15]; exact xu_at _ _ _
  have f15_1 : X15 (8 + 8 * j + 1) = some (.inr (3, [.int (zI (-4)), .int (zI (-4))])) := by rw [hX15]; exact (xu_ne _ _ (by omega)).trans f14_1
  have f15_2 : X15 (8 + 8 * j + 2) = some (.inr (3, [.int (zI (-4)), .int (zI (-4))])) := by rw [hX15]; exact (xu_ne _ _ (by omega)).trans f14_2
  have f15_3 : X15 (8 + 8 * j + 3) = some (.inr (0, [.ref (w.2.1 + (8 + 8 * j + 4)), .ref (w.2.1 + (8 + 8 * j + 4 + 1))])) := by rw [hX15]; exact (xu_ne _ _ (by omega)).trans f14_3
  have f15_4 : X15 (8 + 8 * j + 4) = some (.inl (w.2.2.1, 6, .inl (fun _ => 0))) := by rw [hX15]; exact (xu_ne _ _ (by omega)).trans f14_4
  have f15_5 : X15 (8 + 8 * j + 5) = some (.inl (w.2.2.1, 6, .inl (fun _ => 0))) := by rw [hX15]; exact (xu_ne _ _ (by omega)).trans f14_5
  have f15_6 : X15 (8 + 8 * j + 6) = some (.inl (w.2.2.2.1, 100, .inl (fun _ => 0))) := by rw [hX15]; exact (xu_ne _ _ (by omega)).trans f14_6
  have f15_7 : X15 (8 + 8 * j + 7) = some (.inl (w.2.2.1, 3, .inl (fun _ => 0))) := by rw [hX15]; exact (xu_ne _ _ (by omega)).trans f14_7
  have hZ : Zs w (fun i => 8 + 8 * j ≤ i ∧ i < 8 + 8 * j + 8) (aN w (8 + 8 * j) (8 + 8 * j + 1)) s.heap (w.2.1 + (8 + 8 * j + 8)) (zS0 j) H locs := Xs_Zs hZ (zS0_rng hj) (fun i hi => by
    rcases (show i = 8 + 8 * j ∨ i = 8 + 8 * j + 1 ∨ i = 8 + 8 * j + 2 ∨ i = 8 + 8 * j + 3 ∨ i = 8 + 8 * j + 4 ∨ i = 8 + 8 * j + 5 ∨ i = 8 + 8 * j + 6 ∨ i = 8 + 8 * j + 7 by omega) with rfl | rfl | rfl | rfl | rfl | rfl | rfl | rfl
    · rw [f15_0, zE_of (shp_seat j hj)]; exact congrArg some (zS0_0 w j)
    · rw [f15_1, zE_of (shp_lock j hj)]; exact congrArg some (zS0_1 w j)
    · rw [f15_2, zE_of (shp_valid j hj)]; exact congrArg some (zS0_2 w j)
    · rw [f15_3, zE_of (shp_chain j hj)]; exact congrArg some (zS0_3 w j)
    · rw [f15_4, zE_of (shp_vals j hj)]; exact congrArg some (zS0_4 w j)
    · rw [f15_5, zE_of (shp_rnds j hj)]; exact congrArg some (zS0_5 w j)
    · rw [f15_6, zE_of (shp_held j hj)]; exact congrArg some (zS0_6 w j)
    · rw [f15_7, zE_of (shp_tims j hj)]; exact congrArg some (zS0_7 w j))
  refine z_aload_n F dX6_init_57 rfl (lv_at hl 0 rfl) ?_
  refine z_bxv hZ (va_runV (As := []) (rest := []) F (w_X6_clear l w (fun i => 8 + 8 * j ≤ i ∧ i < 8 + 8 * j + 8) (aN w (8 + 8 * j) (8 + 8 * j + 1)) (zS0_A w j) (w.2.1 + (8 + 8 * j + 8)) (zS0 j) j hj (fun i h => h)) (cwV 0 F.2.2.2.2 gX6_init_X6_clear rfl rfl rfl (by decide +kernel) ⟨Nat.le_of_ble_eq_true rfl, Nat.le_of_ble_eq_true rfl⟩) (z_preV hK.1 hZ (8 + 8 * j) ⟨by omega, by omega⟩ (shp_seat j hj) (by decide) rfl _) rfl rfl hl.1 rfl (lv_room (Nat.le_of_ble_eq_true rfl)) dX6_init_58 ⟨Nat.le_of_ble_eq_true rfl, Nat.le_of_ble_eq_true rfl⟩) (fun H locs hZ => ?_)
  exact x_vret F hr hlocks (Zs_Xs hZ) (fun j e h => h) dX6_init_61 (Nat.le_of_ble_eq_true rfl) (Nat.le_of_ble_eq_true rfl)
