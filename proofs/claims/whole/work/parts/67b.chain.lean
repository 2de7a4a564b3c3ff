theorem mX7_init_10 : Cond.fieldLink RX7 10 "LockedChain" "council" "LLockedChain$Council;" ∈ wsX7_init := by decide +kernel
theorem mX7_init_19 : Cond.fieldLink RX7 19 "LockedChain" "post" "LLockedChain$Post;" ∈ wsX7_init := by decide +kernel
theorem mX7_init_28 : Cond.fieldLink RX7 28 "LockedChain" "rules" "LLockedChain$Rules;" ∈ wsX7_init := by decide +kernel
theorem mX7_init_34 : Cond.fieldLink RX7 34 "LockedChain" "table" "[LLockedChain$Seat;" ∈ wsX7_init := by decide +kernel
theorem mX7_init_41 : Cond.fieldLink RX7 41 "LockedChain" "begun" "Z" ∈ wsX7_init := by decide +kernel
theorem mX7_init_45 : Cond.fieldLink RX7 45 "LockedChain" "seatings" "I" ∈ wsX7_init := by decide +kernel
set_option maxHeartbeats 4000000 in
set_option maxRecDepth 100000 in
theorem k_X7_init (l : Launch) (w : zW)  : Met l yX7_init wsX7_init { frames := 4, cells := 63, slots := 1726, locals := 85 } (xPre w (1) (xu x0 (0) (.inr (7, [.null, .null, .null, .null, .int 0, .int 0]))) [.ref (w.2.1 + (0))]) (xQv w (64) (xz w 0 64 (LG 7)) (aN w (0) (1))) 63 1726 (aN w (0) (1)) := by
  refine Met.ofW (cc := cX7_init) (maxL := 2) (ret := none) (by decide) rfl ?_
  intro p e s m args below meth c s₁ B hml hv
  obtain ⟨rfl, hsz, hP, hK⟩ := hv
  have F : CallFix p m c cX7_init 2 s _ wsX7_init RX7 := ⟨B.exec, B.bytes, hml, findClass_of_methodNamed B.named, atoms_spec (ws := wsX7_init) B.pre⟩
  have hinit : meth.name = "<init>" := (name_of_methodNamed B.named B.method).1
  have hr := B.returns
  have hlocks := B.notSynchronized
  have hZ : Xs w (aN w (0) (1)) s.heap (1) (xu x0 (0) (.inr (7, [.null, .null, .null, .null, .int 0, .int 0]))) s.heap [] := ⟨hsz, hP, va_S.rf⟩
  have hA : ∀ q, w.2.1 + (1) ≤ q → aN w (0) (1) q := fun q h => Or.inr h
  have hl := lv_entry ([.ref (w.2.1 + (0))]) (n := 2) (Nat.le_of_ble_eq_true rfl)
  rw [lg_entry_eq]
  generalize (lg_sl ([.ref (w.2.1 + (0))]) ++ List.replicate (2 - (lg_sl ([.ref (w.2.1 + (0))])).length) Slot.unset).toArray = ls at hl ⊢
  have hl : lv_has ls 2 [(0, .ref (w.2.1 + (0)))] := hl
  have hin1 : ∀ v ∈ u_ws RX1 TX1 1, v ∈ wsX7_init := by decide +kernel
  have hin4 : ∀ v ∈ u_ws RX4 TX4 4, v ∈ wsX7_init := by decide +kernel
  have hin5 : ∀ v ∈ u_ws RX5 TX5 2, v ∈ wsX7_init := by decide +kernel
  have hin6 : ∀ v ∈ u_ws RX6 TX6 15, v ∈ wsX7_init := by decide +kernel
  have hin7 : ∀ v ∈ u_ws RX7 TX7 6, v ∈ wsX7_init := by decide +kernel
  obtain ⟨X1, hX1⟩ : ∃ zz : zX, zz = xu x0 (0) (.inr (7, [.null, .null, .null, .null, .int 0, .int 0])) := ⟨_, rfl⟩
  rw [← hX1] at hZ
  have f1_0 : X1 (0) = some (.inr (7, [.null, .null, .null, .null, .int 0, .int 0])) := by rw [hX1]; exact xu_at _ _ _
  refine z_aload_n F dX7_init_0 rfl (lv_at hl 0 rfl) ?_
  refine W.objInit F.1 F.2.1 F.2.2.2.1 (F.2.2.2.2 (.methodLink RX7 1 objectInit) (by decide +kernel)) (F.2.2.2.2 (.instanceMethod objectInit) (by decide +kernel)) (F.2.2.2.2 (.code objectInit ⟨#[0xb1]⟩ 1 none) (by decide +kernel)) rfl (by rw [F.2.2.1]; exact hl.1) rfl dX7_init_1 (Nat.le_of_ble_eq_true rfl) (Nat.le_of_ble_eq_true rfl) ?_
  refine z_aload_n F dX7_init_4 rfl (lv_at hl 0 rfl) ?_
  refine x_new F hK hZ (k := 1) (N := 1) (C := RX1) (T := TX1) rfl tyX1 tyX1_ok (by decide +kernel) (by decide +kernel) (by decide +kernel) hin1 [.int 0] (fun j hj => by rw [show j = 0 by omega]; rfl) (Nat.le_of_ble_eq_true rfl) (Nat.le_of_ble_eq_true rfl) dX7_init_5 (fun H hZ => ?_)
  obtain ⟨X2, hX2⟩ : ∃ zz : zX, zz = xu X1 (1) (.inr (1, [.int 0])) := ⟨_, rfl⟩
  rw [← hX2] at hZ
  have f2_1 : X2 (1) = some (.inr (1, [.int 0])) := by rw [hX2]; exact xu_at _ _ _
  have f2_0 : X2 (0) = some (.inr (7, [.null, .null, .null, .null, .int 0, .int 0])) := by rw [hX2]; exact (xu_ne _ _ (by omega)).trans f1_0
  refine lv_dup F.1 F.2.1 dX7_init_8 rfl ?_
  refine x_back hZ (i := 1) (hA _ (by omega)) (fun z hz => hA z (by omega)) ⟨_, xu_at _ _ _⟩ (va_runIN (As := []) (rest := [.ref (w.2.1 + (1)), .ref (w.2.1 + (0))]) F (k_X1_init l w (1) (2)) ⟨va_cnB 0 F.2.2.2.2 gX7_init_X1_init_n9 rfl rfl rfl hK.2.1.1 (F.2.2.2.2 (.initialized RX1) (by decide +kernel)) (by decide +kernel) ⟨Nat.le_of_ble_eq_true rfl, Nat.le_of_ble_eq_true rfl⟩, rfl, F.2.2.2.2 (.instanceMethod yX1_init) (by decide +kernel)⟩ (x_preS hK hZ f2_1 _) rfl rfl hl.1 rfl (lv_room (Nat.le_of_ble_eq_true rfl)) dX7_init_9 ⟨Nat.le_of_ble_eq_true rfl, Nat.le_of_ble_eq_true rfl⟩) (fun H locs hZ => ?_)
  obtain ⟨X3, hX3⟩ : ∃ zz : zX, zz = xj X2 (xu (x0) (1) (.inr (1, [.int (zI (4))]))) := ⟨_, rfl⟩
  rw [← hX3] at hZ
  have f3_1 : X3 (1) = some (.inr (1, [.int (zI (4))])) := by rw [hX3]; exact xj_y (xu_at _ _ _)
  have f3_0 : X3 (0) = some (.inr (7, [.null, .null, .null, .null, .int 0, .int 0])) := by rw [hX3]; exact xj_x ((xu_ne _ _ (by omega)).trans (rfl)) f2_0
  refine x_putF F hK hZ (0) (Or.inl rfl) (k := 7) (fs := [.null, .null, .null, .null, .int 0, .int 0]) f3_0 (C := RX7) (T := TX7) (N := 6) rfl hin7 tyX7 tyX7_ok nmX7 0 (by decide) mX7_init_10 rfl rfl hinit rfl rfl rfl (Nat.le_of_ble_eq_true rfl) dX7_init_12 (fun H locs hZ => ?_)
  have hZ : Xs w (aN w (0) (1)) s.heap (2) (xu X3 (0) (.inr (7, [.ref (w.2.1 + (1)), .null, .null, .null, .int 0, .int 0]))) H locs := hZ
  obtain ⟨X4, hX4⟩ : ∃ zz : zX, zz = xu X3 (0) (.inr (7, [.ref (w.2.1 + (1)), .null, .null, .null, .int 0, .int 0])) := ⟨_, rfl⟩
  rw [← hX4] at hZ
  have f4_0 : X4 (0) = some (.inr (7, [.ref (w.2.1 + (1)), .null, .null, .null, .int 0, .int 0])) := by rw [hX4]; exact xu_at _ _ _
  have f4_1 : X4 (1) = some (.inr (1, [.int (zI (4))])) := by rw [hX4]; exact (xu_ne _ _ (by omega)).trans f3_1
  refine z_aload_n F dX7_init_15 rfl (lv_at hl 0 rfl) ?_
  refine x_new F hK hZ (k := 4) (N := 4) (C := RX4) (T := TX4) rfl tyX4 tyX4_ok (by decide +kernel) (by decide +kernel) (by decide +kernel) hin4 [.null, .null, .null, .int 0] (fun j hj => by rcases (show j = 0 ∨ j = 1 ∨ j = 2 ∨ j = 3 by omega) with rfl | rfl | rfl | rfl <;> rfl) (Nat.le_of_ble_eq_true rfl) (Nat.le_of_ble_eq_true rfl) dX7_init_16 (fun H hZ => ?_)
  obtain ⟨X5, hX5⟩ : ∃ zz : zX, zz = xu X4 (2) (.inr (4, [.null, .null, .null, .int 0])) := ⟨_, rfl⟩
  rw [← hX5] at hZ
  have f5_2 : X5 (2) = some (.inr (4, [.null, .null, .null, .int 0])) := by rw [hX5]; exact xu_at _ _ _
  have f5_0 : X5 (0) = some (.inr (7, [.ref (w.2.1 + (1)), .null, .null, .null, .int 0, .int 0])) := by rw [hX5]; exact (xu_ne _ _ (by omega)).trans f4_0
  have f5_1 : X5 (1) = some (.inr (1, [.int (zI (4))])) := by rw [hX5]; exact (xu_ne _ _ (by omega)).trans f4_1
  refine lv_dup F.1 F.2.1 dX7_init_19 rfl ?_
  refine x_back hZ (i := 2) (hA _ (by omega)) (fun z hz => hA z (by omega)) ⟨_, (xu_ne _ _ (by omega)).trans ((xu_ne _ _ (by omega)).trans ((xu_ne _ _ (by omega)).trans (xu_at _ _ _)))⟩ (va_runIN (As := []) (rest := [.ref (w.2.1 + (2)), .ref (w.2.1 + (0))]) F (k_X4_init l w (2) (3) (by omega)) ⟨va_cnB 0 F.2.2.2.2 gX7_init_X4_init_n18 rfl rfl rfl hK.2.1.2.1 (F.2.2.2.2 (.initialized RX4) (by decide +kernel)) (by decide +kernel) ⟨Nat.le_of_ble_eq_true rfl, Nat.le_of_ble_eq_true rfl⟩, rfl, F.2.2.2.2 (.instanceMethod yX4_init) (by decide +kernel)⟩ (x_preS hK hZ f5_2 _) rfl rfl hl.1 rfl (lv_room (Nat.le_of_ble_eq_true rfl)) dX7_init_20 ⟨Nat.le_of_ble_eq_true rfl, Nat.le_of_ble_eq_true rfl⟩) (fun H locs hZ => ?_)
  obtain ⟨X6, hX6⟩ : ∃ zz : zX, zz = xj X5 (xu (xu (xu (xu (x0) (2) (.inr (4, [.ref (w.2.1 + (3)), .ref (w.2.1 + (4)), .ref (w.2.1 + (5)), .int (zI (0))]))) (3) (.inl (w.2.2.2.2.1, 400, .inr (.inr (.inr (.inr (fun _ => none))))))) (4) (.inl (w.2.2.2.2.1, 180, .inr (.inr (.inr (.inr (fun _ => none))))))) (5) (.inl (w.2.2.2.2.1, 180, .inr (.inr (.inr (.inr (fun _ => none))))))) := ⟨_, rfl⟩
  rw [← hX6] at hZ
  have f6_2 : X6 (2) = some (.inr (4, [.ref (w.2.1 + (3)), .ref (w.2.1 + (4)), .ref (w.2.1 + (5)), .int (zI (0))])) := by rw [hX6]; exact xj_y ((xu_ne _ _ (by omega)).trans ((xu_ne _ _ (by omega)).trans ((xu_ne _ _ (by omega)).trans (xu_at _ _ _))))
  have f6_3 : X6 (3) = some (.inl (w.2.2.2.2.1, 400, .inr (.inr (.inr (.inr (fun _ => none)))))) := by rw [hX6]; exact xj_y ((xu_ne _ _ (by omega)).trans ((xu_ne _ _ (by omega)).trans (xu_at _ _ _)))
  have f6_4 : X6 (4) = some (.inl (w.2.2.2.2.1, 180, .inr (.inr (.inr (.inr (fun _ => none)))))) := by rw [hX6]; exact xj_y ((xu_ne _ _ (by omega)).trans (xu_at _ _ _))
  have f6_5 : X6 (5) = some (.inl (w.2.2.2.2.1, 180, .inr (.inr (.inr (.inr (fun _ => none)))))) := by rw [hX6]; exact xj_y (xu_at _ _ _)
  have f6_0 : X6 (0) = some (.inr (7, [.ref (w.2.1 + (1)), .null, .null, .null, .int 0, .int 0])) := by rw [hX6]; exact xj_x ((xu_ne _ _ (by omega)).trans ((xu_ne _ _ (by omega)).trans ((xu_ne _ _ (by omega)).trans ((xu_ne _ _ (by omega)).trans (rfl))))) f5_0
  have f6_1 : X6 (1) = some (.inr (1, [.int (zI (4))])) := by rw [hX6]; exact xj_x ((xu_ne _ _ (by omega)).trans ((xu_ne _ _ (by omega)).trans ((xu_ne _ _ (by omega)).trans ((xu_ne _ _ (by omega)).trans (rfl))))) f5_1
  refine x_putF F hK hZ (0) (Or.inl rfl) (k := 7) (fs := [.ref (w.2.1 + (1)), .null, .null, .null, .int 0, .int 0]) f6_0 (C := RX7) (T := TX7) (N := 6) rfl hin7 tyX7 tyX7_ok nmX7 1 (by decide) mX7_init_19 rfl rfl hinit rfl rfl rfl (Nat.le_of_ble_eq_true rfl) dX7_init_23 (fun H locs hZ => ?_)
  have hZ : Xs w (aN w (0) (1)) s.heap (6) (xu X6 (0) (.inr (7, [.ref (w.2.1 + (1)), .ref (w.2.1 + (2)), .null, .null, .int 0, .int 0]))) H locs := hZ
  obtain ⟨X7, hX7⟩ : ∃ zz : zX, zz = xu X6 (0) (.inr (7, [.ref (w.2.1 + (1)), .ref (w.2.1 + (2)), .null, .null, .int 0, .int 0])) := ⟨_, rfl⟩
  rw [← hX7] at hZ
  have f7_0 : X7 (0) = some (.inr (7, [.ref (w.2.1 + (1)), .ref (w.2.1 + (2)), .null, .null, .int 0, .int 0])) := by rw [hX7]; exact xu_at _ _ _
  have f7_1 : X7 (1) = some (.inr (1, [.int (zI (4))])) := by rw [hX7]; exact (xu_ne _ _ (by omega)).trans f6_1
  have f7_2 : X7 (2) = some (.inr (4, [.ref (w.2.1 + (3)), .ref (w.2.1 + (4)), .ref (w.2.1 + (5)), .int (zI (0))])) := by rw [hX7]; exact (xu_ne _ _ (by omega)).trans f6_2
  have f7_3 : X7 (3) = some (.inl (w.2.2.2.2.1, 400, .inr (.inr (.inr (.inr (fun _ => none)))))) := by rw [hX7]; exact (xu_ne _ _ (by omega)).trans f6_3
  have f7_4 : X7 (4) = some (.inl (w.2.2.2.2.1, 180, .inr (.inr (.inr (.inr (fun _ => none)))))) := by rw [hX7]; exact (xu_ne _ _ (by omega)).trans f6_4
  have f7_5 : X7 (5) = some (.inl (w.2.2.2.2.1, 180, .inr (.inr (.inr (.inr (fun _ => none)))))) := by rw [hX7]; exact (xu_ne _ _ (by omega)).trans f6_5
  refine z_aload_n F dX7_init_26 rfl (lv_at hl 0 rfl) ?_
  refine x_new F hK hZ (k := 5) (N := 2) (C := RX5) (T := TX5) rfl tyX5 tyX5_ok (by decide +kernel) (by decide +kernel) (by decide +kernel) hin5 [.null, .null] (fun j hj => by rcases (show j = 0 ∨ j = 1 by omega) with rfl | rfl <;> rfl) (Nat.le_of_ble_eq_true rfl) (Nat.le_of_ble_eq_true rfl) dX7_init_27 (fun H hZ => ?_)
  obtain ⟨X8, hX8⟩ : ∃ zz : zX, zz = xu X7 (6) (.inr (5, [.null, .null])) := ⟨_, rfl⟩
  rw [← hX8] at hZ
  have f8_6 : X8 (6) = some (.inr (5, [.null, .null])) := by rw [hX8]; exact xu_at _ _ _
  have f8_0 : X8 (0) = some (.inr (7, [.ref (w.2.1 + (1)), .ref (w.2.1 + (2)), .null, .null, .int 0, .int 0])) := by rw [hX8]; exact (xu_ne _ _ (by omega)).trans f7_0
  have f8_1 : X8 (1) = some (.inr (1, [.int (zI (4))])) := by rw [hX8]; exact (xu_ne _ _ (by omega)).trans f7_1
  have f8_2 : X8 (2) = some (.inr (4, [.ref (w.2.1 + (3)), .ref (w.2.1 + (4)), .ref (w.2.1 + (5)), .int (zI (0))])) := by rw [hX8]; exact (xu_ne _ _ (by omega)).trans f7_2
  have f8_3 : X8 (3) = some (.inl (w.2.2.2.2.1, 400, .inr (.inr (.inr (.inr (fun _ => none)))))) := by rw [hX8]; exact (xu_ne _ _ (by omega)).trans f7_3
  have f8_4 : X8 (4) = some (.inl (w.2.2.2.2.1, 180, .inr (.inr (.inr (.inr (fun _ => none)))))) := by rw [hX8]; exact (xu_ne _ _ (by omega)).trans f7_4
  have f8_5 : X8 (5) = some (.inl (w.2.2.2.2.1, 180, .inr (.inr (.inr (.inr (fun _ => none)))))) := by rw [hX8]; exact (xu_ne _ _ (by omega)).trans f7_5
  refine lv_dup F.1 F.2.1 dX7_init_30 rfl ?_
  refine z_aload_n F dX7_init_31 rfl (lv_at hl 0 rfl) ?_
  refine x_get F hK hZ (0) (k := 7) (fs := [.ref (w.2.1 + (1)), .ref (w.2.1 + (2)), .null, .null, .int 0, .int 0]) f8_0 (C := RX7) (T := TX7) (N := 6) rfl hin7 0 (by decide) mX7_init_10 rfl (v := .ref (w.2.1 + (1))) rfl dX7_init_32 ?_
  refine z_aload_n F dX7_init_35 rfl (lv_at hl 0 rfl) ?_
  refine x_get F hK hZ (0) (k := 7) (fs := [.ref (w.2.1 + (1)), .ref (w.2.1 + (2)), .null, .null, .int 0, .int 0]) f8_0 (C := RX7) (T := TX7) (N := 6) rfl hin7 1 (by decide) mX7_init_19 rfl (v := .ref (w.2.1 + (2))) rfl dX7_init_36 ?_
  refine x_back hZ (i := 6) (hA _ (by omega)) (fun z hz => hA z (by omega)) ⟨_, xu_at _ _ _⟩ (va_runI (As := [.ref (w.2.1 + (1)), .ref (w.2.1 + (2))]) (rest := [.ref (w.2.1 + (6)), .ref (w.2.1 + (0))]) F (k_X5_init l w (6) (7) (1) (2)) (cwI 2 F.2.2.2.2 gX7_init_X5_init rfl rfl rfl (F.2.2.2.2 (.initialized RX5) (by decide +kernel)) (F.2.2.2.2 (.methodLink RX7 25 yX5_init) (by decide +kernel)) (F.2.2.2.2 (.instanceMethod yX5_init) (by decide +kernel)) rfl (by decide +kernel) ⟨Nat.le_of_ble_eq_true rfl, Nat.le_of_ble_eq_true rfl⟩) (x_preS hK hZ f8_6 _) rfl rfl hl.1 rfl (lv_room (Nat.le_of_ble_eq_true rfl)) dX7_init_39 ⟨Nat.le_of_ble_eq_true rfl, Nat.le_of_ble_eq_true rfl⟩) (fun H locs hZ => ?_)
  obtain ⟨X9, hX9⟩ : ∃ zz : zX, zz = xj X8 (xu (x0) (6) (.inr (5, [.ref (w.2.1 + (1)), .ref (w.2.1 + (2))]))) := ⟨_, rfl⟩
  rw [← hX9] at hZ
  have f9_6 : X9 (6) = some (.inr (5, [.ref (w.2.1 + (1)), .ref (w.2.1 + (2))])) := by rw [hX9]; exact xj_y (xu_at _ _ _)
  have f9_0 : X9 (0) = some (.inr (7, [.ref (w.2.1 + (1)), .ref (w.2.1 + (2)), .null, .null, .int 0, .int 0])) := by rw [hX9]; exact xj_x ((xu_ne _ _ (by omega)).trans (rfl)) f8_0
  have f9_1 : X9 (1) = some (.inr (1, [.int (zI (4))])) := by rw [hX9]; exact xj_x ((xu_ne _ _ (by omega)).trans (rfl)) f8_1
  have f9_2 : X9 (2) = some (.inr (4, [.ref (w.2.1 + (3)), .ref (w.2.1 + (4)), .ref (w.2.1 + (5)), .int (zI (0))])) := by rw [hX9]; exact xj_x ((xu_ne _ _ (by omega)).trans (rfl)) f8_2
  have f9_3 : X9 (3) = some (.inl (w.2.2.2.2.1, 400, .inr (.inr (.inr (.inr (fun _ => none)))))) := by rw [hX9]; exact xj_x ((xu_ne _ _ (by omega)).trans (rfl)) f8_3
  have f9_4 : X9 (4) = some (.inl (w.2.2.2.2.1, 180, .inr (.inr (.inr (.inr (fun _ => none)))))) := by rw [hX9]; exact xj_x ((xu_ne _ _ (by omega)).trans (rfl)) f8_4
  have f9_5 : X9 (5) = some (.inl (w.2.2.2.2.1, 180, .inr (.inr (.inr (.inr (fun _ => none)))))) := by rw [hX9]; exact xj_x ((xu_ne _ _ (by omega)).trans (rfl)) f8_5
  refine x_putF F hK hZ (0) (Or.inl rfl) (k := 7) (fs := [.ref (w.2.1 + (1)), .ref (w.2.1 + (2)), .null, .null, .int 0, .int 0]) f9_0 (C := RX7) (T := TX7) (N := 6) rfl hin7 tyX7 tyX7_ok nmX7 2 (by decide) mX7_init_28 rfl rfl hinit rfl rfl rfl (Nat.le_of_ble_eq_true rfl) dX7_init_42 (fun H locs hZ => ?_)
  have hZ : Xs w (aN w (0) (1)) s.heap (7) (xu X9 (0) (.inr (7, [.ref (w.2.1 + (1)), .ref (w.2.1 + (2)), .ref (w.2.1 + (6)), .null, .int 0, .int 0]))) H locs := hZ
  obtain ⟨X10, hX10⟩ : ∃ zz : zX, zz = xu X9 (0) (.inr (7, [.ref (w.2.1 + (1)), .ref (w.2.1 + (2)), .ref (w.2.1 + (6)), .null, .int 0, .int 0])) := ⟨_, rfl⟩
  rw [← hX10] at hZ
  have f10_0 : X10 (0) = some (.inr (7, [.ref (w.2.1 + (1)), .ref (w.2.1 + (2)), .ref (w.2.1 + (6)), .null, .int 0, .int 0])) := by rw [hX10]; exact xu_at _ _ _
  have f10_1 : X10 (1) = some (.inr (1, [.int (zI (4))])) := by rw [hX10]; exact (xu_ne _ _ (by omega)).trans f9_1
  have f10_2 : X10 (2) = some (.inr (4, [.ref (w.2.1 + (3)), .ref (w.2.1 + (4)), .ref (w.2.1 + (5)), .int (zI (0))])) := by rw [hX10]; exact (xu_ne _ _ (by omega)).trans f9_2
  have f10_3 : X10 (3) = some (.inl (w.2.2.2.2.1, 400, .inr (.inr (.inr (.inr (fun _ => none)))))) := by rw [hX10]; exact (xu_ne _ _ (by omega)).trans f9_3
  have f10_4 : X10 (4) = some (.inl (w.2.2.2.2.1, 180, .inr (.inr (.inr (.inr (fun _ => none)))))) := by rw [hX10]; exact (xu_ne _ _ (by omega)).trans f9_4
  have f10_5 : X10 (5) = some (.inl (w.2.2.2.2.1, 180, .inr (.inr (.inr (.inr (fun _ => none)))))) := by rw [hX10]; exact (xu_ne _ _ (by omega)).trans f9_5
  have f10_6 : X10 (6) = some (.inr (5, [.ref (w.2.1 + (1)), .ref (w.2.1 + (2))])) := by rw [hX10]; exact (xu_ne _ _ (by omega)).trans f9_6
  refine z_aload_n F dX7_init_45 rfl (lv_at hl 0 rfl) ?_
  refine z_bipush F (by decide) dX7_init_46 ?_
  refine x_newQ F hZ (N := 7) (C := RX6) (cA0 := w.2.2.2.2.2) (by decide +kernel) hK.2.2.2 (hK.1.1.2 3 _ rfl).2 (by omega) rfl (Nat.le_of_ble_eq_true rfl) (Nat.le_of_ble_eq_true rfl) (Nat.le_of_ble_eq_true rfl) dX7_init_48 (fun H hZ => ?_)
  obtain ⟨X11, hX11⟩ : ∃ zz : zX, zz = xu X10 (7) (.inl (w.2.2.2.2.2, 7, .inr (.inr (.inr (.inr (fun _ => none)))))) := ⟨_, rfl⟩
  rw [← hX11] at hZ
  have f11_7 : X11 (7) = some (.inl (w.2.2.2.2.2, 7, .inr (.inr (.inr (.inr (fun _ => none)))))) := by rw [hX11]; exact xu_at _ _ _
  have f11_0 : X11 (0) = some (.inr (7, [.ref (w.2.1 + (1)), .ref (w.2.1 + (2)), .ref (w.2.1 + (6)), .null, .int 0, .int 0])) := by rw [hX11]; exact (xu_ne _ _ (by omega)).trans f10_0
  have f11_1 : X11 (1) = some (.inr (1, [.int (zI (4))])) := by rw [hX11]; exact (xu_ne _ _ (by omega)).trans f10_1
  have f11_2 : X11 (2) = some (.inr (4, [.ref (w.2.1 + (3)), .ref (w.2.1 + (4)), .ref (w.2.1 + (5)), .int (zI (0))])) := by rw [hX11]; exact (xu_ne _ _ (by omega)).trans f10_2
  have f11_3 : X11 (3) = some (.inl (w.2.2.2.2.1, 400, .inr (.inr (.inr (.inr (fun _ => none)))))) := by rw [hX11]; exact (xu_ne _ _ (by omega)).trans f10_3
  have f11_4 : X11 (4) = some (.inl (w.2.2.2.2.1, 180, .inr (.inr (.inr (.inr (fun _ => none)))))) := by rw [hX11]; exact (xu_ne _ _ (by omega)).trans f10_4
  have f11_5 : X11 (5) = some (.inl (w.2.2.2.2.1, 180, .inr (.inr (.inr (.inr (fun _ => none)))))) := by rw [hX11]; exact (xu_ne _ _ (by omega)).trans f10_5
  have f11_6 : X11 (6) = some (.inr (5, [.ref (w.2.1 + (1)), .ref (w.2.1 + (2))])) := by rw [hX11]; exact (xu_ne _ _ (by omega)).trans f10_6
  refine x_putF F hK hZ (0) (Or.inl rfl) (k := 7) (fs := [.ref (w.2.1 + (1)), .ref (w.2.1 + (2)), .ref (w.2.1 + (6)), .null, .int 0, .int 0]) f11_0 (C := RX7) (T := TX7) (N := 6) rfl hin7 tyX7 tyX7_ok nmX7 3 (by decide) mX7_init_34 rfl rfl hinit rfl rfl rfl (Nat.le_of_ble_eq_true rfl) dX7_init_51 (fun H locs hZ => ?_)
  have hZ : Xs w (aN w (0) (1)) s.heap (8) (xu X11 (0) (.inr (7, [.ref (w.2.1 + (1)), .ref (w.2.1 + (2)), .ref (w.2.1 + (6)), .ref (w.2.1 + (7)), .int 0, .int 0]))) H locs := hZ
  obtain ⟨X12, hX12⟩ : ∃ zz : zX, zz = xu X11 (0) (.inr (7, [.ref (w.2.1 + (1)), .ref (w.2.1 + (2)), .ref (w.2.1 + (6)), .ref (w.2.1 + (7)), .int 0, .int 0])) := ⟨_, rfl⟩
  rw [← hX12] at hZ
  have f12_0 : X12 (0) = some (.inr (7, [.ref (w.2.1 + (1)), .ref (w.2.1 + (2)), .ref (w.2.1 + (6)), .ref (w.2.1 + (7)), .int 0, .int 0])) := by rw [hX12]; exact xu_at _ _ _
  have f12_1 : X12 (1) = some (.inr (1, [.int (zI (4))])) := by rw [hX12]; exact (xu_ne _ _ (by omega)).trans f11_1
  have f12_2 : X12 (2) = some (.inr (4, [.ref (w.2.1 + (3)), .ref (w.2.1 + (4)), .ref (w.2.1 + (5)), .int (zI (0))])) := by rw [hX12]; exact (xu_ne _ _ (by omega)).trans f11_2
  have f12_3 : X12 (3) = some (.inl (w.2.2.2.2.1, 400, .inr (.inr (.inr (.inr (fun _ => none)))))) := by rw [hX12]; exact (xu_ne _ _ (by omega)).trans f11_3
  have f12_4 : X12 (4) = some (.inl (w.2.2.2.2.1, 180, .inr (.inr (.inr (.inr (fun _ => none)))))) := by rw [hX12]; exact (xu_ne _ _ (by omega)).trans f11_4
  have f12_5 : X12 (5) = some (.inl (w.2.2.2.2.1, 180, .inr (.inr (.inr (.inr (fun _ => none)))))) := by rw [hX12]; exact (xu_ne _ _ (by omega)).trans f11_5
  have f12_6 : X12 (6) = some (.inr (5, [.ref (w.2.1 + (1)), .ref (w.2.1 + (2))])) := by rw [hX12]; exact (xu_ne _ _ (by omega)).trans f11_6
  have f12_7 : X12 (7) = some (.inl (w.2.2.2.2.2, 7, .inr (.inr (.inr (.inr (fun _ => none)))))) := by rw [hX12]; exact (xu_ne _ _ (by omega)).trans f11_7
  refine z_iconst F dX7_init_54 ?_
  refine z_istore_n (lv' := [(1, .int (zI (0))), (0, .ref (w.2.1 + (0)))]) F dX7_init_55 rfl hl (by decide) rfl (fun ls hl => ?_)
  have hZ : Xs w (aN w 0 1) s.heap (8 + 8 * 0) (xz w 0 (8 + 8 * 0) (LG 0)) H locs := Xs_sub hZ (fun j e hj => by
    unfold xz at hj
    by_cases q : 0 ≤ j ∧ j < 8 + 8 * 0
    · rw [if_pos q] at hj; cases hj
      rcases (show j = 0 ∨ j = 1 ∨ j = 2 ∨ j = 3 ∨ j = 4 ∨ j = 5 ∨ j = 6 ∨ j = 7 by omega) with rfl | rfl | rfl | rfl | rfl | rfl | rfl | rfl
      · rw [f12_0]; exact congrArg some ((LG_0 w 0 (by decide)).1 rfl)
      · rw [f12_1]; exact congrArg some ((LG_0 w 1 (by decide)).2.1 rfl)
      · rw [f12_2]; exact congrArg some ((LG_0 w 2 (by decide)).2.2.1 rfl)
      · rw [f12_3]; exact congrArg some (LG_al w 0 3 400 (by omega) rfl)
      · rw [f12_4]; exact congrArg some (LG_al w 0 4 180 (by omega) rfl)
      · rw [f12_5]; exact congrArg some (LG_al w 0 5 180 (by omega) rfl)
      · rw [f12_6]; exact congrArg some ((LG_0 w 6 (by decide)).2.2.2 rfl)
      · rw [f12_7]; exact congrArg some (LG_tl w)
    · rw [if_neg q] at hj; cases hj)
  clear hA
  have L_56 : ∀ (nf i : Nat), 8 ≤ i + nf → i ≤ 7 → ∀ (H : Heap) (locs : List Loc) (ls : Array Slot), Xs w (aN w 0 1) s.heap (8 + 8 * i) (xz w 0 (8 + 8 * i) (LG i)) H locs → lv_has ls 2 [(0, .ref (w.2.1 + (0))), (1, .int (zI ((i : Int))))] → W p l e (headSpec wsX7_init { frames := 4, cells := 63, slots := 1726, locals := 85 }).room s m ([.ref (w.2.1 + (0))] : List Value).toArray below meth c H locs (7 + 8 * i) (774 + 136 * i) (MQ below (xQv w 64 (xz w 0 64 (LG 7)) (aN w 0 1)) ([.ref (w.2.1 + (0))] : List Value).toArray s 63 1726 (aN w 0 1)) (F0 m 56 ls []) := by
    intro nf
    induction nf with
    | zero => intro i h0 h1; exact absurd h0 (by omega)
    | succ nf ih =>
      intro i h0 h1 H locs ls hX hl
      have hZ := Xs_zs hX (LG_rng i)
      refine z_iload_n F dX7_init_56 rfl (lv_at hl 1 rfl) ?_
      refine z_aload_n F dX7_init_57 rfl (lv_at hl 0 rfl) ?_
      refine z_get F hK.1 hZ (0) (by show 0 < 8 + 8 * i; omega) rfl (by decide) rfl hin7 3 (by decide) mX7_init_34 rfl rfl dX7_init_58 ?_
      refine z_alen F hK.1 hZ (7) (by show 7 < 8 + 8 * i; omega) (by decide) rfl dX7_init_61 ?_
      refine z_icmp_ge (tgt := 85) F (by omega) (by omega) dX7_init_62 (by decide) (fun c_62 => ?_) (fun c_62 => ?_)
      · have hi : i = 7 := by omega
        subst hi
        have hDA : ∀ i, i < 64 → aN w 0 1 (w.2.1 + i) := fun i h => by unfold aN; omega
        refine z_aload_n F dX7_init_85 rfl (lv_at hl 0 rfl) ?_
        refine z_iconst F dX7_init_86 ?_
        refine z_put (z := 0) F hK.1 hZ hDA (0) (by decide) rfl (by decide) rfl hin7 tyX7 tyX7_ok nmX7 4 (by decide) mX7_init_41 rfl rfl rfl rfl (by omega) (kz := 4) rfl rfl (Nat.le_of_ble_eq_true rfl) dX7_init_87 (fun H locs hZ => ?_)
        refine z_aload_n F dX7_init_90 rfl (lv_at hl 0 rfl) ?_
        refine z_iconst F dX7_init_91 ?_
        refine z_put (z := 0) F hK.1 hZ hDA (0) (by decide) rfl (by decide) rfl hin7 tyX7 tyX7_ok nmX7 5 (by decide) mX7_init_45 rfl rfl rfl rfl (by omega) (kz := 5) rfl rfl (Nat.le_of_ble_eq_true rfl) dX7_init_92 (fun H locs hZ => ?_)
        rw [LG_u] at hZ
        exact x_vret F hr hlocks (Zs_xs hZ) (fun j e h => h) dX7_init_95 (by omega) (by omega)
      · have hi : i < 7 := by omega
        refine z_aload_n F dX7_init_65 rfl (lv_at hl 0 rfl) ?_
        refine z_get F hK.1 hZ (0) (by show 0 < 8 + 8 * i; omega) rfl (by decide) rfl hin7 3 (by decide) mX7_init_34 rfl rfl dX7_init_66 ?_
        refine z_iload_n F dX7_init_69 rfl (lv_at hl 1 rfl) ?_
        refine x_new F hK hX (k := 6) (N := 15) (C := RX6) (T := TX6) rfl tyX6 tyX6_ok (by decide +kernel) (by decide +kernel) (by decide +kernel) hin6 [.int 0, .int 0, .int 0, .int 0, .int 0, .int 0, .int 0, .int 0, .int 0, .int 0, .null, .null, .null, .null, .null] (fun j hj => by rcases (show j = 0 ∨ j = 1 ∨ j = 2 ∨ j = 3 ∨ j = 4 ∨ j = 5 ∨ j = 6 ∨ j = 7 ∨ j = 8 ∨ j = 9 ∨ j = 10 ∨ j = 11 ∨ j = 12 ∨ j = 13 ∨ j = 14 by omega) with rfl | rfl | rfl | rfl | rfl | rfl | rfl | rfl | rfl | rfl | rfl | rfl | rfl | rfl | rfl <;> rfl) (by show 7 + 8 * i + 1 ≤ 63; omega) (by show 774 + 136 * i + 15 ≤ 1726; omega) dX7_init_70 (fun H hX => ?_)
        refine lv_dup F.1 F.2.1 dX7_init_73 rfl ?_
        refine z_iload_n F dX7_init_74 rfl (lv_at hl 1 rfl) ?_
        refine x_back hX (i := 8 + 8 * i) (by show aN w 0 1 _; unfold aN; omega) (fun z hz => by unfold aN; omega) ⟨_, if_pos ⟨Nat.le_refl _, by omega⟩⟩ (va_runI (As := [.int (zI ((i : Int)))]) (rest := [.ref (w.2.1 + (8 + 8 * i)), .int (zI ((i : Int))), .ref (w.2.1 + (7))]) F (k_X6_init l w i hi) (cwI 1 F.2.2.2.2 gX7_init_X6_init rfl rfl rfl (F.2.2.2.2 (.initialized RX6) (by decide +kernel)) (F.2.2.2.2 (.methodLink RX7 38 yX6_init) (by decide +kernel)) (F.2.2.2.2 (.instanceMethod yX6_init) (by decide +kernel)) rfl (by decide +kernel) ⟨Nat.le_of_ble_eq_true rfl, Nat.le_of_ble_eq_true rfl⟩) (x_preS hK hX (xu_at _ _ _) _) rfl rfl hl.1 rfl (lv_room (Nat.le_of_ble_eq_true rfl)) dX7_init_75 ⟨by show 7 + 8 * i + 1 + 7 ≤ 63; omega, by show 774 + 136 * i + 15 + 121 ≤ 1726; omega⟩) (fun H locs hX => ?_)
        refine x_aastS F hK hX (i := 7) (j := 8 + 8 * i) (by show aN w 0 1 _; unfold aN; omega) (f := fun q : Nat => zO w (LG i 7 (q : Int))) ?_ (fs := zFs w 6 (8 + 8 * i) (cClr (zS0 i) i (8 + 8 * i))) ?_ (by omega) (by omega) dX7_init_78 (fun H locs hX => ?_)
        · refine xj_x (by unfold xz; rw [if_neg (by omega)]) ?_
          rw [xu_ne _ _ (by omega)]; unfold xz; rw [if_pos (by omega), LG_tt]
        · refine xj_y ?_
          unfold xz; rw [if_pos (by omega), zE_of (shp_seat i hi)]; rfl
        have hX := Xs_sub hX (LG_step w hi rfl)
        refine z_iinc (k := 1) (z := (i : Int)) (lv' := [(1, .int (zI ((i : Int) + 1))), (0, .ref (w.2.1 + (0)))]) F dX7_init_79 hl rfl (by decide) rfl (fun ls hl => ?_)
        refine lv_goto (tgt := 56) F.1 F.2.1 dX7_init_82 (by decide) ?_
        exact W.widen (by omega) (by omega) (ih (i + 1) (by omega) (by omega) _ _ _ hX (lv_sub hl [1, 0] rfl))
  exact W.widen (Nat.le_of_ble_eq_true rfl) (Nat.le_of_ble_eq_true rfl) (L_56 8 0 (by omega) (by omega) _ _ _ hZ (lv_sub hl [1, 0] rfl))
