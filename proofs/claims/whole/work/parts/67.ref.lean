theorem mX8_init_7 : Cond.fieldLink RX8 7 "LockedChainModel" "isFalse" "[Z" ∈ wsX8_init := by decide +kernel
theorem mX8_init_13 : Cond.fieldLink RX8 13 "LockedChainModel" "holds" "[Z" ∈ wsX8_init := by decide +kernel
theorem mX8_init_16 : Cond.fieldLink RX8 16 "LockedChainModel" "seat" "[I" ∈ wsX8_init := by decide +kernel
theorem mX8_init_20 : Cond.fieldLink RX8 20 "LockedChainModel" "decided" "[I" ∈ wsX8_init := by decide +kernel
theorem mX8_init_23 : Cond.fieldLink RX8 23 "LockedChainModel" "letter" "[I" ∈ wsX8_init := by decide +kernel
theorem mX8_init_26 : Cond.fieldLink RX8 26 "LockedChainModel" "came" "[Z" ∈ wsX8_init := by decide +kernel
theorem mX8_init_29 : Cond.fieldLink RX8 29 "LockedChainModel" "n" "I" ∈ wsX8_init := by decide +kernel
set_option maxHeartbeats 4000000 in
set_option maxRecDepth 100000 in
theorem k_X8_init (l : Launch) (w : zW)  : Met l yX8_init wsX8_init { frames := 1, cells := 6, slots := 6131, locals := 22 } (xPre w (65) (xu x0 (64) (.inr (8, [.int 0, .int 0, .int 0, .null, .null, .null, .null, .int 0, .null, .null]))) [.ref (w.2.1 + (64))]) (xQv w (71) (xz w 64 71 X00) (aN w (64) (65))) 6 6131 (aN w (64) (65)) := by
  refine Met.ofW (cc := cX8_init) (maxL := 1) (ret := none) (by decide) rfl ?_
  intro p e s m args below meth c s₁ B hml hv
  obtain ⟨rfl, hsz, hP, hK⟩ := hv
  have F : CallFix p m c cX8_init 1 s _ wsX8_init RX8 := ⟨B.exec, B.bytes, hml, findClass_of_methodNamed B.named, atoms_spec (ws := wsX8_init) B.pre⟩
  have hinit : meth.name = "<init>" := (name_of_methodNamed B.named B.method).1
  have hr := B.returns
  have hlocks := B.notSynchronized
  have hZ : Xs w (aN w (64) (65)) s.heap (65) (xu x0 (64) (.inr (8, [.int 0, .int 0, .int 0, .null, .null, .null, .null, .int 0, .null, .null]))) s.heap [] := ⟨hsz, hP, va_S.rf⟩
  have hA : ∀ q, w.2.1 + (65) ≤ q → aN w (64) (65) q := fun q h => Or.inr h
  have hl := lv_entry ([.ref (w.2.1 + (64))]) (n := 1) (Nat.le_of_ble_eq_true rfl)
  rw [lg_entry_eq]
  generalize (lg_sl ([.ref (w.2.1 + (64))]) ++ List.replicate (1 - (lg_sl ([.ref (w.2.1 + (64))])).length) Slot.unset).toArray = ls at hl ⊢
  have hl : lv_has ls 1 [(0, .ref (w.2.1 + (64)))] := hl
  have hin8 : ∀ v ∈ u_ws RX8 TX8 10, v ∈ wsX8_init := by decide +kernel
  obtain ⟨X1, hX1⟩ : ∃ zz : zX, zz = xu x0 (64) (.inr (8, [.int 0, .int 0, .int 0, .null, .null, .null, .null, .int 0, .null, .null])) := ⟨_, rfl⟩
  rw [← hX1] at hZ
  have f1_0 : X1 (64) = some (.inr (8, [.int 0, .int 0, .int 0, .null, .null, .null, .null, .int 0, .null, .null])) := by rw [hX1]; exact xu_at _ _ _
  refine z_aload_n F dX8_init_0 rfl (lv_at hl 0 rfl) ?_
  refine W.objInit F.1 F.2.1 F.2.2.2.1 (F.2.2.2.2 (.methodLink RX8 1 objectInit) (by decide +kernel)) (F.2.2.2.2 (.instanceMethod objectInit) (by decide +kernel)) (F.2.2.2.2 (.code objectInit ⟨#[0xb1]⟩ 1 none) (by decide +kernel)) rfl (by rw [F.2.2.1]; exact hl.1) rfl dX8_init_1 (Nat.le_of_ble_eq_true rfl) (Nat.le_of_ble_eq_true rfl) ?_
  refine z_aload_n F dX8_init_4 rfl (lv_at hl 0 rfl) ?_
  refine z_bipush F (by decide) dX8_init_5 ?_
  refine x_newZ F hK hZ (N := 7) (by decide +kernel) (by omega) rfl (Nat.le_of_ble_eq_true rfl) (Nat.le_of_ble_eq_true rfl) (Nat.le_of_ble_eq_true rfl) dX8_init_7 (fun H hZ => ?_)
  obtain ⟨X2, hX2⟩ : ∃ zz : zX, zz = xu X1 (65) (.inl (w.2.2.2.1, 7, .inl (fun _ => 0))) := ⟨_, rfl⟩
  rw [← hX2] at hZ
  have f2_1 : X2 (65) = some (.inl (w.2.2.2.1, 7, .inl (fun _ => 0))) := by rw [hX2]; exact xu_at _ _ _
  have f2_0 : X2 (64) = some (.inr (8, [.int 0, .int 0, .int 0, .null, .null, .null, .null, .int 0, .null, .null])) := by rw [hX2]; exact (xu_ne _ _ (by omega)).trans f1_0
  refine x_putF F hK hZ (64) (Or.inl rfl) (k := 8) (fs := [.int 0, .int 0, .int 0, .null, .null, .null, .null, .int 0, .null, .null]) f2_0 (C := RX8) (T := TX8) (N := 10) rfl hin8 tyX8 tyX8_ok nmX8 3 (by decide) mX8_init_7 rfl rfl hinit rfl rfl rfl (Nat.le_of_ble_eq_true rfl) dX8_init_9 (fun H locs hZ => ?_)
  have hZ : Xs w (aN w (64) (65)) s.heap (66) (xu X2 (64) (.inr (8, [.int 0, .int 0, .int 0, .ref (w.2.1 + (65)), .null, .null, .null, .int 0, .null, .null]))) H locs := hZ
  obtain ⟨X3, hX3⟩ : ∃ zz : zX, zz = xu X2 (64) (.inr (8, [.int 0, .int 0, .int 0, .ref (w.2.1 + (65)), .null, .null, .null, .int 0, .null, .null])) := ⟨_, rfl⟩
  rw [← hX3] at hZ
  have f3_0 : X3 (64) = some (.inr (8, [.int 0, .int 0, .int 0, .ref (w.2.1 + (65)), .null, .null, .null, .int 0, .null, .null])) := by rw [hX3]; exact xu_at _ _ _
  have f3_1 : X3 (65) = some (.inl (w.2.2.2.1, 7, .inl (fun _ => 0))) := by rw [hX3]; exact (xu_ne _ _ (by omega)).trans f2_1
  refine z_aload_n F dX8_init_12 rfl (lv_at hl 0 rfl) ?_
  refine z_sipush F (by decide) dX8_init_13 ?_
  refine x_newZ F hK hZ (N := 700) (by decide +kernel) (by omega) rfl (Nat.le_of_ble_eq_true rfl) (Nat.le_of_ble_eq_true rfl) (Nat.le_of_ble_eq_true rfl) dX8_init_16 (fun H hZ => ?_)
  obtain ⟨X4, hX4⟩ : ∃ zz : zX, zz = xu X3 (66) (.inl (w.2.2.2.1, 700, .inl (fun _ => 0))) := ⟨_, rfl⟩
  rw [← hX4] at hZ
  have f4_2 : X4 (66) = some (.inl (w.2.2.2.1, 700, .inl (fun _ => 0))) := by rw [hX4]; exact xu_at _ _ _
  have f4_0 : X4 (64) = some (.inr (8, [.int 0, .int 0, .int 0, .ref (w.2.1 + (65)), .null, .null, .null, .int 0, .null, .null])) := by rw [hX4]; exact (xu_ne _ _ (by omega)).trans f3_0
  have f4_1 : X4 (65) = some (.inl (w.2.2.2.1, 7, .inl (fun _ => 0))) := by rw [hX4]; exact (xu_ne _ _ (by omega)).trans f3_1
  refine x_putF F hK hZ (64) (Or.inl rfl) (k := 8) (fs := [.int 0, .int 0, .int 0, .ref (w.2.1 + (65)), .null, .null, .null, .int 0, .null, .null]) f4_0 (C := RX8) (T := TX8) (N := 10) rfl hin8 tyX8 tyX8_ok nmX8 4 (by decide) mX8_init_13 rfl rfl hinit rfl rfl rfl (Nat.le_of_ble_eq_true rfl) dX8_init_18 (fun H locs hZ => ?_)
  have hZ : Xs w (aN w (64) (65)) s.heap (67) (xu X4 (64) (.inr (8, [.int 0, .int 0, .int 0, .ref (w.2.1 + (65)), .ref (w.2.1 + (66)), .null, .null, .int 0, .null, .null]))) H locs := hZ
  obtain ⟨X5, hX5⟩ : ∃ zz : zX, zz = xu X4 (64) (.inr (8, [.int 0, .int 0, .int 0, .ref (w.2.1 + (65)), .ref (w.2.1 + (66)), .null, .null, .int 0, .null, .null])) := ⟨_, rfl⟩
  rw [← hX5] at hZ
  have f5_0 : X5 (64) = some (.inr (8, [.int 0, .int 0, .int 0, .ref (w.2.1 + (65)), .ref (w.2.1 + (66)), .null, .null, .int 0, .null, .null])) := by rw [hX5]; exact xu_at _ _ _
  have f5_1 : X5 (65) = some (.inl (w.2.2.2.1, 7, .inl (fun _ => 0))) := by rw [hX5]; exact (xu_ne _ _ (by omega)).trans f4_1
  have f5_2 : X5 (66) = some (.inl (w.2.2.2.1, 700, .inl (fun _ => 0))) := by rw [hX5]; exact (xu_ne _ _ (by omega)).trans f4_2
  refine z_aload_n F dX8_init_21 rfl (lv_at hl 0 rfl) ?_
  refine z_sipush F (by decide) dX8_init_22 ?_
  refine x_newI F hK hZ (N := 140) (by decide +kernel) (by omega) rfl (Nat.le_of_ble_eq_true rfl) (Nat.le_of_ble_eq_true rfl) (Nat.le_of_ble_eq_true rfl) dX8_init_25 (fun H hZ => ?_)
  obtain ⟨X6, hX6⟩ : ∃ zz : zX, zz = xu X5 (67) (.inl (w.2.2.1, 140, .inl (fun _ => 0))) := ⟨_, rfl⟩
  rw [← hX6] at hZ
  have f6_3 : X6 (67) = some (.inl (w.2.2.1, 140, .inl (fun _ => 0))) := by rw [hX6]; exact xu_at _ _ _
  have f6_0 : X6 (64) = some (.inr (8, [.int 0, .int 0, .int 0, .ref (w.2.1 + (65)), .ref (w.2.1 + (66)), .null, .null, .int 0, .null, .null])) := by rw [hX6]; exact (xu_ne _ _ (by omega)).trans f5_0
  have f6_1 : X6 (65) = some (.inl (w.2.2.2.1, 7, .inl (fun _ => 0))) := by rw [hX6]; exact (xu_ne _ _ (by omega)).trans f5_1
  have f6_2 : X6 (66) = some (.inl (w.2.2.2.1, 700, .inl (fun _ => 0))) := by rw [hX6]; exact (xu_ne _ _ (by omega)).trans f5_2
  refine x_putF F hK hZ (64) (Or.inl rfl) (k := 8) (fs := [.int 0, .int 0, .int 0, .ref (w.2.1 + (65)), .ref (w.2.1 + (66)), .null, .null, .int 0, .null, .null]) f6_0 (C := RX8) (T := TX8) (N := 10) rfl hin8 tyX8 tyX8_ok nmX8 5 (by decide) mX8_init_16 rfl rfl hinit rfl rfl rfl (Nat.le_of_ble_eq_true rfl) dX8_init_27 (fun H locs hZ => ?_)
  have hZ : Xs w (aN w (64) (65)) s.heap (68) (xu X6 (64) (.inr (8, [.int 0, .int 0, .int 0, .ref (w.2.1 + (65)), .ref (w.2.1 + (66)), .ref (w.2.1 + (67)), .null, .int 0, .null, .null]))) H locs := hZ
  obtain ⟨X7, hX7⟩ : ∃ zz : zX, zz = xu X6 (64) (.inr (8, [.int 0, .int 0, .int 0, .ref (w.2.1 + (65)), .ref (w.2.1 + (66)), .ref (w.2.1 + (67)), .null, .int 0, .null, .null])) := ⟨_, rfl⟩
  rw [← hX7] at hZ
  have f7_0 : X7 (64) = some (.inr (8, [.int 0, .int 0, .int 0, .ref (w.2.1 + (65)), .ref (w.2.1 + (66)), .ref (w.2.1 + (67)), .null, .int 0, .null, .null])) := by rw [hX7]; exact xu_at _ _ _
  have f7_1 : X7 (65) = some (.inl (w.2.2.2.1, 7, .inl (fun _ => 0))) := by rw [hX7]; exact (xu_ne _ _ (by omega)).trans f6_1
  have f7_2 : X7 (66) = some (.inl (w.2.2.2.1, 700, .inl (fun _ => 0))) := by rw [hX7]; exact (xu_ne _ _ (by omega)).trans f6_2
  have f7_3 : X7 (67) = some (.inl (w.2.2.1, 140, .inl (fun _ => 0))) := by rw [hX7]; exact (xu_ne _ _ (by omega)).trans f6_3
  refine z_aload_n F dX8_init_30 rfl (lv_at hl 0 rfl) ?_
  refine z_bipush F (by decide) dX8_init_31 ?_
  refine x_newI F hK hZ (N := 84) (by decide +kernel) (by omega) rfl (Nat.le_of_ble_eq_true rfl) (Nat.le_of_ble_eq_true rfl) (Nat.le_of_ble_eq_true rfl) dX8_init_33 (fun H hZ => ?_)
  obtain ⟨X8, hX8⟩ : ∃ zz : zX, zz = xu X7 (68) (.inl (w.2.2.1, 84, .inl (fun _ => 0))) := ⟨_, rfl⟩
  rw [← hX8] at hZ
  have f8_4 : X8 (68) = some (.inl (w.2.2.1, 84, .inl (fun _ => 0))) := by rw [hX8]; exact xu_at _ _ _
  have f8_0 : X8 (64) = some (.inr (8, [.int 0, .int 0, .int 0, .ref (w.2.1 + (65)), .ref (w.2.1 + (66)), .ref (w.2.1 + (67)), .null, .int 0, .null, .null])) := by rw [hX8]; exact (xu_ne _ _ (by omega)).trans f7_0
  have f8_1 : X8 (65) = some (.inl (w.2.2.2.1, 7, .inl (fun _ => 0))) := by rw [hX8]; exact (xu_ne _ _ (by omega)).trans f7_1
  have f8_2 : X8 (66) = some (.inl (w.2.2.2.1, 700, .inl (fun _ => 0))) := by rw [hX8]; exact (xu_ne _ _ (by omega)).trans f7_2
  have f8_3 : X8 (67) = some (.inl (w.2.2.1, 140, .inl (fun _ => 0))) := by rw [hX8]; exact (xu_ne _ _ (by omega)).trans f7_3
  refine x_putF F hK hZ (64) (Or.inl rfl) (k := 8) (fs := [.int 0, .int 0, .int 0, .ref (w.2.1 + (65)), .ref (w.2.1 + (66)), .ref (w.2.1 + (67)), .null, .int 0, .null, .null]) f8_0 (C := RX8) (T := TX8) (N := 10) rfl hin8 tyX8 tyX8_ok nmX8 6 (by decide) mX8_init_20 rfl rfl hinit rfl rfl rfl (Nat.le_of_ble_eq_true rfl) dX8_init_35 (fun H locs hZ => ?_)
  have hZ : Xs w (aN w (64) (65)) s.heap (69) (xu X8 (64) (.inr (8, [.int 0, .int 0, .int 0, .ref (w.2.1 + (65)), .ref (w.2.1 + (66)), .ref (w.2.1 + (67)), .ref (w.2.1 + (68)), .int 0, .null, .null]))) H locs := hZ
  obtain ⟨X9, hX9⟩ : ∃ zz : zX, zz = xu X8 (64) (.inr (8, [.int 0, .int 0, .int 0, .ref (w.2.1 + (65)), .ref (w.2.1 + (66)), .ref (w.2.1 + (67)), .ref (w.2.1 + (68)), .int 0, .null, .null])) := ⟨_, rfl⟩
  rw [← hX9] at hZ
  have f9_0 : X9 (64) = some (.inr (8, [.int 0, .int 0, .int 0, .ref (w.2.1 + (65)), .ref (w.2.1 + (66)), .ref (w.2.1 + (67)), .ref (w.2.1 + (68)), .int 0, .null, .null])) := by rw [hX9]; exact xu_at _ _ _
  have f9_1 : X9 (65) = some (.inl (w.2.2.2.1, 7, .inl (fun _ => 0))) := by rw [hX9]; exact (xu_ne _ _ (by omega)).trans f8_1
  have f9_2 : X9 (66) = some (.inl (w.2.2.2.1, 700, .inl (fun _ => 0))) := by rw [hX9]; exact (xu_ne _ _ (by omega)).trans f8_2
  have f9_3 : X9 (67) = some (.inl (w.2.2.1, 140, .inl (fun _ => 0))) := by rw [hX9]; exact (xu_ne _ _ (by omega)).trans f8_3
  have f9_4 : X9 (68) = some (.inl (w.2.2.1, 84, .inl (fun _ => 0))) := by rw [hX9]; exact (xu_ne _ _ (by omega)).trans f8_4
  refine z_aload_n F dX8_init_38 rfl (lv_at hl 0 rfl) ?_
  refine z_sipush F (by decide) dX8_init_39 ?_
  refine x_newI F hK hZ (N := 2400) (by decide +kernel) (by omega) rfl (Nat.le_of_ble_eq_true rfl) (Nat.le_of_ble_eq_true rfl) (Nat.le_of_ble_eq_true rfl) dX8_init_42 (fun H hZ => ?_)
  obtain ⟨X10, hX10⟩ : ∃ zz : zX, zz = xu X9 (69) (.inl (w.2.2.1, 2400, .inl (fun _ => 0))) := ⟨_, rfl⟩
  rw [← hX10] at hZ
  have f10_5 : X10 (69) = some (.inl (w.2.2.1, 2400, .inl (fun _ => 0))) := by rw [hX10]; exact xu_at _ _ _
  have f10_0 : X10 (64) = some (.inr (8, [.int 0, .int 0, .int 0, .ref (w.2.1 + (65)), .ref (w.2.1 + (66)), .ref (w.2.1 + (67)), .ref (w.2.1 + (68)), .int 0, .null, .null])) := by rw [hX10]; exact (xu_ne _ _ (by omega)).trans f9_0
  have f10_1 : X10 (65) = some (.inl (w.2.2.2.1, 7, .inl (fun _ => 0))) := by rw [hX10]; exact (xu_ne _ _ (by omega)).trans f9_1
  have f10_2 : X10 (66) = some (.inl (w.2.2.2.1, 700, .inl (fun _ => 0))) := by rw [hX10]; exact (xu_ne _ _ (by omega)).trans f9_2
  have f10_3 : X10 (67) = some (.inl (w.2.2.1, 140, .inl (fun _ => 0))) := by rw [hX10]; exact (xu_ne _ _ (by omega)).trans f9_3
  have f10_4 : X10 (68) = some (.inl (w.2.2.1, 84, .inl (fun _ => 0))) := by rw [hX10]; exact (xu_ne _ _ (by omega)).trans f9_4
  refine x_putF F hK hZ (64) (Or.inl rfl) (k := 8) (fs := [.int 0, .int 0, .int 0, .ref (w.2.1 + (65)), .ref (w.2.1 + (66)), .ref (w.2.1 + (67)), .ref (w.2.1 + (68)), .int 0, .null, .null]) f10_0 (C := RX8) (T := TX8) (N := 10) rfl hin8 tyX8 tyX8_ok nmX8 8 (by decide) mX8_init_23 rfl rfl hinit rfl rfl rfl (Nat.le_of_ble_eq_true rfl) dX8_init_44 (fun H locs hZ => ?_)
  have hZ : Xs w (aN w (64) (65)) s.heap (70) (xu X10 (64) (.inr (8, [.int 0, .int 0, .int 0, .ref (w.2.1 + (65)), .ref (w.2.1 + (66)), .ref (w.2.1 + (67)), .ref (w.2.1 + (68)), .int 0, .ref (w.2.1 + (69)), .null]))) H locs := hZ
  obtain ⟨X11, hX11⟩ : ∃ zz : zX, zz = xu X10 (64) (.inr (8, [.int 0, .int 0, .int 0, .ref (w.2.1 + (65)), .ref (w.2.1 + (66)), .ref (w.2.1 + (67)), .ref (w.2.1 + (68)), .int 0, .ref (w.2.1 + (69)), .null])) := ⟨_, rfl⟩
  rw [← hX11] at hZ
  have f11_0 : X11 (64) = some (.inr (8, [.int 0, .int 0, .int 0, .ref (w.2.1 + (65)), .ref (w.2.1 + (66)), .ref (w.2.1 + (67)), .ref (w.2.1 + (68)), .int 0, .ref (w.2.1 + (69)), .null])) := by rw [hX11]; exact xu_at _ _ _
  have f11_1 : X11 (65) = some (.inl (w.2.2.2.1, 7, .inl (fun _ => 0))) := by rw [hX11]; exact (xu_ne _ _ (by omega)).trans f10_1
  have f11_2 : X11 (66) = some (.inl (w.2.2.2.1, 700, .inl (fun _ => 0))) := by rw [hX11]; exact (xu_ne _ _ (by omega)).trans f10_2
  have f11_3 : X11 (67) = some (.inl (w.2.2.1, 140, .inl (fun _ => 0))) := by rw [hX11]; exact (xu_ne _ _ (by omega)).trans f10_3
  have f11_4 : X11 (68) = some (.inl (w.2.2.1, 84, .inl (fun _ => 0))) := by rw [hX11]; exact (xu_ne _ _ (by omega)).trans f10_4
  have f11_5 : X11 (69) = some (.inl (w.2.2.1, 2400, .inl (fun _ => 0))) := by rw [hX11]; exact (xu_ne _ _ (by omega)).trans f10_5
  refine z_aload_n F dX8_init_47 rfl (lv_at hl 0 rfl) ?_
  refine z_sipush F (by decide) dX8_init_48 ?_
  refine x_newZ F hK hZ (N := 2800) (by decide +kernel) (by omega) rfl (Nat.le_of_ble_eq_true rfl) (Nat.le_of_ble_eq_true rfl) (Nat.le_of_ble_eq_true rfl) dX8_init_51 (fun H hZ => ?_)
  obtain ⟨X12, hX12⟩ : ∃ zz : zX, zz = xu X11 (70) (.inl (w.2.2.2.1, 2800, .inl (fun _ => 0))) := ⟨_, rfl⟩
  rw [← hX12] at hZ
  have f12_6 : X12 (70) = some (.inl (w.2.2.2.1, 2800, .inl (fun _ => 0))) := by rw [hX12]; exact xu_at _ _ _
  have f12_0 : X12 (64) = some (.inr (8, [.int 0, .int 0, .int 0, .ref (w.2.1 + (65)), .ref (w.2.1 + (66)), .ref (w.2.1 + (67)), .ref (w.2.1 + (68)), .int 0, .ref (w.2.1 + (69)), .null])) := by rw [hX12]; exact (xu_ne _ _ (by omega)).trans f11_0
  have f12_1 : X12 (65) = some (.inl (w.2.2.2.1, 7, .inl (fun _ => 0))) := by rw [hX12]; exact (xu_ne _ _ (by omega)).trans f11_1
  have f12_2 : X12 (66) = some (.inl (w.2.2.2.1, 700, .inl (fun _ => 0))) := by rw [hX12]; exact (xu_ne _ _ (by omega)).trans f11_2
  have f12_3 : X12 (67) = some (.inl (w.2.2.1, 140, .inl (fun _ => 0))) := by rw [hX12]; exact (xu_ne _ _ (by omega)).trans f11_3
  have f12_4 : X12 (68) = some (.inl (w.2.2.1, 84, .inl (fun _ => 0))) := by rw [hX12]; exact (xu_ne _ _ (by omega)).trans f11_4
  have f12_5 : X12 (69) = some (.inl (w.2.2.1, 2400, .inl (fun _ => 0))) := by rw [hX12]; exact (xu_ne _ _ (by omega)).trans f11_5
  refine x_putF F hK hZ (64) (Or.inl rfl) (k := 8) (fs := [.int 0, .int 0, .int 0, .ref (w.2.1 + (65)), .ref (w.2.1 + (66)), .ref (w.2.1 + (67)), .ref (w.2.1 + (68)), .int 0, .ref (w.2.1 + (69)), .null]) f12_0 (C := RX8) (T := TX8) (N := 10) rfl hin8 tyX8 tyX8_ok nmX8 9 (by decide) mX8_init_26 rfl rfl hinit rfl rfl rfl (Nat.le_of_ble_eq_true rfl) dX8_init_53 (fun H locs hZ => ?_)
  have hZ : Xs w (aN w (64) (65)) s.heap (71) (xu X12 (64) (.inr (8, [.int 0, .int 0, .int 0, .ref (w.2.1 + (65)), .ref (w.2.1 + (66)), .ref (w.2.1 + (67)), .ref (w.2.1 + (68)), .int 0, .ref (w.2.1 + (69)), .ref (w.2.1 + (70))]))) H locs := hZ
  obtain ⟨X13, hX13⟩ : ∃ zz : zX, zz = xu X12 (64) (.inr (8, [.int 0, .int 0, .int 0, .ref (w.2.1 + (65)), .ref (w.2.1 + (66)), .ref (w.2.1 + (67)), .ref (w.2.1 + (68)), .int 0, .ref (w.2.1 + (69)), .ref (w.2.1 + (70))])) := ⟨_, rfl⟩
  rw [← hX13] at hZ
  have f13_0 : X13 (64) = some (.inr (8, [.int 0, .int 0, .int 0, .ref (w.2.1 + (65)), .ref (w.2.1 + (66)), .ref (w.2.1 + (67)), .ref (w.2.1 + (68)), .int 0, .ref (w.2.1 + (69)), .ref (w.2.1 + (70))])) := by rw [hX13]; exact xu_at _ _ _
  have f13_1 : X13 (65) = some (.inl (w.2.2.2.1, 7, .inl (fun _ => 0))) := by rw [hX13]; exact (xu_ne _ _ (by omega)).trans f12_1
  have f13_2 : X13 (66) = some (.inl (w.2.2.2.1, 700, .inl (fun _ => 0))) := by rw [hX13]; exact (xu_ne _ _ (by omega)).trans f12_2
  have f13_3 : X13 (67) = some (.inl (w.2.2.1, 140, .inl (fun _ => 0))) := by rw [hX13]; exact (xu_ne _ _ (by omega)).trans f12_3
  have f13_4 : X13 (68) = some (.inl (w.2.2.1, 84, .inl (fun _ => 0))) := by rw [hX13]; exact (xu_ne _ _ (by omega)).trans f12_4
  have f13_5 : X13 (69) = some (.inl (w.2.2.1, 2400, .inl (fun _ => 0))) := by rw [hX13]; exact (xu_ne _ _ (by omega)).trans f12_5
  have f13_6 : X13 (70) = some (.inl (w.2.2.2.1, 2800, .inl (fun _ => 0))) := by rw [hX13]; exact (xu_ne _ _ (by omega)).trans f12_6
  refine z_aload_n F dX8_init_56 rfl (lv_at hl 0 rfl) ?_
  refine z_iconst F dX8_init_57 ?_
  refine x_put F hK hZ (64) (Or.inl rfl) (k := 8) (fs := [.int 0, .int 0, .int 0, .ref (w.2.1 + (65)), .ref (w.2.1 + (66)), .ref (w.2.1 + (67)), .ref (w.2.1 + (68)), .int 0, .ref (w.2.1 + (69)), .ref (w.2.1 + (70))]) f13_0 (C := RX8) (T := TX8) (N := 10) rfl hin8 tyX8 tyX8_ok nmX8 0 (by decide) mX8_init_29 rfl rfl rfl rfl (Nat.le_of_ble_eq_true rfl) dX8_init_58 (fun H locs hZ => ?_)
  have hZ : Xs w (aN w (64) (65)) s.heap (71) (xu X13 (64) (.inr (8, [.int (zI (4)), .int 0, .int 0, .ref (w.2.1 + (65)), .ref (w.2.1 + (66)), .ref (w.2.1 + (67)), .ref (w.2.1 + (68)), .int 0, .ref (w.2.1 + (69)), .ref (w.2.1 + (70))]))) H locs := hZ
  obtain ⟨X14, hX14⟩ : ∃ zz : zX, zz = xu X13 (64) (.inr (8, [.int (zI (4)), .int 0, .int 0, .ref (w.2.1 + (65)), .ref (w.2.1 + (66)), .ref (w.2.1 + (67)), .ref (w.2.1 + (68)), .int 0, .ref (w.2.1 + (69)), .ref (w.2.1 + (70))])) := ⟨_, rfl⟩
  rw [← hX14] at hZ
  have f14_0 : X14 (64) = some (.inr (8, [.int (zI (4)), .int 0, .int 0, .ref (w.2.1 + (65)), .ref (w.2.1 + (66)), .ref (w.2.1 + (67)), .ref (w.2.1 + (68)), .int 0, .ref (w.2.1 + (69)), .ref (w.2.1 + (70))])) := by rw [hX14]; exact xu_at _ _ _
  have f14_1 : X14 (65) = some (.inl (w.2.2.2.1, 7, .inl (fun _ => 0))) := by rw [hX14]; exact (xu_ne _ _ (by omega)).trans f13_1
  have f14_2 : X14 (66) = some (.inl (w.2.2.2.1, 700, .inl (fun _ => 0))) := by rw [hX14]; exact (xu_ne _ _ (by omega)).trans f13_2
  have f14_3 : X14 (67) = some (.inl (w.2.2.1, 140, .inl (fun _ => 0))) := by rw [hX14]; exact (xu_ne _ _ (by omega)).trans f13_3
  have f14_4 : X14 (68) = some (.inl (w.2.2.1, 84, .inl (fun _ => 0))) := by rw [hX14]; exact (xu_ne _ _ (by omega)).trans f13_4
  have f14_5 : X14 (69) = some (.inl (w.2.2.1, 2400, .inl (fun _ => 0))) := by rw [hX14]; exact (xu_ne _ _ (by omega)).trans f13_5
  have f14_6 : X14 (70) = some (.inl (w.2.2.2.1, 2800, .inl (fun _ => 0))) := by rw [hX14]; exact (xu_ne _ _ (by omega)).trans f13_6
  have hZ : Zs w (fun i => 64 ≤ i ∧ i < 71) (aN w 64 65) s.heap (w.2.1 + 71) zR0 H locs := Xs_Zs hZ zR0_rng (fun i hi => by
    rcases (show i = 64 ∨ i = 65 ∨ i = 66 ∨ i = 67 ∨ i = 68 ∨ i = 69 ∨ i = 70 by omega) with rfl | rfl | rfl | rfl | rfl | rfl | rfl
    · rw [f14_0]; exact congrArg some (zR0_0 w)
    · rw [f14_1]; exact congrArg some (zR0_z w 65 7 rfl (by decide))
    · rw [f14_2]; exact congrArg some (zR0_z w 66 700 rfl (by decide))
    · rw [f14_3]; exact congrArg some (zR0_i w 67 140 rfl (by decide))
    · rw [f14_4]; exact congrArg some (zR0_i w 68 84 rfl (by decide))
    · rw [f14_5]; exact congrArg some (zR0_i w 69 2400 rfl (by decide))
    · rw [f14_6]; exact congrArg some (zR0_z w 70 2800 rfl (by decide)))
  refine z_aload_n F dX8_init_61 rfl (lv_at hl 0 rfl) ?_
  refine z_bxv hZ (va_runV (As := []) (rest := []) F (k_X8_anew l w (fun i => 64 ≤ i ∧ i < 71) (aN w 64 65) (a64 w) (w.2.1 + 71) zR0 (fun i h => h)) (cwV 0 F.2.2.2.2 gX8_init_X8_anew rfl rfl rfl (by decide +kernel) ⟨Nat.le_of_ble_eq_true rfl, Nat.le_of_ble_eq_true rfl⟩) (z_preV hK.1 hZ (64) ⟨by decide, by decide⟩ rfl (by decide) rfl _) rfl rfl hl.1 rfl (lv_room (Nat.le_of_ble_eq_true rfl)) dX8_init_62 ⟨Nat.le_of_ble_eq_true rfl, Nat.le_of_ble_eq_true rfl⟩) (fun H locs hZ => ?_)
  exact x_vret F hr hlocks (Zs_Xs hZ) (fun j e h => h) dX8_init_65 (Nat.le_of_ble_eq_true rfl) (Nat.le_of_ble_eq_true rfl)
