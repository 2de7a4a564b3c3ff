theorem xj_y {X Y : zX} {i : Nat} {e : va_E} (h : Y i = some e) : xj X Y i = some e := by
  unfold xj
  rw [h]
theorem xj_x {X Y : zX} {i : Nat} {e : va_E} (h : Y i = none) (h2 : X i = some e) : xj X Y i = some e := by
  unfold xj
  rw [h]
  exact h2
theorem mX3_init_9 : Cond.fieldLink RX3 9 "LockedChain$Mark" "value" "I" ∈ wsX3_init := by decide +kernel
theorem mX3_init_15 : Cond.fieldLink RX3 15 "LockedChain$Mark" "round" "I" ∈ wsX3_init := by decide +kernel
set_option maxHeartbeats 4000000 in
set_option maxRecDepth 100000 in
theorem k_X3_init (l : Launch) (w : zW) (i n : Nat) : Met l yX3_init wsX3_init { frames := 1, cells := 0, slots := 0, locals := 12 } (xPre w (n) (xu x0 (i) (.inr (3, [.int 0, .int 0]))) [.ref (w.2.1 + (i))]) (xQv w (n) (xu (x0) (i) (.inr (3, [.int (zI (-4)), .int (zI (-4))]))) (aN w (i) (n))) 0 0 (aN w (i) (n)) := by
  refine Met.ofW (cc := cX3_init) (maxL := 1) (ret := none) (by decide) rfl ?_
  intro p e s m args below meth c s₁ B hml hv
  obtain ⟨rfl, hsz, hP, hK⟩ := hv
  have F : CallFix p m c cX3_init 1 s _ wsX3_init RX3 := ⟨B.exec, B.bytes, hml, findClass_of_methodNamed B.named, atoms_spec (ws := wsX3_init) B.pre⟩
  have hinit : meth.name = "<init>" := (name_of_methodNamed B.named B.method).1
  have hr := B.returns
  have hlocks := B.notSynchronized
  have hZ : Xs w (aN w (i) (n)) s.heap (n) (xu x0 (i) (.inr (3, [.int 0, .int 0]))) s.heap [] := ⟨hsz, hP, va_S.rf⟩
  have hA : ∀ q, w.2.1 + (n) ≤ q → aN w (i) (n) q := fun q h => Or.inr h
  have hl := lv_entry ([.ref (w.2.1 + (i))]) (n := 1) (Nat.le_of_ble_eq_true rfl)
  rw [lg_entry_eq]
  generalize (lg_sl ([.ref (w.2.1 + (i))]) ++ List.replicate (1 - (lg_sl ([.ref (w.2.1 + (i))])).length) Slot.unset).toArray = ls at hl ⊢
  have hl : lv_has ls 1 [(0, .ref (w.2.1 + (i)))] := hl
  have hin3 : ∀ v ∈ u_ws RX3 TX3 2, v ∈ wsX3_init := by decide +kernel
  obtain ⟨X1, hX1⟩ : ∃ zz : zX, zz = xu x0 (i) (.inr (3, [.int 0, .int 0])) := ⟨_, rfl⟩
  rw [← hX1] at hZ
  have f1_0 : X1 (i) = some (.inr (3, [.int 0, .int 0])) := by rw [hX1]; exact xu_at _ _ _
  refine z_aload_n F dX3_init_0 rfl (lv_at hl 0 rfl) ?_
  refine W.objInit F.1 F.2.1 F.2.2.2.1 (F.2.2.2.2 (.methodLink RX3 3 objectInit) (by decide +kernel)) (F.2.2.2.2 (.instanceMethod objectInit) (by decide +kernel)) (F.2.2.2.2 (.code objectInit ⟨#[0xb1]⟩ 1 none) (by decide +kernel)) rfl (by rw [F.2.2.1]; exact hl.1) rfl dX3_init_1 (Nat.le_of_ble_eq_true rfl) (Nat.le_of_ble_eq_true rfl) ?_
  refine z_aload_n F dX3_init_4 rfl (lv_at hl 0 rfl) ?_
  refine z_bipush F (by decide) dX3_init_5 ?_
  refine x_put F hK hZ (i) (Or.inl rfl) (k := 3) (fs := [.int 0, .int 0]) f1_0 (C := RX3) (T := TX3) (N := 2) rfl hin3 tyX3 tyX3_ok nmX3 0 (by decide) mX3_init_9 rfl rfl rfl rfl (Nat.le_of_ble_eq_true rfl) dX3_init_7 (fun H locs hZ => ?_)
  have hZ : Xs w (aN w (i) (n)) s.heap (n) (xu X1 (i) (.inr (3, [.int (zI (-4)), .int 0]))) H locs := hZ
  obtain ⟨X2, hX2⟩ : ∃ zz : zX, zz = xu X1 (i) (.inr (3, [.int (zI (-4)), .int 0])) := ⟨_, rfl⟩
  rw [← hX2] at hZ
  have f2_0 : X2 (i) = some (.inr (3, [.int (zI (-4)), .int 0])) := by rw [hX2]; exact xu_at _ _ _
  refine z_aload_n F dX3_init_10 rfl (lv_at hl 0 rfl) ?_
  refine z_bipush F (by decide) dX3_init_11 ?_
  refine x_put F hK hZ (i) (Or.inl rfl) (k := 3) (fs := [.int (zI (-4)), .int 0]) f2_0 (C := RX3) (T := TX3) (N := 2) rfl hin3 tyX3 tyX3_ok nmX3 1 (by decide) mX3_init_15 rfl rfl rfl rfl (Nat.le_of_ble_eq_true rfl) dX3_init_13 (fun H locs hZ => ?_)
  have hZ : Xs w (aN w (i) (n)) s.heap (n) (xu X2 (i) (.inr (3, [.int (zI (-4)), .int (zI (-4))]))) H locs := hZ
  obtain ⟨X3, hX3⟩ : ∃ zz : zX, zz = xu X2 (i) (.inr (3, [.int (zI (-4)), .int (zI (-4))])) := ⟨_, rfl⟩
  rw [← hX3] at hZ
  have f3_0 : X3 (i) = some (.inr (3, [.int (zI (-4)), .int (zI (-4))])) := by rw [hX3]; exact xu_at _ _ _
  have hY : ∀ (j : Nat) (e : va_E), (xu (x0) (i) (.inr (3, [.int (zI (-4)), .int (zI (-4))]))) j = some e → X3 j = some e := by
    intro j e hj
    by_cases q0 : j = i
    · rw [q0, xu_at] at hj; cases hj; rw [q0]; exact f3_0
    rw [xu_ne _ _ q0] at hj
    cases hj
  exact x_vret F hr hlocks hZ hY dX3_init_16 (Nat.le_of_ble_eq_true rfl) (Nat.le_of_ble_eq_true rfl)

theorem mX1_init_9 : Cond.fieldLink RX1 9 "LockedChain$Council" "size" "I" ∈ wsX1_init := by decide +kernel
set_option maxHeartbeats 4000000 in
set_option maxRecDepth 100000 in
theorem k_X1_init (l : Launch) (w : zW) (i n : Nat) : Met l yX1_init wsX1_init { frames := 1, cells := 0, slots := 0, locals := 12 } (xPre w (n) (xu x0 (i) (.inr (1, [.int 0]))) [.ref (w.2.1 + (i))]) (xQv w (n) (xu (x0) (i) (.inr (1, [.int (zI (4))]))) (aN w (i) (n))) 0 0 (aN w (i) (n)) := by
  refine Met.ofW (cc := cX1_init) (maxL := 1) (ret := none) (by decide) rfl ?_
  intro p e s m args below meth c s₁ B hml hv
  obtain ⟨rfl, hsz, hP, hK⟩ := hv
  have F : CallFix p m c cX1_init 1 s _ wsX1_init RX1 := ⟨B.exec, B.bytes, hml, findClass_of_methodNamed B.named, atoms_spec (ws := wsX1_init) B.pre⟩
  have hinit : meth.name = "<init>" := (name_of_methodNamed B.named B.method).1
  have hr := B.returns
  have hlocks := B.notSynchronized
  have hZ : Xs w (aN w (i) (n)) s.heap (n) (xu x0 (i) (.inr (1, [.int 0]))) s.heap [] := ⟨hsz, hP, va_S.rf⟩
  have hA : ∀ q, w.2.1 + (n) ≤ q → aN w (i) (n) q := fun q h => Or.inr h
  have hl := lv_entry ([.ref (w.2.1 + (i))]) (n := 1) (Nat.le_of_ble_eq_true rfl)
  rw [lg_entry_eq]
  generalize (lg_sl ([.ref (w.2.1 + (i))]) ++ List.replicate (1 - (lg_sl ([.ref (w.2.1 + (i))])).length) Slot.unset).toArray = ls at hl ⊢
  have hl : lv_has ls 1 [(0, .ref (w.2.1 + (i)))] := hl
  have hin1 : ∀ v ∈ u_ws RX1 TX1 1, v ∈ wsX1_init := by decide +kernel
  obtain ⟨X1, hX1⟩ : ∃ zz : zX, zz = xu x0 (i) (.inr (1, [.int 0])) := ⟨_, rfl⟩
  rw [← hX1] at hZ
  have f1_0 : X1 (i) = some (.inr (1, [.int 0])) := by rw [hX1]; exact xu_at _ _ _
  refine z_aload_n F dX1_init_0 rfl (lv_at hl 0 rfl) ?_
  refine W.objInit F.1 F.2.1 F.2.2.2.1 (F.2.2.2.2 (.methodLink RX1 3 objectInit) (by decide +kernel)) (F.2.2.2.2 (.instanceMethod objectInit) (by decide +kernel)) (F.2.2.2.2 (.code objectInit ⟨#[0xb1]⟩ 1 none) (by decide +kernel)) rfl (by rw [F.2.2.1]; exact hl.1) rfl dX1_init_1 (Nat.le_of_ble_eq_true rfl) (Nat.le_of_ble_eq_true rfl) ?_
  refine z_aload_n F dX1_init_4 rfl (lv_at hl 0 rfl) ?_
  refine z_iconst F dX1_init_5 ?_
  refine x_put F hK hZ (i) (Or.inl rfl) (k := 1) (fs := [.int 0]) f1_0 (C := RX1) (T := TX1) (N := 1) rfl hin1 tyX1 tyX1_ok nmX1 0 (by decide) mX1_init_9 rfl rfl rfl rfl (Nat.le_of_ble_eq_true rfl) dX1_init_6 (fun H locs hZ => ?_)
  have hZ : Xs w (aN w (i) (n)) s.heap (n) (xu X1 (i) (.inr (1, [.int (zI (4))]))) H locs := hZ
  obtain ⟨X2, hX2⟩ : ∃ zz : zX, zz = xu X1 (i) (.inr (1, [.int (zI (4))])) := ⟨_, rfl⟩
  rw [← hX2] at hZ
  have f2_0 : X2 (i) = some (.inr (1, [.int (zI (4))])) := by rw [hX2]; exact xu_at _ _ _
  have hY : ∀ (j : Nat) (e : va_E), (xu (x0) (i) (.inr (1, [.int (zI (4))]))) j = some e → X2 j = some e := by
    intro j e hj
    by_cases q0 : j = i
    · rw [q0, xu_at] at hj; cases hj; rw [q0]; exact f2_0
    rw [xu_ne _ _ q0] at hj
    cases hj
  exact x_vret F hr hlocks hZ hY dX1_init_9 (Nat.le_of_ble_eq_true rfl) (Nat.le_of_ble_eq_true rfl)

theorem mX5_init_9 : Cond.fieldLink RX5 9 "LockedChain$Rules" "council" "LLockedChain$Council;" ∈ wsX5_init := by decide +kernel
theorem mX5_init_15 : Cond.fieldLink RX5 15 "LockedChain$Rules" "post" "LLockedChain$Post;" ∈ wsX5_init := by decide +kernel
set_option maxHeartbeats 4000000 in
set_option maxRecDepth 100000 in
theorem k_X5_init (l : Launch) (w : zW) (i n a b : Nat) : Met l yX5_init wsX5_init { frames := 1, cells := 0, slots := 0, locals := 12 } (xPre w (n) (xu x0 (i) (.inr (5, [.null, .null]))) [.ref (w.2.1 + (i)), .ref (w.2.1 + (a)), .ref (w.2.1 + (b))]) (xQv w (n) (xu (x0) (i) (.inr (5, [.ref (w.2.1 + (a)), .ref (w.2.1 + (b))]))) (aN w (i) (n))) 0 0 (aN w (i) (n)) := by
  refine Met.ofW (cc := cX5_init) (maxL := 3) (ret := none) (by decide) rfl ?_
  intro p e s m args below meth c s₁ B hml hv
  obtain ⟨rfl, hsz, hP, hK⟩ := hv
  have F : CallFix p m c cX5_init 3 s _ wsX5_init RX5 := ⟨B.exec, B.bytes, hml, findClass_of_methodNamed B.named, atoms_spec (ws := wsX5_init) B.pre⟩
  have hinit : meth.name = "<init>" := (name_of_methodNamed B.named B.method).1
  have hr := B.returns
  have hlocks := B.notSynchronized
  have hZ : Xs w (aN w (i) (n)) s.heap (n) (xu x0 (i) (.inr (5, [.null, .null]))) s.heap [] := ⟨hsz, hP, va_S.rf⟩
  have hA : ∀ q, w.2.1 + (n) ≤ q → aN w (i) (n) q := fun q h => Or.inr h
  have hl := lv_entry ([.ref (w.2.1 + (i)), .ref (w.2.1 + (a)), .ref (w.2.1 + (b))]) (n := 3) (Nat.le_of_ble_eq_true rfl)
  rw [lg_entry_eq]
  generalize (lg_sl ([.ref (w.2.1 + (i)), .ref (w.2.1 + (a)), .ref (w.2.1 + (b))]) ++ List.replicate (3 - (lg_sl ([.ref (w.2.1 + (i)), .ref (w.2.1 + (a)), .ref (w.2.1 + (b))])).length) Slot.unset).toArray = ls at hl ⊢
  have hl : lv_has ls 3 [(0, .ref (w.2.1 + (i))), (1, .ref (w.2.1 + (a))), (2, .ref (w.2.1 + (b)))] := hl
  have hin5 : ∀ v ∈ u_ws RX5 TX5 2, v ∈ wsX5_init := by decide +kernel
  obtain ⟨X1, hX1⟩ : ∃ zz : zX, zz = xu x0 (i) (.inr (5, [.null, .null])) := ⟨_, rfl⟩
  rw [← hX1] at hZ
  have f1_0 : X1 (i) = some (.inr (5, [.null, .null])) := by rw [hX1]; exact xu_at _ _ _
  refine z_aload_n F dX5_init_0 rfl (lv_at hl 0 rfl) ?_
  refine W.objInit F.1 F.2.1 F.2.2.2.1 (F.2.2.2.2 (.methodLink RX5 3 objectInit) (by decide +kernel)) (F.2.2.2.2 (.instanceMethod objectInit) (by decide +kernel)) (F.2.2.2.2 (.code objectInit ⟨#[0xb1]⟩ 1 none) (by decide +kernel)) rfl (by rw [F.2.2.1]; exact hl.1) rfl dX5_init_1 (Nat.le_of_ble_eq_true rfl) (Nat.le_of_ble_eq_true rfl) ?_
  refine z_aload_n F dX5_init_4 rfl (lv_at hl 0 rfl) ?_
  refine z_aload_n F dX5_init_5 rfl (lv_at hl 1 rfl) ?_
  refine x_putF F hK hZ (i) (Or.inl rfl) (k := 5) (fs := [.null, .null]) f1_0 (C := RX5) (T := TX5) (N := 2) rfl hin5 tyX5 tyX5_ok nmX5 0 (by decide) mX5_init_9 rfl rfl hinit rfl rfl rfl (Nat.le_of_ble_eq_true rfl) dX5_init_6 (fun H locs hZ => ?_)
  have hZ : Xs w (aN w (i) (n)) s.heap (n) (xu X1 (i) (.inr (5, [.ref (w.2.1 + (a)), .null]))) H locs := hZ
  obtain ⟨X2, hX2⟩ : ∃ zz : zX, zz = xu X1 (i) (.inr (5, [.ref (w.2.1 + (a)), .null])) := ⟨_, rfl⟩
  rw [← hX2] at hZ
  have f2_0 : X2 (i) = some (.inr (5, [.ref (w.2.1 + (a)), .null])) := by rw [hX2]; exact xu_at _ _ _
  refine z_aload_n F dX5_init_9 rfl (lv_at hl 0 rfl) ?_
  refine z_aload_n F dX5_init_10 rfl (lv_at hl 2 rfl) ?_
  refine x_putF F hK hZ (i) (Or.inl rfl) (k := 5) (fs := [.ref (w.2.1 + (a)), .null]) f2_0 (C := RX5) (T := TX5) (N := 2) rfl hin5 tyX5 tyX5_ok nmX5 1 (by decide) mX5_init_15 rfl rfl hinit rfl rfl rfl (Nat.le_of_ble_eq_true rfl) dX5_init_11 (fun H locs hZ => ?_)
  have hZ : Xs w (aN w (i) (n)) s.heap (n) (xu X2 (i) (.inr (5, [.ref (w.2.1 + (a)), .ref (w.2.1 + (b))]))) H locs := hZ
  obtain ⟨X3, hX3⟩ : ∃ zz : zX, zz = xu X2 (i) (.inr (5, [.ref (w.2.1 + (a)), .ref (w.2.1 + (b))])) := ⟨_, rfl⟩
  rw [← hX3] at hZ
  have f3_0 : X3 (i) = some (.inr (5, [.ref (w.2.1 + (a)), .ref (w.2.1 + (b))])) := by rw [hX3]; exact xu_at _ _ _
  have hY : ∀ (j : Nat) (e : va_E), (xu (x0) (i) (.inr (5, [.ref (w.2.1 + (a)), .ref (w.2.1 + (b))]))) j = some e → X3 j = some e := by
    intro j e hj
    by_cases q0 : j = i
    · rw [q0, xu_at] at hj; cases hj; rw [q0]; exact f3_0
    rw [xu_ne _ _ q0] at hj
    cases hj
  exact x_vret F hr hlocks hZ hY dX5_init_14 (Nat.le_of_ble_eq_true rfl) (Nat.le_of_ble_eq_true rfl)

theorem mX0_init_9 : Cond.fieldLink RX0 9 "LockedChain$Chain" "values" "[I" ∈ wsX0_init := by decide +kernel
theorem mX0_init_15 : Cond.fieldLink RX0 15 "LockedChain$Chain" "rounds" "[I" ∈ wsX0_init := by decide +kernel
set_option maxHeartbeats 4000000 in
set_option maxRecDepth 100000 in
theorem k_X0_init (l : Launch) (w : zW) (i n : Nat) (hin : i < n) : Met l yX0_init wsX0_init { frames := 1, cells := 2, slots := 12, locals := 12 } (xPre w (n) (xu x0 (i) (.inr (0, [.null, .null]))) [.ref (w.2.1 + (i))]) (xQv w (n + 2) (xu (xu (xu (x0) (i) (.inr (0, [.ref (w.2.1 + (n)), .ref (w.2.1 + (n + 1))]))) (n) (.inl (w.2.2.1, 6, .inl (fun _ => 0)))) (n + 1) (.inl (w.2.2.1, 6, .inl (fun _ => 0)))) (aN w (i) (n))) 2 12 (aN w (i) (n)) := by
  refine Met.ofW (cc := cX0_init) (maxL := 1) (ret := none) (by decide) rfl ?_
  intro p e s m args below meth c s₁ B hml hv
  obtain ⟨rfl, hsz, hP, hK⟩ := hv
  have F : CallFix p m c cX0_init 1 s _ wsX0_init RX0 := ⟨B.exec, B.bytes, hml, findClass_of_methodNamed B.named, atoms_spec (ws := wsX0_init) B.pre⟩
  have hinit : meth.name = "<init>" := (name_of_methodNamed B.named B.method).1
  have hr := B.returns
  have hlocks := B.notSynchronized
  have hZ : Xs w (aN w (i) (n)) s.heap (n) (xu x0 (i) (.inr (0, [.null, .null]))) s.heap [] := ⟨hsz, hP, va_S.rf⟩
  have hA : ∀ q, w.2.1 + (n) ≤ q → aN w (i) (n) q := fun q h => Or.inr h
  have hl := lv_entry ([.ref (w.2.1 + (i))]) (n := 1) (Nat.le_of_ble_eq_true rfl)
  rw [lg_entry_eq]
  generalize (lg_sl ([.ref (w.2.1 + (i))]) ++ List.replicate (1 - (lg_sl ([.ref (w.2.1 + (i))])).length) Slot.unset).toArray = ls at hl ⊢
  have hl : lv_has ls 1 [(0, .ref (w.2.1 + (i)))] := hl
  have hin0 : ∀ v ∈ u_ws RX0 TX0 2, v ∈ wsX0_init := by decide +kernel
  obtain ⟨X1, hX1⟩ : ∃ zz : zX, zz = xu x0 (i) (.inr (0, [.null, .null])) := ⟨_, rfl⟩
  rw [← hX1] at hZ
  have f1_0 : X1 (i) = some (.inr (0, [.null, .null])) := by rw [hX1]; exact xu_at _ _ _
  refine z_aload_n F dX0_init_0 rfl (lv_at hl 0 rfl) ?_
  refine W.objInit F.1 F.2.1 F.2.2.2.1 (F.2.2.2.2 (.methodLink RX0 3 objectInit) (by decide +kernel)) (F.2.2.2.2 (.instanceMethod objectInit) (by decide +kernel)) (F.2.2.2.2 (.code objectInit ⟨#[0xb1]⟩ 1 none) (by decide +kernel)) rfl (by rw [F.2.2.1]; exact hl.1) rfl dX0_init_1 (Nat.le_of_ble_eq_true rfl) (Nat.le_of_ble_eq_true rfl) ?_
  refine z_aload_n F dX0_init_4 rfl (lv_at hl 0 rfl) ?_
  refine z_bipush F (by decide) dX0_init_5 ?_
  refine x_newI F hK hZ (N := 6) (by decide +kernel) (by omega) rfl (Nat.le_of_ble_eq_true rfl) (Nat.le_of_ble_eq_true rfl) (Nat.le_of_ble_eq_true rfl) dX0_init_7 (fun H hZ => ?_)
  obtain ⟨X2, hX2⟩ : ∃ zz : zX, zz = xu X1 (n) (.inl (w.2.2.1, 6, .inl (fun _ => 0))) := ⟨_, rfl⟩
  rw [← hX2] at hZ
  have f2_1 : X2 (n) = some (.inl (w.2.2.1, 6, .inl (fun _ => 0))) := by rw [hX2]; exact xu_at _ _ _
  have f2_0 : X2 (i) = some (.inr (0, [.null, .null])) := by rw [hX2]; exact (xu_ne _ _ (by omega)).trans f1_0
  refine x_putF F hK hZ (i) (Or.inl rfl) (k := 0) (fs := [.null, .null]) f2_0 (C := RX0) (T := TX0) (N := 2) rfl hin0 tyX0 tyX0_ok nmX0 0 (by decide) mX0_init_9 rfl rfl hinit rfl rfl rfl (Nat.le_of_ble_eq_true rfl) dX0_init_9 (fun H locs hZ => ?_)
  have hZ : Xs w (aN w (i) (n)) s.heap (n + 1) (xu X2 (i) (.inr (0, [.ref (w.2.1 + (n)), .null]))) H locs := hZ
  obtain ⟨X3, hX3⟩ : ∃ zz : zX, zz = xu X2 (i) (.inr (0, [.ref (w.2.1 + (n)), .null])) := ⟨_, rfl⟩
  rw [← hX3] at hZ
  have f3_0 : X3 (i) = some (.inr (0, [.ref (w.2.1 + (n)), .null])) := by rw [hX3]; exact xu_at _ _ _
  have f3_1 : X3 (n) = some (.inl (w.2.2.1, 6, .inl (fun _ => 0))) := by rw [hX3]; exact (xu_ne _ _ (by omega)).trans f2_1
  refine z_aload_n F dX0_init_12 rfl (lv_at hl 0 rfl) ?_
  refine z_bipush F (by decide) dX0_init_13 ?_
  refine x_newI F hK hZ (N := 6) (by decide +kernel) (by omega) rfl (Nat.le_of_ble_eq_true rfl) (Nat.le_of_ble_eq_true rfl) (Nat.le_of_ble_eq_true rfl) dX0_init_15 (fun H hZ => ?_)
  obtain ⟨X4, hX4⟩ : ∃ zz : zX, zz = xu X3 (n + 1) (.inl (w.2.2.1, 6, .inl (fun _ => 0))) := ⟨_, rfl⟩
  rw [← hX4] at hZ
  have f4_2 : X4 (n + 1) = some (.inl (w.2.2.1, 6, .inl (fun _ => 0))) := by rw [hX4]; exact xu_at _ _ _
  have f4_0 : X4 (i) = some (.inr (0, [.ref (w.2.1 + (n)), .null])) := by rw [hX4]; exact (xu_ne _ _ (by omega)).trans f3_0
  have f4_1 : X4 (n) = some (.inl (w.2.2.1, 6, .inl (fun _ => 0))) := by rw [hX4]; exact (xu_ne _ _ (by omega)).trans f3_1
  refine x_putF F hK hZ (i) (Or.inl rfl) (k := 0) (fs := [.ref (w.2.1 + (n)), .null]) f4_0 (C := RX0) (T := TX0) (N := 2) rfl hin0 tyX0 tyX0_ok nmX0 1 (by decide) mX0_init_15 rfl rfl hinit rfl rfl rfl (Nat.le_of_ble_eq_true rfl) dX0_init_17 (fun H locs hZ => ?_)
  have hZ : Xs w (aN w (i) (n)) s.heap (n + 2) (xu X4 (i) (.inr (0, [.ref (w.2.1 + (n)), .ref (w.2.1 + (n + 1))]))) H locs := hZ
  obtain ⟨X5, hX5⟩ : ∃ zz : zX, zz = xu X4 (i) (.inr (0, [.ref (w.2.1 + (n)), .ref (w.2.1 + (n + 1))])) := ⟨_, rfl⟩
  rw [← hX5] at hZ
  have f5_0 : X5 (i) = some (.inr (0, [.ref (w.2.1 + (n)), .ref (w.2.1 + (n + 1))])) := by rw [hX5]; exact xu_at _ _ _
  have f5_1 : X5 (n) = some (.inl (w.2.2.1, 6, .inl (fun _ => 0))) := by rw [hX5]; exact (xu_ne _ _ (by omega)).trans f4_1
  have f5_2 : X5 (n + 1) = some (.inl (w.2.2.1, 6, .inl (fun _ => 0))) := by rw [hX5]; exact (xu_ne _ _ (by omega)).trans f4_2
  have hY : ∀ (j : Nat) (e : va_E), (xu (xu (xu (x0) (i) (.inr (0, [.ref (w.2.1 + (n)), .ref (w.2.1 + (n + 1))]))) (n) (.inl (w.2.2.1, 6, .inl (fun _ => 0)))) (n + 1) (.inl (w.2.2.1, 6, .inl (fun _ => 0)))) j = some e → X5 j = some e := by
    intro j e hj
    by_cases q2 : j = n + 1
    · rw [q2, xu_at] at hj; cases hj; rw [q2]; exact f5_2
    rw [xu_ne _ _ q2] at hj
    by_cases q1 : j = n
    · rw [q1, xu_at] at hj; cases hj; rw [q1]; exact f5_1
    rw [xu_ne _ _ q1] at hj
    by_cases q0 : j = i
    · rw [q0, xu_at] at hj; cases hj; rw [q0]; exact f5_0
    rw [xu_ne _ _ q0] at hj
    cases hj
  exact x_vret F hr hlocks hZ hY dX0_init_20 (Nat.le_of_ble_eq_true rfl) (Nat.le_of_ble_eq_true rfl)

theorem mX4_init_11 : Cond.fieldLink RX4 11 "LockedChain$Post" "letters" "[LLockedChain$Letter;" ∈ wsX4_init := by decide +kernel
theorem mX4_init_17 : Cond.fieldLink RX4 17 "LockedChain$Post" "firsts" "[LLockedChain$Letter;" ∈ wsX4_init := by decide +kernel
theorem mX4_init_20 : Cond.fieldLink RX4 20 "LockedChain$Post" "lasts" "[LLockedChain$Letter;" ∈ wsX4_init := by decide +kernel
theorem mX4_init_23 : Cond.fieldLink RX4 23 "LockedChain$Post" "sent" "I" ∈ wsX4_init := by decide +kernel
set_option maxHeartbeats 4000000 in
set_option maxRecDepth 100000 in
theorem k_X4_init (l : Launch) (w : zW) (i n : Nat) (hin : i < n) : Met l yX4_init wsX4_init { frames := 1, cells := 3, slots := 760, locals := 12 } (xPre w (n) (xu x0 (i) (.inr (4, [.null, .null, .null, .int 0]))) [.ref (w.2.1 + (i))]) (xQv w (n + 3) (xu (xu (xu (xu (x0) (i) (.inr (4, [.ref (w.2.1 + (n)), .ref (w.2.1 + (n + 1)), .ref (w.2.1 + (n + 2)), .int (zI (0))]))) (n) (.inl (w.2.2.2.2.1, 400, .inr (.inr (.inr (.inr (fun _ => none))))))) (n + 1) (.inl (w.2.2.2.2.1, 180, .inr (.inr (.inr (.inr (fun _ => none))))))) (n + 2) (.inl (w.2.2.2.2.1, 180, .inr (.inr (.inr (.inr (fun _ => none))))))) (aN w (i) (n))) 3 760 (aN w (i) (n)) := by
  refine Met.ofW (cc := cX4_init) (maxL := 1) (ret := none) (by decide) rfl ?_
  intro p e s m args below meth c s₁ B hml hv
  obtain ⟨rfl, hsz, hP, hK⟩ := hv
  have F : CallFix p m c cX4_init 1 s _ wsX4_init RX4 := ⟨B.exec, B.bytes, hml, findClass_of_methodNamed B.named, atoms_spec (ws := wsX4_init) B.pre⟩
  have hinit : meth.name = "<init>" := (name_of_methodNamed B.named B.method).1
  have hr := B.returns
  have hlocks := B.notSynchronized
  have hZ : Xs w (aN w (i) (n)) s.heap (n) (xu x0 (i) (.inr (4, [.null, .null, .null, .int 0]))) s.heap [] := ⟨hsz, hP, va_S.rf⟩
  have hA : ∀ q, w.2.1 + (n) ≤ q → aN w (i) (n) q := fun q h => Or.inr h
  have hl := lv_entry ([.ref (w.2.1 + (i))]) (n := 1) (Nat.le_of_ble_eq_true rfl)
  rw [lg_entry_eq]
  generalize (lg_sl ([.ref (w.2.1 + (i))]) ++ List.replicate (1 - (lg_sl ([.ref (w.2.1 + (i))])).length) Slot.unset).toArray = ls at hl ⊢
  have hl : lv_has ls 1 [(0, .ref (w.2.1 + (i)))] := hl
  have hin4 : ∀ v ∈ u_ws RX4 TX4 4, v ∈ wsX4_init := by decide +kernel
  obtain ⟨X1, hX1⟩ : ∃ zz : zX, zz = xu x0 (i) (.inr (4, [.null, .null, .null, .int 0])) := ⟨_, rfl⟩
  rw [← hX1] at hZ
  have f1_0 : X1 (i) = some (.inr (4, [.null, .null, .null, .int 0])) := by rw [hX1]; exact xu_at _ _ _
  refine z_aload_n F dX4_init_0 rfl (lv_at hl 0 rfl) ?_
  refine W.objInit F.1 F.2.1 F.2.2.2.1 (F.2.2.2.2 (.methodLink RX4 3 objectInit) (by decide +kernel)) (F.2.2.2.2 (.instanceMethod objectInit) (by decide +kernel)) (F.2.2.2.2 (.code objectInit ⟨#[0xb1]⟩ 1 none) (by decide +kernel)) rfl (by rw [F.2.2.1]; exact hl.1) rfl dX4_init_1 (Nat.le_of_ble_eq_true rfl) (Nat.le_of_ble_eq_true rfl) ?_
  refine z_aload_n F dX4_init_4 rfl (lv_at hl 0 rfl) ?_
  refine z_sipush F (by decide) dX4_init_5 ?_
  refine x_newQ F hZ (N := 400) (C := RX2) (cA0 := w.2.2.2.2.1) (by decide +kernel) hK.2.2.1 (hK.1.1.2 2 _ rfl).2 (by omega) rfl (Nat.le_of_ble_eq_true rfl) (Nat.le_of_ble_eq_true rfl) (Nat.le_of_ble_eq_true rfl) dX4_init_8 (fun H hZ => ?_)
  obtain ⟨X2, hX2⟩ : ∃ zz : zX, zz = xu X1 (n) (.inl (w.2.2.2.2.1, 400, .inr (.inr (.inr (.inr (fun _ => none)))))) := ⟨_, rfl⟩
  rw [← hX2] at hZ
  have f2_1 : X2 (n) = some (.inl (w.2.2.2.2.1, 400, .inr (.inr (.inr (.inr (fun _ => none)))))) := by rw [hX2]; exact xu_at _ _ _
  have f2_0 : X2 (i) = some (.inr (4, [.null, .null, .null, .int 0])) := by rw [hX2]; exact (xu_ne _ _ (by omega)).trans f1_0
  refine x_putF F hK hZ (i) (Or.inl rfl) (k := 4) (fs := [.null, .null, .null, .int 0]) f2_0 (C := RX4) (T := TX4) (N := 4) rfl hin4 tyX4 tyX4_ok nmX4 0 (by decide) mX4_init_11 rfl rfl hinit rfl rfl rfl (Nat.le_of_ble_eq_true rfl) dX4_init_11 (fun H locs hZ => ?_)
  have hZ : Xs w (aN w (i) (n)) s.heap (n + 1) (xu X2 (i) (.inr (4, [.ref (w.2.1 + (n)), .null, .null, .int 0]))) H locs := hZ
  obtain ⟨X3, hX3⟩ : ∃ zz : zX, zz = xu X2 (i) (.inr (4, [.ref (w.2.1 + (n)), .null, .null, .int 0])) := ⟨_, rfl⟩
  rw [← hX3] at hZ
  have f3_0 : X3 (i) = some (.inr (4, [.ref (w.2.1 + (n)), .null, .null, .int 0])) := by rw [hX3]; exact xu_at _ _ _
  have f3_1 : X3 (n) = some (.inl (w.2.2.2.2.1, 400, .inr (.inr (.inr (.inr (fun _ => none)))))) := by rw [hX3]; exact (xu_ne _ _ (by omega)).trans f2_1
  refine z_aload_n F dX4_init_14 rfl (lv_at hl 0 rfl) ?_
  refine z_sipush F (by decide) dX4_init_15 ?_
  refine x_newQ F hZ (N := 180) (C := RX2) (cA0 := w.2.2.2.2.1) (by decide +kernel) hK.2.2.1 (hK.1.1.2 2 _ rfl).2 (by omega) rfl (Nat.le_of_ble_eq_true rfl) (Nat.le_of_ble_eq_true rfl) (Nat.le_of_ble_eq_true rfl) dX4_init_18 (fun H hZ => ?_)
  obtain ⟨X4, hX4⟩ : ∃ zz : zX, zz = xu X3 (n + 1) (.inl (w.2.2.2.2.1, 180, .inr (.inr (.inr (.inr (fun _ => none)))))) := ⟨_, rfl⟩
  rw [← hX4] at hZ
  have f4_2 : X4 (n + 1) = some (.inl (w.2.2.2.2.1, 180, .inr (.inr (.inr (.inr (fun _ => none)))))) := by rw [hX4]; exact xu_at _ _ _
  have f4_0 : X4 (i) = some (.inr (4, [.ref (w.2.1 + (n)), .null, .null, .int 0])) := by rw [hX4]; exact (xu_ne _ _ (by omega)).trans f3_0
  have f4_1 : X4 (n) = some (.inl (w.2.2.2.2.1, 400, .inr (.inr (.inr (.inr (fun _ => none)))))) := by rw [hX4]; exact (xu_ne _ _ (by omega)).trans f3_1
  refine x_putF F hK hZ (i) (Or.inl rfl) (k := 4) (fs := [.ref (w.2.1 + (n)), .null, .null, .int 0]) f4_0 (C := RX4) (T := TX4) (N := 4) rfl hin4 tyX4 tyX4_ok nmX4 1 (by decide) mX4_init_17 rfl rfl hinit rfl rfl rfl (Nat.le_of_ble_eq_true rfl) dX4_init_21 (fun H locs hZ => ?_)
  have hZ : Xs w (aN w (i) (n)) s.heap (n + 2) (xu X4 (i) (.inr (4, [.ref (w.2.1 + (n)), .ref (w.2.1 + (n + 1)), .null, .int 0]))) H locs := hZ
  obtain ⟨X5, hX5⟩ : ∃ zz : zX, zz = xu X4 (i) (.inr (4, [.ref (w.2.1 + (n)), .ref (w.2.1 + (n + 1)), .null, .int 0])) := ⟨_, rfl⟩
  rw [← hX5] at hZ
  have f5_0 : X5 (i) = some (.inr (4, [.ref (w.2.1 + (n)), .ref (w.2.1 + (n + 1)), .null, .int 0])) := by rw [hX5]; exact xu_at _ _ _
  have f5_1 : X5 (n) = some (.inl (w.2.2.2.2.1, 400, .inr (.inr (.inr (.inr (fun _ => none)))))) := by rw [hX5]; exact (xu_ne _ _ (by omega)).trans f4_1
  have f5_2 : X5 (n + 1) = some (.inl (w.2.2.2.2.1, 180, .inr (.inr (.inr (.inr (fun _ => none)))))) := by rw [hX5]; exact (xu_ne _ _ (by omega)).trans f4_2
  refine z_aload_n F dX4_init_24 rfl (lv_at hl 0 rfl) ?_
  refine z_sipush F (by decide) dX4_init_25 ?_
  refine x_newQ F hZ (N := 180) (C := RX2) (cA0 := w.2.2.2.2.1) (by decide +kernel) hK.2.2.1 (hK.1.1.2 2 _ rfl).2 (by omega) rfl (Nat.le_of_ble_eq_true rfl) (Nat.le_of_ble_eq_true rfl) (Nat.le_of_ble_eq_true rfl) dX4_init_28 (fun H hZ => ?_)
  obtain ⟨X6, hX6⟩ : ∃ zz : zX, zz = xu X5 (n + 2) (.inl (w.2.2.2.2.1, 180, .inr (.inr (.inr (.inr (fun _ => none)))))) := ⟨_, rfl⟩
  rw [← hX6] at hZ
  have f6_3 : X6 (n + 2) = some (.inl (w.2.2.2.2.1, 180, .inr (.inr (.inr (.inr (fun _ => none)))))) := by rw [hX6]; exact xu_at _ _ _
  have f6_0 : X6 (i) = some (.inr (4, [.ref (w.2.1 + (n)), .ref (w.2.1 + (n + 1)), .null, .int 0])) := by rw [hX6]; exact (xu_ne _ _ (by omega)).trans f5_0
  have f6_1 : X6 (n) = some (.inl (w.2.2.2.2.1, 400, .inr (.inr (.inr (.inr (fun _ => none)))))) := by rw [hX6]; exact (xu_ne _ _ (by omega)).trans f5_1
  have f6_2 : X6 (n + 1) = some (.inl (w.2.2.2.2.1, 180, .inr (.inr (.inr (.inr (fun _ => none)))))) := by rw [hX6]; exact (xu_ne _ _ (by omega)).trans f5_2
  refine x_putF F hK hZ (i) (Or.inl rfl) (k := 4) (fs := [.ref (w.2.1 + (n)), .ref (w.2.1 + (n + 1)), .null, .int 0]) f6_0 (C := RX4) (T := TX4) (N := 4) rfl hin4 tyX4 tyX4_ok nmX4 2 (by decide) mX4_init_20 rfl rfl hinit rfl rfl rfl (Nat.le_of_ble_eq_true rfl) dX4_init_31 (fun H locs hZ => ?_)
  have hZ : Xs w (aN w (i) (n)) s.heap (n + 3) (xu X6 (i) (.inr (4, [.ref (w.2.1 + (n)), .ref (w.2.1 + (n + 1)), .ref (w.2.1 + (n + 2)), .int 0]))) H locs := hZ
  obtain ⟨X7, hX7⟩ : ∃ zz : zX, zz = xu X6 (i) (.inr (4, [.ref (w.2.1 + (n)), .ref (w.2.1 + (n + 1)), .ref (w.2.1 + (n + 2)), .int 0])) := ⟨_, rfl⟩
  rw [← hX7] at hZ
  have f7_0 : X7 (i) = some (.inr (4, [.ref (w.2.1 + (n)), .ref (w.2.1 + (n + 1)), .ref (w.2.1 + (n + 2)), .int 0])) := by rw [hX7]; exact xu_at _ _ _
  have f7_1 : X7 (n) = some (.inl (w.2.2.2.2.1, 400, .inr (.inr (.inr (.inr (fun _ => none)))))) := by rw [hX7]; exact (xu_ne _ _ (by omega)).trans f6_1
  have f7_2 : X7 (n + 1) = some (.inl (w.2.2.2.2.1, 180, .inr (.inr (.inr (.inr (fun _ => none)))))) := by rw [hX7]; exact (xu_ne _ _ (by omega)).trans f6_2
  have f7_3 : X7 (n + 2) = some (.inl (w.2.2.2.2.1, 180, .inr (.inr (.inr (.inr (fun _ => none)))))) := by rw [hX7]; exact (xu_ne _ _ (by omega)).trans f6_3
  refine z_aload_n F dX4_init_34 rfl (lv_at hl 0 rfl) ?_
  refine z_iconst F dX4_init_35 ?_
  refine x_put F hK hZ (i) (Or.inl rfl) (k := 4) (fs := [.ref (w.2.1 + (n)), .ref (w.2.1 + (n + 1)), .ref (w.2.1 + (n + 2)), .int 0]) f7_0 (C := RX4) (T := TX4) (N := 4) rfl hin4 tyX4 tyX4_ok nmX4 3 (by decide) mX4_init_23 rfl rfl rfl rfl (Nat.le_of_ble_eq_true rfl) dX4_init_36 (fun H locs hZ => ?_)
  have hZ : Xs w (aN w (i) (n)) s.heap (n + 3) (xu X7 (i) (.inr (4, [.ref (w.2.1 + (n)), .ref (w.2.1 + (n + 1)), .ref (w.2.1 + (n + 2)), .int (zI (0))]))) H locs := hZ
  obtain ⟨X8, hX8⟩ : ∃ zz : zX, zz = xu X7 (i) (.inr (4, [.ref (w.2.1 + (n)), .ref (w.2.1 + (n + 1)), .ref (w.2.1 + (n + 2)), .int (zI (0))])) := ⟨_, rfl⟩
  rw [← hX8] at hZ
  have f8_0 : X8 (i) = some (.inr (4, [.ref (w.2.1 + (n)), .ref (w.2.1 + (n + 1)), .ref (w.2.1 + (n + 2)), .int (zI (0))])) := by rw [hX8]; exact xu_at _ _ _
  have f8_1 : X8 (n) = some (.inl (w.2.2.2.2.1, 400, .inr (.inr (.inr (.inr (fun _ => none)))))) := by rw [hX8]; exact (xu_ne _ _ (by omega)).trans f7_1
  have f8_2 : X8 (n + 1) = some (.inl (w.2.2.2.2.1, 180, .inr (.inr (.inr (.inr (fun _ => none)))))) := by rw [hX8]; exact (xu_ne _ _ (by omega)).trans f7_2
  have f8_3 : X8 (n + 2) = some (.inl (w.2.2.2.2.1, 180, .inr (.inr (.inr (.inr (fun _ => none)))))) := by rw [hX8]; exact (xu_ne _ _ (by omega)).trans f7_3
  have hY : ∀ (j : Nat) (e : va_E), (xu (xu (xu (xu (x0) (i) (.inr (4, [.ref (w.2.1 + (n)), .ref (w.2.1 + (n + 1)), .ref (w.2.1 + (n + 2)), .int (zI (0))]))) (n) (.inl (w.2.2.2.2.1, 400, .inr (.inr (.inr (.inr (fun _ => none))))))) (n + 1) (.inl (w.2.2.2.2.1, 180, .inr (.inr (.inr (.inr (fun _ => none))))))) (n + 2) (.inl (w.2.2.2.2.1, 180, .inr (.inr (.inr (.inr (fun _ => none))))))) j = some e → X8 j = some e := by
    intro j e hj
    by_cases q3 : j = n + 2
    · rw [q3, xu_at] at hj; cases hj; rw [q3]; exact f8_3
    rw [xu_ne _ _ q3] at hj
    by_cases q2 : j = n + 1
    · rw [q2, xu_at] at hj; cases hj; rw [q2]; exact f8_2
    rw [xu_ne _ _ q2] at hj
    by_cases q1 : j = n
    · rw [q1, xu_at] at hj; cases hj; rw [q1]; exact f8_1
    rw [xu_ne _ _ q1] at hj
    by_cases q0 : j = i
    · rw [q0, xu_at] at hj; cases hj; rw [q0]; exact f8_0
    rw [xu_ne _ _ q0] at hj
    cases hj
  exact x_vret F hr hlocks hZ hY dX4_init_39 (Nat.le_of_ble_eq_true rfl) (Nat.le_of_ble_eq_true rfl)
