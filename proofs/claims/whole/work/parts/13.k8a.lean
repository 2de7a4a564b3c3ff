set_option maxHeartbeats 4000000 in
set_option maxRecDepth 100000 in
theorem k_X8_in (l : Launch) (w : zW) (dom : Nat → Prop) (A : Nat → Prop) (hDA : ∀ i, dom i → A (w.2.1 + i)) (sz : Nat) (G : zM) (v lo hi : Int) (hv : -2147483648 ≤ v ∧ v < 2147483648) (hlo : -2147483648 ≤ lo ∧ lo < 2147483648) (hhi : -2147483648 ≤ hi ∧ hi < 2147483648) : Met l yX8_in wsX8_in { frames := 0, cells := 0, slots := 0, locals := 0 } (zPre w dom sz G [.int (zI (v)), .int (zI (lo)), .int (zI (hi))]) (zQi w dom sz (bI (lo ≤ v ∧ v ≤ hi)) (fun C => C = G) A) (0) (0) A := by
  refine Met.ofW (cc := cX8_in) (maxL := 3) (ret := (some .boolean)) (by decide) rfl ?_
  intro p e s m args below meth c s₁ B hml hv
  obtain ⟨rfl, hsz, hP, hK⟩ := hv
  have F : CallFix p m c cX8_in 3 s _ wsX8_in RX8 := ⟨B.exec, B.bytes, hml, findClass_of_methodNamed B.named, atoms_spec (ws := wsX8_in) B.pre⟩
  have hr := B.returns
  have hlocks := B.notSynchronized
  have hZ : Zs w dom A s.heap sz G s.heap [] := ⟨hsz, hP, va_S.rf⟩
  have hl := lv_entry ([.int (zI (v)), .int (zI (lo)), .int (zI (hi))]) (n := 3) (Nat.le_of_ble_eq_true rfl)
  rw [lg_entry_eq]
  generalize (lg_sl ([.int (zI (v)), .int (zI (lo)), .int (zI (hi))]) ++ List.replicate (3 - (lg_sl ([.int (zI (v)), .int (zI (lo)), .int (zI (hi))])).length) Slot.unset).toArray = ls at hl ⊢
  have hl : lv_has ls 3 [(0, .int (zI (v))), (1, .int (zI (lo))), (2, .int (zI (hi)))] := hl
  refine z_iload_n F dX8_in_0 rfl (lv_at hl 0 rfl) ?_
  refine z_iload_n F dX8_in_1 rfl (lv_at hl 1 rfl) ?_
  refine z_icmp_lt (tgt := 14) F (by omega) (by omega) dX8_in_2 (by decide) (fun c_2 => ?_) (fun c_2 => ?_)
  · skip
    refine z_iconst F dX8_in_14 ?_
    exact z_zret F hr hlocks hZ (by first | rfl | omega | (simp only [bI]; omega) | (simp only [bI]; split <;> omega)) (by omega) rfl dX8_in_15 (by omega) (by omega)
  · skip
    refine z_iload_n F dX8_in_5 rfl (lv_at hl 0 rfl) ?_
    refine z_iload_n F dX8_in_6 rfl (lv_at hl 2 rfl) ?_
    refine z_icmp_gt (tgt := 14) F (by omega) (by omega) dX8_in_7 (by decide) (fun c_7 => ?_) (fun c_7 => ?_)
    · skip
      refine z_iconst F dX8_in_14 ?_
      exact z_zret F hr hlocks hZ (by first | rfl | omega | (simp only [bI]; omega) | (simp only [bI]; split <;> omega)) (by omega) rfl dX8_in_15 (by omega) (by omega)
    · skip
      refine z_iconst F dX8_in_10 ?_
      refine lv_goto (tgt := 15) F.1 F.2.1 dX8_in_11 (by decide) ?_
      exact z_zret F hr hlocks hZ (by first | rfl | omega | (simp only [bI]; omega) | (simp only [bI]; split <;> omega)) (by omega) rfl dX8_in_15 (by omega) (by omega)

theorem mX8_isSeat_29 : Cond.fieldLink RX8 29 "LockedChainModel" "n" "I" ∈ wsX8_isSeat := by decide +kernel
set_option maxHeartbeats 4000000 in
set_option maxRecDepth 100000 in
theorem k_X8_isSeat (l : Launch) (w : zW) (dom : Nat → Prop) (A : Nat → Prop) (hDA : ∀ i, dom i → A (w.2.1 + i)) (sz : Nat) (G : zM) (hd : ∀ i, 64 ≤ i ∧ i < 71 → dom i) (hn : 4 ≤ G 64 0 ∧ G 64 0 ≤ 7) (x : Int) (hx : -2147483648 ≤ x ∧ x < 2147483648) : Met l yX8_isSeat wsX8_isSeat { frames := 1, cells := 0, slots := 0, locals := 22 } (zPre w dom sz G [.ref (w.2.1 + (64)), .int (zI (x))]) (zQi w dom sz (bI (0 ≤ x ∧ x ≤ G 64 0 - 1)) (fun C => C = G) A) (0) (0) A := by
  refine Met.ofW (cc := cX8_isSeat) (maxL := 2) (ret := (some .boolean)) (by decide) rfl ?_
  intro p e s m args below meth c s₁ B hml hv
  obtain ⟨rfl, hsz, hP, hK⟩ := hv
  have F : CallFix p m c cX8_isSeat 2 s _ wsX8_isSeat RX8 := ⟨B.exec, B.bytes, hml, findClass_of_methodNamed B.named, atoms_spec (ws := wsX8_isSeat) B.pre⟩
  have hr := B.returns
  have hlocks := B.notSynchronized
  have hZ : Zs w dom A s.heap sz G s.heap [] := ⟨hsz, hP, va_S.rf⟩
  have hl := lv_entry ([.ref (w.2.1 + (64)), .int (zI (x))]) (n := 2) (Nat.le_of_ble_eq_true rfl)
  rw [lg_entry_eq]
  generalize (lg_sl ([.ref (w.2.1 + (64)), .int (zI (x))]) ++ List.replicate (2 - (lg_sl ([.ref (w.2.1 + (64)), .int (zI (x))])).length) Slot.unset).toArray = ls at hl ⊢
  have hl : lv_has ls 2 [(0, .ref (w.2.1 + (64))), (1, .int (zI (x)))] := hl
  have hin8 : ∀ v ∈ u_ws RX8 TX8 10, v ∈ wsX8_isSeat := by decide +kernel
  refine z_iload_n F dX8_isSeat_0 rfl (lv_at hl 1 rfl) ?_
  refine z_iconst F dX8_isSeat_1 ?_
  refine z_aload_n F dX8_isSeat_2 rfl (lv_at hl 0 rfl) ?_
  refine z_get F hK hZ (64) (hd _ (by omega)) rfl (by decide) rfl hin8 0 (by decide) mX8_isSeat_29 rfl rfl dX8_isSeat_3 ?_
  have r_1 := hZ.2.1.1 (64) (0)
  refine z_iconst F dX8_isSeat_6 ?_
  refine z_isub F dX8_isSeat_7 ?_
  refine z_bxi hZ (va_runS (As := [.int (zI (x)), .int (zI (0)), .int (zI ((G 64 0) - 1))]) (rest := []) F (k_X8_in l w dom A hDA sz G x 0 ((G 64 0) - 1) (by omega) (by omega) (by omega)) (va_cwS 3 F.2.2.2.2 gX8_isSeat_X8_in rfl rfl rfl (by decide +kernel) ⟨Nat.le_of_ble_eq_true rfl, Nat.le_of_ble_eq_true rfl⟩) (z_preS hK hZ _) rfl rfl hl.1 rfl (lv_room (Nat.le_of_ble_eq_true rfl)) dX8_isSeat_8 ⟨Nat.le_of_ble_eq_true rfl, Nat.le_of_ble_eq_true rfl⟩) (fun H locs hZ => ?_)
  exact z_zret F hr hlocks hZ (by first | rfl | omega | (simp only [bI]; omega) | (simp only [bI]; split <;> omega)) (bI_01 _) rfl dX8_isSeat_11 (by omega) (by omega)

theorem mX8_many_29 : Cond.fieldLink RX8 29 "LockedChainModel" "n" "I" ∈ wsX8_many := by decide +kernel
set_option maxHeartbeats 4000000 in
set_option maxRecDepth 100000 in
theorem k_X8_many (l : Launch) (w : zW) (dom : Nat → Prop) (A : Nat → Prop) (hDA : ∀ i, dom i → A (w.2.1 + i)) (sz : Nat) (G : zM) (hd : ∀ i, 64 ≤ i ∧ i < 71 → dom i) (hn : 4 ≤ G 64 0 ∧ G 64 0 ≤ 7) : Met l yX8_many wsX8_many { frames := 0, cells := 0, slots := 0, locals := 0 } (zPre w dom sz G [.ref (w.2.1 + (64))]) (zQi w dom sz (2 * G 64 0 / 3 + 1) (fun C => C = G) A) (0) (0) A := by
  refine Met.ofW (cc := cX8_many) (maxL := 1) (ret := (some .int)) (by decide) rfl ?_
  intro p e s m args below meth c s₁ B hml hv
  obtain ⟨rfl, hsz, hP, hK⟩ := hv
  have F : CallFix p m c cX8_many 1 s _ wsX8_many RX8 := ⟨B.exec, B.bytes, hml, findClass_of_methodNamed B.named, atoms_spec (ws := wsX8_many) B.pre⟩
  have hr := B.returns
  have hlocks := B.notSynchronized
  have hZ : Zs w dom A s.heap sz G s.heap [] := ⟨hsz, hP, va_S.rf⟩
  have hl := lv_entry ([.ref (w.2.1 + (64))]) (n := 1) (Nat.le_of_ble_eq_true rfl)
  rw [lg_entry_eq]
  generalize (lg_sl ([.ref (w.2.1 + (64))]) ++ List.replicate (1 - (lg_sl ([.ref (w.2.1 + (64))])).length) Slot.unset).toArray = ls at hl ⊢
  have hl : lv_has ls 1 [(0, .ref (w.2.1 + (64)))] := hl
  have hin8 : ∀ v ∈ u_ws RX8 TX8 10, v ∈ wsX8_many := by decide +kernel
  refine z_iconst F dX8_many_0 ?_
  refine z_aload_n F dX8_many_1 rfl (lv_at hl 0 rfl) ?_
  refine z_get F hK hZ (64) (hd _ (by omega)) rfl (by decide) rfl hin8 0 (by decide) mX8_many_29 rfl rfl dX8_many_2 ?_
  have r_1 := hZ.2.1.1 (64) (0)
  refine z_imul F dX8_many_5 ?_
  refine z_iconst F dX8_many_6 ?_
  refine z_idiv F (by omega) (by omega) dX8_many_7 ?_
  refine z_iconst F dX8_many_8 ?_
  refine z_iadd F dX8_many_9 ?_
  exact z_iret F hr hlocks hZ (by first | rfl | omega | (simp only [bI]; omega) | (simp only [bI]; split <;> omega)) rfl dX8_many_10 (by omega) (by omega)

theorem mX8_some_29 : Cond.fieldLink RX8 29 "LockedChainModel" "n" "I" ∈ wsX8_some := by decide +kernel
set_option maxHeartbeats 4000000 in
set_option maxRecDepth 100000 in
theorem k_X8_some (l : Launch) (w : zW) (dom : Nat → Prop) (A : Nat → Prop) (hDA : ∀ i, dom i → A (w.2.1 + i)) (sz : Nat) (G : zM) (hd : ∀ i, 64 ≤ i ∧ i < 71 → dom i) (hn : 4 ≤ G 64 0 ∧ G 64 0 ≤ 7) : Met l yX8_some wsX8_some { frames := 0, cells := 0, slots := 0, locals := 0 } (zPre w dom sz G [.ref (w.2.1 + (64))]) (zQi w dom sz ((G 64 0 - 1) / 3 + 1) (fun C => C = G) A) (0) (0) A := by
  refine Met.ofW (cc := cX8_some) (maxL := 1) (ret := (some .int)) (by decide) rfl ?_
  intro p e s m args below meth c s₁ B hml hv
  obtain ⟨rfl, hsz, hP, hK⟩ := hv
  have F : CallFix p m c cX8_some 1 s _ wsX8_some RX8 := ⟨B.exec, B.bytes, hml, findClass_of_methodNamed B.named, atoms_spec (ws := wsX8_some) B.pre⟩
  have hr := B.returns
  have hlocks := B.notSynchronized
  have hZ : Zs w dom A s.heap sz G s.heap [] := ⟨hsz, hP, va_S.rf⟩
  have hl := lv_entry ([.ref (w.2.1 + (64))]) (n := 1) (Nat.le_of_ble_eq_true rfl)
  rw [lg_entry_eq]
  generalize (lg_sl ([.ref (w.2.1 + (64))]) ++ List.replicate (1 - (lg_sl ([.ref (w.2.1 + (64))])).length) Slot.unset).toArray = ls at hl ⊢
  have hl : lv_has ls 1 [(0, .ref (w.2.1 + (64)))] := hl
  have hin8 : ∀ v ∈ u_ws RX8 TX8 10, v ∈ wsX8_some := by decide +kernel
  refine z_aload_n F dX8_some_0 rfl (lv_at hl 0 rfl) ?_
  refine z_get F hK hZ (64) (hd _ (by omega)) rfl (by decide) rfl hin8 0 (by decide) mX8_some_29 rfl rfl dX8_some_1 ?_
  have r_1 := hZ.2.1.1 (64) (0)
  refine z_iconst F dX8_some_4 ?_
  refine z_isub F dX8_some_5 ?_
  refine z_iconst F dX8_some_6 ?_
  refine z_idiv F (by omega) (by omega) dX8_some_7 ?_
  refine z_iconst F dX8_some_8 ?_
  refine z_iadd F dX8_some_9 ?_
  exact z_iret F hr hlocks hZ (by first | rfl | omega | (simp only [bI]; omega) | (simp only [bI]; split <;> omega)) rfl dX8_some_10 (by omega) (by omega)

theorem mX8_proposer_29 : Cond.fieldLink RX8 29 "LockedChainModel" "n" "I" ∈ wsX8_proposer := by decide +kernel
set_option maxHeartbeats 4000000 in
set_option maxRecDepth 100000 in
theorem k_X8_proposer (l : Launch) (w : zW) (dom : Nat → Prop) (A : Nat → Prop) (hDA : ∀ i, dom i → A (w.2.1 + i)) (sz : Nat) (G : zM) (hd : ∀ i, 64 ≤ i ∧ i < 71 → dom i) (hn : 4 ≤ G 64 0 ∧ G 64 0 ≤ 7) (h r : Int) (h1 : 0 ≤ h ∧ h < 1000) (h2 : 0 ≤ r ∧ r < 1000) : Met l yX8_proposer wsX8_proposer { frames := 0, cells := 0, slots := 0, locals := 0 } (zPre w dom sz G [.ref (w.2.1 + (64)), .int (zI (h)), .int (zI (r))]) (zQi w dom sz ((h + r) % G 64 0) (fun C => C = G) A) (0) (0) A := by
  refine Met.ofW (cc := cX8_proposer) (maxL := 3) (ret := (some .int)) (by decide) rfl ?_
  intro p e s m args below meth c s₁ B hml hv
  obtain ⟨rfl, hsz, hP, hK⟩ := hv
  have F : CallFix p m c cX8_proposer 3 s _ wsX8_proposer RX8 := ⟨B.exec, B.bytes, hml, findClass_of_methodNamed B.named, atoms_spec (ws := wsX8_proposer) B.pre⟩
  have hr := B.returns
  have hlocks := B.notSynchronized
  have hZ : Zs w dom A s.heap sz G s.heap [] := ⟨hsz, hP, va_S.rf⟩
  have hl := lv_entry ([.ref (w.2.1 + (64)), .int (zI (h)), .int (zI (r))]) (n := 3) (Nat.le_of_ble_eq_true rfl)
  rw [lg_entry_eq]
  generalize (lg_sl ([.ref (w.2.1 + (64)), .int (zI (h)), .int (zI (r))]) ++ List.replicate (3 - (lg_sl ([.ref (w.2.1 + (64)), .int (zI (h)), .int (zI (r))])).length) Slot.unset).toArray = ls at hl ⊢
  have hl : lv_has ls 3 [(0, .ref (w.2.1 + (64))), (1, .int (zI (h))), (2, .int (zI (r)))] := hl
  have hin8 : ∀ v ∈ u_ws RX8 TX8 10, v ∈ wsX8_proposer := by decide +kernel
  refine z_iload_n F dX8_proposer_0 rfl (lv_at hl 1 rfl) ?_
  refine z_iload_n F dX8_proposer_1 rfl (lv_at hl 2 rfl) ?_
  refine z_iadd F dX8_proposer_2 ?_
  refine z_aload_n F dX8_proposer_3 rfl (lv_at hl 0 rfl) ?_
  refine z_get F hK hZ (64) (hd _ (by omega)) rfl (by decide) rfl hin8 0 (by decide) mX8_proposer_29 rfl rfl dX8_proposer_4 ?_
  have r_1 := hZ.2.1.1 (64) (0)
  refine z_irem F (by omega) (by omega) dX8_proposer_7 ?_
  exact z_iret F hr hlocks hZ (by first | rfl | omega | (simp only [bI]; omega) | (simp only [bI]; split <;> omega)) rfl dX8_proposer_8 (by omega) (by omega)

theorem mX8_get_16 : Cond.fieldLink RX8 16 "LockedChainModel" "seat" "[I" ∈ wsX8_get := by decide +kernel
set_option maxHeartbeats 4000000 in
set_option maxRecDepth 100000 in
theorem k_X8_get (l : Launch) (w : zW) (dom : Nat → Prop) (A : Nat → Prop) (hDA : ∀ i, dom i → A (w.2.1 + i)) (sz : Nat) (G : zM) (hd : ∀ i, 64 ≤ i ∧ i < 71 → dom i) (x k : Int) (h0 : 0 ≤ 20 * x + k ∧ 20 * x + k < 140) : Met l yX8_get wsX8_get { frames := 0, cells := 0, slots := 0, locals := 0 } (zPre w dom sz G [.ref (w.2.1 + (64)), .int (zI (x)), .int (zI (k))]) (zQi w dom sz (G 67 (20 * x + k)) (fun C => C = G) A) (0) (0) A := by
  refine Met.ofW (cc := cX8_get) (maxL := 3) (ret := (some .int)) (by decide) rfl ?_
  intro p e s m args below meth c s₁ B hml hv
  obtain ⟨rfl, hsz, hP, hK⟩ := hv
  have F : CallFix p m c cX8_get 3 s _ wsX8_get RX8 := ⟨B.exec, B.bytes, hml, findClass_of_methodNamed B.named, atoms_spec (ws := wsX8_get) B.pre⟩
  have hr := B.returns
  have hlocks := B.notSynchronized
  have hZ : Zs w dom A s.heap sz G s.heap [] := ⟨hsz, hP, va_S.rf⟩
  have hl := lv_entry ([.ref (w.2.1 + (64)), .int (zI (x)), .int (zI (k))]) (n := 3) (Nat.le_of_ble_eq_true rfl)
  rw [lg_entry_eq]
  generalize (lg_sl ([.ref (w.2.1 + (64)), .int (zI (x)), .int (zI (k))]) ++ List.replicate (3 - (lg_sl ([.ref (w.2.1 + (64)), .int (zI (x)), .int (zI (k))])).length) Slot.unset).toArray = ls at hl ⊢
  have hl : lv_has ls 3 [(0, .ref (w.2.1 + (64))), (1, .int (zI (x))), (2, .int (zI (k)))] := hl
  have hin8 : ∀ v ∈ u_ws RX8 TX8 10, v ∈ wsX8_get := by decide +kernel
  refine z_aload_n F dX8_get_0 rfl (lv_at hl 0 rfl) ?_
  refine z_get F hK hZ (64) (hd _ (by omega)) rfl (by decide) rfl hin8 5 (by decide) mX8_get_16 rfl rfl dX8_get_1 ?_
  refine z_bipush F (by decide) dX8_get_4 ?_
  refine z_iload_n F dX8_get_6 rfl (lv_at hl 1 rfl) ?_
  refine z_imul F dX8_get_7 ?_
  refine z_iload_n F dX8_get_8 rfl (lv_at hl 2 rfl) ?_
  refine z_iadd F dX8_get_9 ?_
  refine z_iald F hK hZ (67) (hd _ (by omega)) rfl (by decide) (by omega) (by omega) dX8_get_10 ?_
  have r_1 := hZ.2.1.1 (67) (20 * x + k)
  exact z_iret F hr hlocks hZ (by first | rfl | omega | (simp only [bI]; omega) | (simp only [bI]; split <;> omega)) rfl dX8_get_11 (by omega) (by omega)

theorem mX8_set_16 : Cond.fieldLink RX8 16 "LockedChainModel" "seat" "[I" ∈ wsX8_set := by decide +kernel
set_option maxHeartbeats 4000000 in
set_option maxRecDepth 100000 in
theorem k_X8_set (l : Launch) (w : zW) (dom : Nat → Prop) (A : Nat → Prop) (hDA : ∀ i, dom i → A (w.2.1 + i)) (sz : Nat) (G : zM) (hd : ∀ i, 64 ≤ i ∧ i < 71 → dom i) (x k v : Int) (h0 : 0 ≤ 20 * x + k ∧ 20 * x + k < 140) (hv : -2147483648 ≤ v ∧ v < 2147483648) : Met l yX8_set wsX8_set { frames := 0, cells := 0, slots := 0, locals := 0 } (zPre w dom sz G [.ref (w.2.1 + (64)), .int (zI (x)), .int (zI (k)), .int (zI (v))]) (zQv w dom sz (fun C => C = setM G x k v) A) (0) (0) A := by
  refine Met.ofW (cc := cX8_set) (maxL := 4) (ret := none) (by decide) rfl ?_
  intro p e s m args below meth c s₁ B hml hv
  obtain ⟨rfl, hsz, hP, hK⟩ := hv
  have F : CallFix p m c cX8_set 4 s _ wsX8_set RX8 := ⟨B.exec, B.bytes, hml, findClass_of_methodNamed B.named, atoms_spec (ws := wsX8_set) B.pre⟩
  have hr := B.returns
  have hlocks := B.notSynchronized
  have hZ : Zs w dom A s.heap sz G s.heap [] := ⟨hsz, hP, va_S.rf⟩
  have hl := lv_entry ([.ref (w.2.1 + (64)), .int (zI (x)), .int (zI (k)), .int (zI (v))]) (n := 4) (Nat.le_of_ble_eq_true rfl)
  rw [lg_entry_eq]
  generalize (lg_sl ([.ref (w.2.1 + (64)), .int (zI (x)), .int (zI (k)), .int (zI (v))]) ++ List.replicate (4 - (lg_sl ([.ref (w.2.1 + (64)), .int (zI (x)), .int (zI (k)), .int (zI (v))])).length) Slot.unset).toArray = ls at hl ⊢
  have hl : lv_has ls 4 [(0, .ref (w.2.1 + (64))), (1, .int (zI (x))), (2, .int (zI (k))), (3, .int (zI (v)))] := hl
  have hin8 : ∀ v ∈ u_ws RX8 TX8 10, v ∈ wsX8_set := by decide +kernel
  refine z_aload_n F dX8_set_0 rfl (lv_at hl 0 rfl) ?_
  refine z_get F hK hZ (64) (hd _ (by omega)) rfl (by decide) rfl hin8 5 (by decide) mX8_set_16 rfl rfl dX8_set_1 ?_
  refine z_bipush F (by decide) dX8_set_4 ?_
  refine z_iload_n F dX8_set_6 rfl (lv_at hl 1 rfl) ?_
  refine z_imul F dX8_set_7 ?_
  refine z_iload_n F dX8_set_8 rfl (lv_at hl 2 rfl) ?_
  refine z_iadd F dX8_set_9 ?_
  refine z_iload_n F dX8_set_10 rfl (lv_at hl 3 rfl) ?_
  refine z_iast F hK hZ hDA (67) (hd _ (by omega)) rfl (by decide) (by omega) (by omega) (by omega) dX8_set_11 (fun H locs hZ => ?_)
  exact z_vret F hr hlocks hZ rfl dX8_set_12 (by omega) (by omega)

set_option maxHeartbeats 4000000 in
set_option maxRecDepth 100000 in
theorem k_X8_isDone (l : Launch) (w : zW) (dom : Nat → Prop) (A : Nat → Prop) (hDA : ∀ i, dom i → A (w.2.1 + i)) (sz : Nat) (G : zM) (hd : ∀ i, 64 ≤ i ∧ i < 71 → dom i) (x : Int) (h0 : 0 ≤ x ∧ x < 7) : Met l yX8_isDone wsX8_isDone { frames := 1, cells := 0, slots := 0, locals := 22 } (zPre w dom sz G [.ref (w.2.1 + (64)), .int (zI (x))]) (zQi w dom sz (bI (5 < G 67 (20 * x + 0))) (fun C => C = G) A) (0) (0) A := by
  refine Met.ofW (cc := cX8_isDone) (maxL := 2) (ret := (some .boolean)) (by decide) rfl ?_
  intro p e s m args below meth c s₁ B hml hv
  obtain ⟨rfl, hsz, hP, hK⟩ := hv
  have F : CallFix p m c cX8_isDone 2 s _ wsX8_isDone RX8 := ⟨B.exec, B.bytes, hml, findClass_of_methodNamed B.named, atoms_spec (ws := wsX8_isDone) B.pre⟩
  have hr := B.returns
  have hlocks := B.notSynchronized
  have hZ : Zs w dom A s.heap sz G s.heap [] := ⟨hsz, hP, va_S.rf⟩
  have hl := lv_entry ([.ref (w.2.1 + (64)), .int (zI (x))]) (n := 2) (Nat.le_of_ble_eq_true rfl)
  rw [lg_entry_eq]
  generalize (lg_sl ([.ref (w.2.1 + (64)), .int (zI (x))]) ++ List.replicate (2 - (lg_sl ([.ref (w.2.1 + (64)), .int (zI (x))])).length) Slot.unset).toArray = ls at hl ⊢
  have hl : lv_has ls 2 [(0, .ref (w.2.1 + (64))), (1, .int (zI (x)))] := hl
  refine z_aload_n F dX8_isDone_0 rfl (lv_at hl 0 rfl) ?_
  refine z_iload_n F dX8_isDone_1 rfl (lv_at hl 1 rfl) ?_
  refine z_iconst F dX8_isDone_2 ?_
  refine z_bxi hZ (va_runV (As := [.int (zI (x)), .int (zI (0))]) (rest := []) F (k_X8_get l w dom A hDA sz G hd x 0 (by omega)) (cwV 2 F.2.2.2.2 gX8_isDone_X8_get rfl rfl rfl (by decide +kernel) ⟨Nat.le_of_ble_eq_true rfl, Nat.le_of_ble_eq_true rfl⟩) (z_preV hK hZ (64) (hd _ (by omega)) rfl (by decide) rfl _) rfl rfl hl.1 rfl (lv_room (Nat.le_of_ble_eq_true rfl)) dX8_isDone_3 ⟨Nat.le_of_ble_eq_true rfl, Nat.le_of_ble_eq_true rfl⟩) (fun H locs hZ => ?_)
  have r_1 := hZ.2.1.1 (67) (20 * x + 0)
  refine z_iconst F dX8_isDone_6 ?_
  refine z_icmp_le (tgt := 14) F (by omega) (by omega) dX8_isDone_7 (by decide) (fun c_7 => ?_) (fun c_7 => ?_)
  · skip
    refine z_iconst F dX8_isDone_14 ?_
    exact z_zret F hr hlocks hZ (by first | rfl | omega | (simp only [bI]; omega) | (simp only [bI]; split <;> omega)) (by omega) rfl dX8_isDone_15 (by omega) (by omega)
  · skip
    refine z_iconst F dX8_isDone_10 ?_
    refine lv_goto (tgt := 15) F.1 F.2.1 dX8_isDone_11 (by decide) ?_
    exact z_zret F hr hlocks hZ (by first | rfl | omega | (simp only [bI]; omega) | (simp only [bI]; split <;> omega)) (by omega) rfl dX8_isDone_15 (by omega) (by omega)

theorem mX8_falseMany_7 : Cond.fieldLink RX8 7 "LockedChainModel" "isFalse" "[Z" ∈ wsX8_falseMany := by decide +kernel
theorem mX8_falseMany_29 : Cond.fieldLink RX8 29 "LockedChainModel" "n" "I" ∈ wsX8_falseMany := by decide +kernel
set_option maxHeartbeats 4000000 in
set_option maxRecDepth 100000 in
theorem k_X8_falseMany (l : Launch) (w : zW) (dom : Nat → Prop) (A : Nat → Prop) (hDA : ∀ i, dom i → A (w.2.1 + i)) (sz : Nat) (G : zM) (hd : ∀ i, 64 ≤ i ∧ i < 71 → dom i) (hn : 4 ≤ G 64 0 ∧ G 64 0 ≤ 7) : Met l yX8_falseMany wsX8_falseMany { frames := 0, cells := 0, slots := 0, locals := 0 } (zPre w dom sz G [.ref (w.2.1 + (64))]) (zQi w dom sz (cntB (fun t => decide (G 65 (t : Int) ≠ 0)) (G 64 0).toNat) (fun C => C = G) A) (0) (0) A := by
  refine Met.ofW (cc := cX8_falseMany) (maxL := 3) (ret := (some .int)) (by decide) rfl ?_
  intro p e s m args below meth c s₁ B hml hv
  obtain ⟨rfl, hsz, hP, hK⟩ := hv
  have F : CallFix p m c cX8_falseMany 3 s _ wsX8_falseMany RX8 := ⟨B.exec, B.bytes, hml, findClass_of_methodNamed B.named, atoms_spec (ws := wsX8_falseMany) B.pre⟩
  have hr := B.returns
  have hlocks := B.notSynchronized
  have hZ : Zs w dom A s.heap sz G s.heap [] := ⟨hsz, hP, va_S.rf⟩
  have hl := lv_entry ([.ref (w.2.1 + (64))]) (n := 3) (Nat.le_of_ble_eq_true rfl)
  rw [lg_entry_eq]
  generalize (lg_sl ([.ref (w.2.1 + (64))]) ++ List.replicate (3 - (lg_sl ([.ref (w.2.1 + (64))])).length) Slot.unset).toArray = ls at hl ⊢
  have hl : lv_has ls 3 [(0, .ref (w.2.1 + (64)))] := hl
  have hin8 : ∀ v ∈ u_ws RX8 TX8 10, v ∈ wsX8_falseMany := by decide +kernel
  refine z_iconst F dX8_falseMany_0 ?_
  refine z_istore_n (lv' := [(1, .int (zI (0))), (0, .ref (w.2.1 + (64)))]) F dX8_falseMany_1 rfl hl (by decide) rfl (fun ls hl => ?_)
  refine z_iconst F dX8_falseMany_2 ?_
  refine z_istore_n (lv' := [(2, .int (zI (0))), (1, .int (zI (0))), (0, .ref (w.2.1 + (64)))]) F dX8_falseMany_3 rfl hl (by decide) rfl (fun ls hl => ?_)
  have L_4 : ∀ (nf : Nat) (i : Nat) (acc : Int), ((G 64 0).toNat + 1 ≤ i + nf) → (i ≤ (G 64 0).toNat) → (acc = cntB (fun t => decide (G 65 (t : Int) ≠ 0)) i) →  ∀ (H : Heap) (locs : List Loc) (ls : Array Slot), Zs w dom A s.heap sz G H locs → lv_has ls 3 [(0, .ref (w.2.1 + (64))), (1, .int (zI (acc))), (2, .int (zI ((i : Int))))] → W p l e (headSpec wsX8_falseMany { frames := 0, cells := 0, slots := 0, locals := 0 }).room s m ([.ref (w.2.1 + (64))] : List Value).toArray below meth c H locs (0) (0) (MQ below (zQi w dom sz (cntB (fun t => decide (G 65 (t : Int) ≠ 0)) (G 64 0).toNat) (fun C => C = G) A) ([.ref (w.2.1 + (64))] : List Value).toArray s (0) (0) A) (F0 m 4 ls []) := by
    intro nf
    induction nf with
    | zero => intro i  acc  h4_0 h4_1 h4_2; exact absurd h4_0 (by omega)
    | succ nf ih_4 =>
      intro i  acc  h4_0 h4_1 h4_2 H locs ls hZ hl
      subst h4_2
      have hacc := cntB_rng (fun t => decide (G 65 (t : Int) ≠ 0)) i
      refine z_iload_n F dX8_falseMany_4 rfl (lv_at hl 2 rfl) ?_
      refine z_aload_n F dX8_falseMany_5 rfl (lv_at hl 0 rfl) ?_
      refine z_get F hK hZ (64) (hd _ (by omega)) rfl (by decide) rfl hin8 0 (by decide) mX8_falseMany_29 rfl rfl dX8_falseMany_6 ?_
      have r_1 := hZ.2.1.1 (64) (0)
      refine z_icmp_ge (tgt := 35) F (by omega) (by omega) dX8_falseMany_9 (by decide) (fun c_9 => ?_) (fun c_9 => ?_)
      · skip
        refine z_iload_n F dX8_falseMany_35 rfl (lv_at hl 1 rfl) ?_
        exact z_iret F hr hlocks hZ (by rw [show i = (G 64 0).toNat by omega]) rfl dX8_falseMany_36 (by omega) (by omega)
      · skip
        refine z_iload_n F dX8_falseMany_12 rfl (lv_at hl 1 rfl) ?_
        refine z_aload_n F dX8_falseMany_13 rfl (lv_at hl 0 rfl) ?_
        refine z_get F hK hZ (64) (hd _ (by omega)) rfl (by decide) rfl hin8 3 (by decide) mX8_falseMany_7 rfl rfl dX8_falseMany_14 ?_
        refine z_iload_n F dX8_falseMany_17 rfl (lv_at hl 2 rfl) ?_
        refine z_zald F hK hZ (65) (hd _ (by omega)) rfl (by decide) (by omega) (by omega) dX8_falseMany_18 ?_
        have r_2 := hZ.2.1.1 (65) ((i : Int))
        refine z_if_eq (tgt := 26) F (by omega) dX8_falseMany_19 (by decide) (fun c_19 => ?_) (fun c_19 => ?_)
        · skip
          refine z_iconst F dX8_falseMany_26 ?_
          refine z_iadd F dX8_falseMany_27 ?_
          refine z_istore_n (lv' := [(1, .int (zI (cntB (fun t => decide (G 65 (t : Int) ≠ 0)) i + 0))), (0, .ref (w.2.1 + (64))), (2, .int (zI ((i : Int))))]) F dX8_falseMany_28 rfl hl (by decide) rfl (fun ls hl => ?_)
          refine z_iinc (k := 2) (z := (i : Int)) (lv' := [(2, .int (zI ((i : Int) + 1))), (1, .int (zI (cntB (fun t => decide (G 65 (t : Int) ≠ 0)) i + 0))), (0, .ref (w.2.1 + (64)))]) F dX8_falseMany_29 hl rfl (by decide) rfl (fun ls hl => ?_)
          refine lv_goto (tgt := 4) F.1 F.2.1 dX8_falseMany_32 (by decide) ?_
          exact ih_4 (i + 1) (cntB (fun t => decide (G 65 (t : Int) ≠ 0)) i + 0) (by omega) (by omega) (by rw [cntB_S]; simp [bI, *]) _ _ _ hZ (lv_sub hl [2, 1, 0] rfl)
        · skip
          refine z_iconst F dX8_falseMany_22 ?_
          refine lv_goto (tgt := 27) F.1 F.2.1 dX8_falseMany_23 (by decide) ?_
          refine z_iadd F dX8_falseMany_27 ?_
          refine z_istore_n (lv' := [(1, .int (zI (cntB (fun t => decide (G 65 (t : Int) ≠ 0)) i + 1))), (0, .ref (w.2.1 + (64))), (2, .int (zI ((i : Int))))]) F dX8_falseMany_28 rfl hl (by decide) rfl (fun ls hl => ?_)
          refine z_iinc (k := 2) (z := (i : Int)) (lv' := [(2, .int (zI ((i : Int) + 1))), (1, .int (zI (cntB (fun t => decide (G 65 (t : Int) ≠ 0)) i + 1))), (0, .ref (w.2.1 + (64)))]) F dX8_falseMany_29 hl rfl (by decide) rfl (fun ls hl => ?_)
          refine lv_goto (tgt := 4) F.1 F.2.1 dX8_falseMany_32 (by decide) ?_
          exact ih_4 (i + 1) (cntB (fun t => decide (G 65 (t : Int) ≠ 0)) i + 1) (by omega) (by omega) (by rw [cntB_S]; simp [bI, *]) _ _ _ hZ (lv_sub hl [2, 1, 0] rfl)
  exact L_4 ((G 64 0).toNat + 1) 0 0 (by omega) (by omega) rfl _ _ _ hZ (lv_sub hl [2, 1, 0] rfl)

theorem mX8_isRight_20 : Cond.fieldLink RX8 20 "LockedChainModel" "decided" "[I" ∈ wsX8_isRight := by decide +kernel
set_option maxHeartbeats 4000000 in
set_option maxRecDepth 100000 in
theorem k_X8_isRight (l : Launch) (w : zW) (dom : Nat → Prop) (A : Nat → Prop) (hDA : ∀ i, dom i → A (w.2.1 + i)) (sz : Nat) (G : zM) (hd : ∀ i, 64 ≤ i ∧ i < 71 → dom i) (x v : Int) (h0 : 0 ≤ x ∧ x < 7) (hv : -2147483648 ≤ v ∧ v < 2147483648) : Met l yX8_isRight wsX8_isRight { frames := 0, cells := 0, slots := 0, locals := 0 } (zPre w dom sz G [.ref (w.2.1 + (64)), .int (zI (x)), .int (zI (v))]) (zQi w dom sz (bI (isR G x v = true)) (fun C => C = G) A) (0) (0) A := by
  refine Met.ofW (cc := cX8_isRight) (maxL := 5) (ret := (some .boolean)) (by decide) rfl ?_
  intro p e s m args below meth c s₁ B hml hv
  obtain ⟨rfl, hsz, hP, hK⟩ := hv
  have F : CallFix p m c cX8_isRight 5 s _ wsX8_isRight RX8 := ⟨B.exec, B.bytes, hml, findClass_of_methodNamed B.named, atoms_spec (ws := wsX8_isRight) B.pre⟩
  have hr := B.returns
  have hlocks := B.notSynchronized
  have hZ : Zs w dom A s.heap sz G s.heap [] := ⟨hsz, hP, va_S.rf⟩
  have hl := lv_entry ([.ref (w.2.1 + (64)), .int (zI (x)), .int (zI (v))]) (n := 5) (Nat.le_of_ble_eq_true rfl)
  rw [lg_entry_eq]
  generalize (lg_sl ([.ref (w.2.1 + (64)), .int (zI (x)), .int (zI (v))]) ++ List.replicate (5 - (lg_sl ([.ref (w.2.1 + (64)), .int (zI (x)), .int (zI (v))])).length) Slot.unset).toArray = ls at hl ⊢
  have hl : lv_has ls 5 [(0, .ref (w.2.1 + (64))), (1, .int (zI (x))), (2, .int (zI (v)))] := hl
  have hin8 : ∀ v ∈ u_ws RX8 TX8 10, v ∈ wsX8_isRight := by decide +kernel
  refine z_iconst F dX8_isRight_0 ?_
  refine z_istore_n (lv' := [(3, .int (zI (1))), (0, .ref (w.2.1 + (64))), (1, .int (zI (x))), (2, .int (zI (v)))]) F dX8_isRight_1 rfl hl (by decide) rfl (fun ls hl => ?_)
  refine z_iconst F dX8_isRight_2 ?_
  refine z_istore (lv' := [(4, .int (zI (0))), (3, .int (zI (1))), (0, .ref (w.2.1 + (64))), (1, .int (zI (x))), (2, .int (zI (v)))]) F dX8_isRight_3 hl (by decide) rfl (fun ls hl => ?_)
  have L_5 : ∀ (nf : Nat) (i : Nat) (is : Int), (7 ≤ i + nf) → (i ≤ 6) → (is = bI (v = 0 ∨ ¬ anyB (fun h => decide (G 68 (12 * x + 2 * (h : Int)) = v)) i = true)) →  ∀ (H : Heap) (locs : List Loc) (ls : Array Slot), Zs w dom A s.heap sz G H locs → lv_has ls 5 [(0, .ref (w.2.1 + (64))), (1, .int (zI (x))), (2, .int (zI (v))), (3, .int (zI (is))), (4, .int (zI ((i : Int))))] → W p l e (headSpec wsX8_isRight { frames := 0, cells := 0, slots := 0, locals := 0 }).room s m ([.ref (w.2.1 + (64)), .int (zI (x)), .int (zI (v))] : List Value).toArray below meth c H locs (0) (0) (MQ below (zQi w dom sz (bI (isR G x v = true)) (fun C => C = G) A) ([.ref (w.2.1 + (64)), .int (zI (x)), .int (zI (v))] : List Value).toArray s (0) (0) A) (F0 m 5 ls []) := by
    intro nf
    induction nf with
    | zero => intro i  is  h5_0 h5_1 h5_2; exact absurd h5_0 (by omega)
    | succ nf ih_5 =>
      intro i  is  h5_0 h5_1 h5_2 H locs ls hZ hl
      subst h5_2
      refine z_iload F dX8_isRight_5 (lv_at hl 4 rfl) ?_
      refine z_bipush F (by decide) dX8_isRight_7 ?_
      refine z_icmp_ge (tgt := 50) F (by omega) (by omega) dX8_isRight_9 (by decide) (fun c_9 => ?_) (fun c_9 => ?_)
      · skip
        refine z_iload_n F dX8_isRight_50 rfl (lv_at hl 3 rfl) ?_
        exact z_zret F hr hlocks hZ (bI_c (by rw [show i = 6 by omega]; simp [isR])) (bI_01 _) rfl dX8_isRight_51 (by omega) (by omega)
      · skip
        refine z_iload_n F dX8_isRight_12 rfl (lv_at hl 3 rfl) ?_
        refine z_ifB_eq (tgt := 42) F dX8_isRight_13 (by decide) (fun c_13 => ?_) (fun c_13 => ?_)
        · skip
          refine z_iconst F dX8_isRight_42 ?_
          refine z_istore_n (lv' := [(3, .int (zI (0))), (0, .ref (w.2.1 + (64))), (1, .int (zI (x))), (2, .int (zI (v))), (4, .int (zI ((i : Int))))]) F dX8_isRight_43 rfl hl (by decide) rfl (fun ls hl => ?_)
          refine z_iinc (k := 4) (z := (i : Int)) (lv' := [(4, .int (zI ((i : Int) + 1))), (3, .int (zI (0))), (0, .ref (w.2.1 + (64))), (1, .int (zI (x))), (2, .int (zI (v)))]) F dX8_isRight_44 hl rfl (by decide) rfl (fun ls hl => ?_)
          refine lv_goto (tgt := 5) F.1 F.2.1 dX8_isRight_47 (by decide) ?_
          exact ih_5 (i + 1) (0) (by omega) (by omega) (by have e := anyB_S (fun h : Nat => decide (G 68 (12 * x + 2 * (h : Int)) = v)) i; simp only [decide_eq_true_eq] at e; first | exact bI_1 (Or.inl c_17) | exact bI_1 (Or.inr (fun q => (e.mp q).elim (c_13.resolve_left c_17) c_35)) | exact bI_0 (fun q => c_13 (q.elim Or.inl (fun q => Or.inr (fun z => q (e.mpr (Or.inl z)))))) | exact bI_0 (fun q => q.elim c_17 (fun q => q (e.mpr (Or.inr c_35))))) _ _ _ hZ (lv_sub hl [2, 3, 4, 1, 0] rfl)
        · skip
          refine z_iload_n F dX8_isRight_16 rfl (lv_at hl 2 rfl) ?_
          refine z_if_eq (tgt := 38) F (by omega) dX8_isRight_17 (by decide) (fun c_17 => ?_) (fun c_17 => ?_)
          · skip
            refine z_iconst F dX8_isRight_38 ?_
            refine lv_goto (tgt := 43) F.1 F.2.1 dX8_isRight_39 (by decide) ?_
            refine z_istore_n (lv' := [(3, .int (zI (1))), (0, .ref (w.2.1 + (64))), (1, .int (zI (x))), (2, .int (zI (v))), (4, .int (zI ((i : Int))))]) F dX8_isRight_43 rfl hl (by decide) rfl (fun ls hl => ?_)
            refine z_iinc (k := 4) (z := (i : Int)) (lv' := [(4, .int (zI ((i : Int) + 1))), (3, .int (zI (1))), (0, .ref (w.2.1 + (64))), (1, .int (zI (x))), (2, .int (zI (v)))]) F dX8_isRight_44 hl rfl (by decide) rfl (fun ls hl => ?_)
            refine lv_goto (tgt := 5) F.1 F.2.1 dX8_isRight_47 (by decide) ?_
            exact ih_5 (i + 1) (1) (by omega) (by omega) (by have e := anyB_S (fun h : Nat => decide (G 68 (12 * x + 2 * (h : Int)) = v)) i; simp only [decide_eq_true_eq] at e; first | exact bI_1 (Or.inl c_17) | exact bI_1 (Or.inr (fun q => (e.mp q).elim (c_13.resolve_left c_17) c_35)) | exact bI_0 (fun q => c_13 (q.elim Or.inl (fun q => Or.inr (fun z => q (e.mpr (Or.inl z)))))) | exact bI_0 (fun q => q.elim c_17 (fun q => q (e.mpr (Or.inr c_35))))) _ _ _ hZ (lv_sub hl [2, 3, 4, 1, 0] rfl)
          · skip
            refine z_aload_n F dX8_isRight_20 rfl (lv_at hl 0 rfl) ?_
            refine z_get F hK hZ (64) (hd _ (by omega)) rfl (by decide) rfl hin8 6 (by decide) mX8_isRight_20 rfl rfl dX8_isRight_21 ?_
            refine z_bipush F (by decide) dX8_isRight_24 ?_
            refine z_iload_n F dX8_isRight_26 rfl (lv_at hl 1 rfl) ?_
            refine z_imul F dX8_isRight_27 ?_
            refine z_iconst F dX8_isRight_28 ?_
            refine z_iload F dX8_isRight_29 (lv_at hl 4 rfl) ?_
            refine z_imul F dX8_isRight_31 ?_
            refine z_iadd F dX8_isRight_32 ?_
            refine z_iald F hK hZ (68) (hd _ (by omega)) rfl (by decide) (by omega) (by omega) dX8_isRight_33 ?_
            have r_1 := hZ.2.1.1 (68) (12 * x + (2 * ((i : Int))))
            refine z_iload_n F dX8_isRight_34 rfl (lv_at hl 2 rfl) ?_
            refine z_icmp_eq (tgt := 42) F (by omega) (by omega) dX8_isRight_35 (by decide) (fun c_35 => ?_) (fun c_35 => ?_)
            · skip
              refine z_iconst F dX8_isRight_42 ?_
              refine z_istore_n (lv' := [(3, .int (zI (0))), (0, .ref (w.2.1 + (64))), (1, .int (zI (x))), (2, .int (zI (v))), (4, .int (zI ((i : Int))))]) F dX8_isRight_43 rfl hl (by decide) rfl (fun ls hl => ?_)
              refine z_iinc (k := 4) (z := (i : Int)) (lv' := [(4, .int (zI ((i : Int) + 1))), (3, .int (zI (0))), (0, .ref (w.2.1 + (64))), (1, .int (zI (x))), (2, .int (zI (v)))]) F dX8_isRight_44 hl rfl (by decide) rfl (fun ls hl => ?_)
              refine lv_goto (tgt := 5) F.1 F.2.1 dX8_isRight_47 (by decide) ?_
              exact ih_5 (i + 1) (0) (by omega) (by omega) (by have e := anyB_S (fun h : Nat => decide (G 68 (12 * x + 2 * (h : Int)) = v)) i; simp only [decide_eq_true_eq] at e; first | exact bI_1 (Or.inl c_17) | exact bI_1 (Or.inr (fun q => (e.mp q).elim (c_13.resolve_left c_17) c_35)) | exact bI_0 (fun q => c_13 (q.elim Or.inl (fun q => Or.inr (fun z => q (e.mpr (Or.inl z)))))) | exact bI_0 (fun q => q.elim c_17 (fun q => q (e.mpr (Or.inr c_35))))) _ _ _ hZ (lv_sub hl [2, 3, 4, 1, 0] rfl)
            · skip
              refine z_iconst F dX8_isRight_38 ?_
              refine lv_goto (tgt := 43) F.1 F.2.1 dX8_isRight_39 (by decide) ?_
              refine z_istore_n (lv' := [(3, .int (zI (1))), (0, .ref (w.2.1 + (64))), (1, .int (zI (x))), (2, .int (zI (v))), (4, .int (zI ((i : Int))))]) F dX8_isRight_43 rfl hl (by decide) rfl (fun ls hl => ?_)
              refine z_iinc (k := 4) (z := (i : Int)) (lv' := [(4, .int (zI ((i : Int) + 1))), (3, .int (zI (1))), (0, .ref (w.2.1 + (64))), (1, .int (zI (x))), (2, .int (zI (v)))]) F dX8_isRight_44 hl rfl (by decide) rfl (fun ls hl => ?_)
              refine lv_goto (tgt := 5) F.1 F.2.1 dX8_isRight_47 (by decide) ?_
              exact ih_5 (i + 1) (1) (by omega) (by omega) (by have e := anyB_S (fun h : Nat => decide (G 68 (12 * x + 2 * (h : Int)) = v)) i; simp only [decide_eq_true_eq] at e; first | exact bI_1 (Or.inl c_17) | exact bI_1 (Or.inr (fun q => (e.mp q).elim (c_13.resolve_left c_17) c_35)) | exact bI_0 (fun q => c_13 (q.elim Or.inl (fun q => Or.inr (fun z => q (e.mpr (Or.inl z)))))) | exact bI_0 (fun q => q.elim c_17 (fun q => q (e.mpr (Or.inr c_35))))) _ _ _ hZ (lv_sub hl [2, 3, 4, 1, 0] rfl)
  exact L_5 7 0 1 (by omega) (by omega) (by simp [bI, anyB]) _ _ _ hZ (lv_sub hl [2, 3, 4, 1, 0] rfl)

theorem mX8_sends_23 : Cond.fieldLink RX8 23 "LockedChainModel" "letter" "[I" ∈ wsX8_sends := by decide +kernel
theorem mX8_sends_26 : Cond.fieldLink RX8 26 "LockedChainModel" "came" "[Z" ∈ wsX8_sends := by decide +kernel
theorem mX8_sends_44 : Cond.fieldLink RX8 44 "LockedChainModel" "letters" "I" ∈ wsX8_sends := by decide +kernel
set_option maxHeartbeats 4000000 in
set_option maxRecDepth 100000 in
theorem k_X8_sends (l : Launch) (w : zW) (dom : Nat → Prop) (A : Nat → Prop) (hDA : ∀ i, dom i → A (w.2.1 + i)) (sz : Nat) (G : zM) (hd : ∀ i, 64 ≤ i ∧ i < 71 → dom i) (x kd h r v vr own : Int) (hL : 0 ≤ G 64 7 ∧ G 64 7 ≤ 400) (hx : -2147483648 ≤ x ∧ x < 2147483648) (hkd : -2147483648 ≤ kd ∧ kd < 2147483648) (hh : -2147483648 ≤ h ∧ h < 2147483648) (hr : -2147483648 ≤ r ∧ r < 2147483648) (hv : -2147483648 ≤ v ∧ v < 2147483648) (hvr : -2147483648 ≤ vr ∧ vr < 2147483648) (hown : -2147483648 ≤ own ∧ own < 2147483648) : Met l yX8_sends wsX8_sends { frames := 0, cells := 0, slots := 0, locals := 0 } (zPre w dom sz G [.ref (w.2.1 + (64)), .int (zI (x)), .int (zI (kd)), .int (zI (h)), .int (zI (r)), .int (zI (v)), .int (zI (vr)), .int (zI (own))]) (zQv w dom sz (fun C => C = sendsM G x kd h r v vr own) A) (0) (0) A := by
  refine Met.ofW (cc := cX8_sends) (maxL := 10) (ret := none) (by decide) rfl ?_
  intro p e s m args below meth c s₁ B hml hv
  obtain ⟨rfl, hsz, hP, hK⟩ := hv
  have F : CallFix p m c cX8_sends 10 s _ wsX8_sends RX8 := ⟨B.exec, B.bytes, hml, findClass_of_methodNamed B.named, atoms_spec (ws := wsX8_sends) B.pre⟩
  have hr := B.returns
  have hlocks := B.notSynchronized
  have hZ : Zs w dom A s.heap sz G s.heap [] := ⟨hsz, hP, va_S.rf⟩
  have hl := lv_entry ([.ref (w.2.1 + (64)), .int (zI (x)), .int (zI (kd)), .int (zI (h)), .int (zI (r)), .int (zI (v)), .int (zI (vr)), .int (zI (own))]) (n := 10) (Nat.le_of_ble_eq_true rfl)
  rw [lg_entry_eq]
  generalize (lg_sl ([.ref (w.2.1 + (64)), .int (zI (x)), .int (zI (kd)), .int (zI (h)), .int (zI (r)), .int (zI (v)), .int (zI (vr)), .int (zI (own))]) ++ List.replicate (10 - (lg_sl ([.ref (w.2.1 + (64)), .int (zI (x)), .int (zI (kd)), .int (zI (h)), .int (zI (r)), .int (zI (v)), .int (zI (vr)), .int (zI (own))])).length) Slot.unset).toArray = ls at hl ⊢
  have hl : lv_has ls 10 [(0, .ref (w.2.1 + (64))), (1, .int (zI (x))), (2, .int (zI (kd))), (3, .int (zI (h))), (4, .int (zI (r))), (5, .int (zI (v))), (6, .int (zI (vr))), (7, .int (zI (own)))] := hl
  have hin8 : ∀ v ∈ u_ws RX8 TX8 10, v ∈ wsX8_sends := by decide +kernel
  refine z_aload_n F dX8_sends_0 rfl (lv_at hl 0 rfl) ?_
  refine z_get F hK hZ (64) (hd _ (by omega)) rfl (by decide) rfl hin8 7 (by decide) mX8_sends_44 rfl rfl dX8_sends_1 ?_
  have r_1 := hZ.2.1.1 (64) (7)
  refine z_sipush F (by decide) dX8_sends_4 ?_
  refine z_icmp_ne (tgt := 11) F (by omega) (by omega) dX8_sends_7 (by decide) (fun c_7 => ?_) (fun c_7 => ?_)
  · skip
    skip
    refine z_bipush F (by decide) dX8_sends_11 ?_
    refine z_aload_n F dX8_sends_13 rfl (lv_at hl 0 rfl) ?_
    refine z_get F hK hZ (64) (hd _ (by omega)) rfl (by decide) rfl hin8 7 (by decide) mX8_sends_44 rfl rfl dX8_sends_14 ?_
    have r_2 := hZ.2.1.1 (64) (7)
    refine z_imul F dX8_sends_17 ?_
    refine z_istore (lv' := [(8, .int (zI (6 * (G 64 7)))), (0, .ref (w.2.1 + (64))), (1, .int (zI (x))), (2, .int (zI (kd))), (3, .int (zI (h))), (4, .int (zI (r))), (5, .int (zI (v))), (6, .int (zI (vr))), (7, .int (zI (own)))]) F dX8_sends_18 hl (by decide) rfl (fun ls hl => ?_)
    refine z_aload_n F dX8_sends_20 rfl (lv_at hl 1 rfl) ?_
    refine z_get F hK hZ (64) (hd _ (by omega)) rfl (by decide) rfl hin8 8 (by decide) mX8_sends_23 rfl rfl dX8_sends_21 ?_
    refine z_iload F dX8_sends_24 (lv_at hl 0 rfl) ?_
    refine z_iconst F dX8_sends_26 ?_
    refine z_iadd F dX8_sends_27 ?_
    refine z_iload_n F dX8_sends_28 rfl (lv_at hl 2 rfl) ?_
    refine z_iast F hK hZ hDA (69) (hd _ (by omega)) rfl (by decide) (by omega) (by omega) (by omega) dX8_sends_29 (fun H locs hZ => ?_)
    refine z_aload_n F dX8_sends_30 rfl (lv_at hl 1 rfl) ?_
    refine z_get F hK hZ (64) (hd _ (by omega)) rfl (by decide) rfl hin8 8 (by decide) mX8_sends_23 rfl rfl dX8_sends_31 ?_
    refine z_iload F dX8_sends_34 (lv_at hl 0 rfl) ?_
    refine z_iconst F dX8_sends_36 ?_
    refine z_iadd F dX8_sends_37 ?_
    refine z_iload_n F dX8_sends_38 rfl (lv_at hl 3 rfl) ?_
    refine z_iast F hK hZ hDA (69) (hd _ (by omega)) rfl (by decide) (by omega) (by omega) (by omega) dX8_sends_39 (fun H locs hZ => ?_)
    refine z_aload_n F dX8_sends_40 rfl (lv_at hl 1 rfl) ?_
    refine z_get F hK hZ (64) (hd _ (by omega)) rfl (by decide) rfl hin8 8 (by decide) mX8_sends_23 rfl rfl dX8_sends_41 ?_
    refine z_iload F dX8_sends_44 (lv_at hl 0 rfl) ?_
    refine z_iconst F dX8_sends_46 ?_
    refine z_iadd F dX8_sends_47 ?_
    refine z_iload_n F dX8_sends_48 rfl (lv_at hl 4 rfl) ?_
    refine z_iast F hK hZ hDA (69) (hd _ (by omega)) rfl (by decide) (by omega) (by omega) (by omega) dX8_sends_49 (fun H locs hZ => ?_)
    refine z_aload_n F dX8_sends_50 rfl (lv_at hl 1 rfl) ?_
    refine z_get F hK hZ (64) (hd _ (by omega)) rfl (by decide) rfl hin8 8 (by decide) mX8_sends_23 rfl rfl dX8_sends_51 ?_
    refine z_iload F dX8_sends_54 (lv_at hl 0 rfl) ?_
    refine z_iconst F dX8_sends_56 ?_
    refine z_iadd F dX8_sends_57 ?_
    refine z_iload F dX8_sends_58 (lv_at hl 5 rfl) ?_
    refine z_iast F hK hZ hDA (69) (hd _ (by omega)) rfl (by decide) (by omega) (by omega) (by omega) dX8_sends_60 (fun H locs hZ => ?_)
    refine z_aload_n F dX8_sends_61 rfl (lv_at hl 1 rfl) ?_
    refine z_get F hK hZ (64) (hd _ (by omega)) rfl (by decide) rfl hin8 8 (by decide) mX8_sends_23 rfl rfl dX8_sends_62 ?_
    refine z_iload F dX8_sends_65 (lv_at hl 0 rfl) ?_
    refine z_iconst F dX8_sends_67 ?_
    refine z_iadd F dX8_sends_68 ?_
    refine z_iload F dX8_sends_69 (lv_at hl 6 rfl) ?_
    refine z_iast F hK hZ hDA (69) (hd _ (by omega)) rfl (by decide) (by omega) (by omega) (by omega) dX8_sends_71 (fun H locs hZ => ?_)
    refine z_aload_n F dX8_sends_72 rfl (lv_at hl 1 rfl) ?_
    refine z_get F hK hZ (64) (hd _ (by omega)) rfl (by decide) rfl hin8 8 (by decide) mX8_sends_23 rfl rfl dX8_sends_73 ?_
    refine z_iload F dX8_sends_76 (lv_at hl 0 rfl) ?_
    refine z_iconst F dX8_sends_78 ?_
    refine z_iadd F dX8_sends_79 ?_
    refine z_iload F dX8_sends_80 (lv_at hl 7 rfl) ?_
    refine z_iast F hK hZ hDA (69) (hd _ (by omega)) rfl (by decide) (by omega) (by omega) (by omega) dX8_sends_82 (fun H locs hZ => ?_)
    refine z_iconst F dX8_sends_83 ?_
    refine z_istore (lv' := [(9, .int (zI (0))), (8, .int (zI (6 * (G 64 7)))), (0, .ref (w.2.1 + (64))), (1, .int (zI (x))), (2, .int (zI (kd))), (3, .int (zI (h))), (4, .int (zI (r))), (5, .int (zI (v))), (6, .int (zI (vr))), (7, .int (zI (own)))]) F dX8_sends_84 hl (by decide) rfl (fun ls hl => ?_)
    have L_86 : ∀ (nf : Nat) (i : Nat), (8 ≤ i + nf) → (i ≤ 7) →  ∀ (H : Heap) (locs : List Loc) (ls : Array Slot), Zs w dom A s.heap sz (cameN (up (up (up (up (up (up G 69 (6 * G 64 7 + 0) x) 69 (6 * G 64 7 + 1) kd) 69 (6 * G 64 7 + 2) h) 69 (6 * G 64 7 + 3) r) 69 (6 * G 64 7 + 4) v) 69 (6 * G 64 7 + 5) vr) (G 64 7) x own i) H locs → lv_has ls 10 [(0, .ref (w.2.1 + (64))), (1, .int (zI (x))), (2, .int (zI (kd))), (3, .int (zI (h))), (4, .int (zI (r))), (5, .int (zI (v))), (6, .int (zI (vr))), (7, .int (zI (own))), (9, .int (zI ((i : Int))))] → W p l e (headSpec wsX8_sends { frames := 0, cells := 0, slots := 0, locals := 0 }).room s m ([.ref (w.2.1 + (64)), .int (zI (x)), .int (zI (kd)), .int (zI (h)), .int (zI (r)), .int (zI (v)), .int (zI (vr)), .int (zI (own))] : List Value).toArray below meth c H locs (0) (0) (MQ below (zQv w dom sz (fun C => C = sendsM G x kd h r v vr own) A) ([.ref (w.2.1 + (64)), .int (zI (x)), .int (zI (kd)), .int (zI (h)), .int (zI (r)), .int (zI (v)), .int (zI (vr)), .int (zI (own))] : List Value).toArray s (0) (0) A) (F0 m 86 ls []) := by
      intro nf
      induction nf with
      | zero => intro i  h86_0 h86_1; exact absurd h86_0 (by omega)
      | succ nf ih_86 =>
        intro i  h86_0 h86_1 H locs ls hZ hl
        refine z_iload F dX8_sends_86 (lv_at hl 8 rfl) ?_
        refine z_bipush F (by decide) dX8_sends_88 ?_
        refine z_icmp_ge (tgt := 130) F (by omega) (by omega) dX8_sends_90 (by decide) (fun c_90 => ?_) (fun c_90 => ?_)
        · skip
          refine z_aload_n F dX8_sends_130 rfl (lv_at hl 0 rfl) ?_
          refine lv_dup F.1 F.2.1 dX8_sends_131 rfl ?_
          refine z_get F hK hZ (64) (hd _ (by omega)) rfl (by decide) rfl hin8 7 (by decide) mX8_sends_44 rfl rfl dX8_sends_132 ?_
          have r_3 := hZ.2.1.1 (64) (7)
          refine z_iconst F dX8_sends_135 ?_
          refine z_iadd F dX8_sends_136 ?_
          skip
          refine z_topI (show (cameN (up (up (up (up (up (up G 69 (6 * G 64 7 + 0) x) 69 (6 * G 64 7 + 1) kd) 69 (6 * G 64 7 + 2) h) 69 (6 * G 64 7 + 3) r) 69 (6 * G 64 7 + 4) v) 69 (6 * G 64 7 + 5) vr) (G 64 7) x own i) 64 7 + 1 = G 64 7 + 1 from by rw [cameN_ne _ _ _ _ _ (by decide)]; rfl) ?_
          refine z_put (z := G 64 7 + 1) F hK hZ hDA (64) (hd _ (by omega)) rfl (by decide) rfl hin8 tyX8 tyX8_ok nmX8 7 (by decide) mX8_sends_44 rfl rfl rfl rfl (by omega) (kz := 7) rfl rfl (Nat.le_of_ble_eq_true rfl) dX8_sends_137 (fun H locs hZ => ?_)
          exact z_vret F hr hlocks hZ (by rw [sendsM, if_neg c_7, show i = 7 by omega]) dX8_sends_140 (by omega) (by omega)
        · skip
          refine z_aload_n F dX8_sends_93 rfl (lv_at hl 0 rfl) ?_
          refine z_get F hK hZ (64) (hd _ (by omega)) rfl (by decide) rfl hin8 9 (by decide) mX8_sends_26 rfl rfl dX8_sends_94 ?_
          refine z_bipush F (by decide) dX8_sends_97 ?_
          refine z_aload_n F dX8_sends_99 rfl (lv_at hl 0 rfl) ?_
          refine z_get F hK hZ (64) (hd _ (by omega)) rfl (by decide) rfl hin8 7 (by decide) mX8_sends_44 rfl rfl dX8_sends_100 ?_
          have r_4 := hZ.2.1.1 (64) (7)
          refine z_topI (show (cameN (up (up (up (up (up (up G 69 (6 * G 64 7 + 0) x) 69 (6 * G 64 7 + 1) kd) 69 (6 * G 64 7 + 2) h) 69 (6 * G 64 7 + 3) r) 69 (6 * G 64 7 + 4) v) 69 (6 * G 64 7 + 5) vr) (G 64 7) x own i) 64 7 = G 64 7 from by rw [cameN_ne _ _ _ _ _ (by decide)]; rfl) ?_
          refine z_imul F dX8_sends_103 ?_
          refine z_iload F dX8_sends_104 (lv_at hl 8 rfl) ?_
          refine z_iadd F dX8_sends_106 ?_
          refine z_iload F dX8_sends_107 (lv_at hl 7 rfl) ?_
          refine z_if_eq (tgt := 122) F (by omega) dX8_sends_109 (by decide) (fun c_109 => ?_) (fun c_109 => ?_)
          · skip
            refine z_iconst F dX8_sends_122 ?_
            refine z_topI (show (0 : Int) = bI (own ≠ 0 ∧ (i : Int) = x) from by first | exact bI_1 (by omega) | exact bI_0 (by omega)) ?_
            refine z_zast F hK hZ hDA (70) (hd _ (by omega)) rfl (by decide) (by omega) (by omega) (bI_01 _) dX8_sends_123 (fun H locs hZ => ?_)
            refine z_iinc (k := 8) (z := (i : Int)) (lv' := [(9, .int (zI ((i : Int) + 1))), (0, .ref (w.2.1 + (64))), (1, .int (zI (x))), (2, .int (zI (kd))), (3, .int (zI (h))), (4, .int (zI (r))), (5, .int (zI (v))), (6, .int (zI (vr))), (7, .int (zI (own)))]) F dX8_sends_124 hl rfl (by decide) rfl (fun ls hl => ?_)
            refine lv_goto (tgt := 86) F.1 F.2.1 dX8_sends_127 (by decide) ?_
            exact ih_86 (i + 1) (by omega) (by omega) _ _ _ hZ (lv_sub hl [1, 2, 3, 4, 5, 6, 7, 8, 0] rfl)
          · skip
            refine z_iload F dX8_sends_112 (lv_at hl 8 rfl) ?_
            refine z_iload_n F dX8_sends_114 rfl (lv_at hl 1 rfl) ?_
            refine z_icmp_ne (tgt := 122) F (by omega) (by omega) dX8_sends_115 (by decide) (fun c_115 => ?_) (fun c_115 => ?_)
            · skip
              refine z_iconst F dX8_sends_122 ?_
              refine z_topI (show (0 : Int) = bI (own ≠ 0 ∧ (i : Int) = x) from by first | exact bI_1 (by omega) | exact bI_0 (by omega)) ?_
              refine z_zast F hK hZ hDA (70) (hd _ (by omega)) rfl (by decide) (by omega) (by omega) (bI_01 _) dX8_sends_123 (fun H locs hZ => ?_)
              refine z_iinc (k := 8) (z := (i : Int)) (lv' := [(9, .int (zI ((i : Int) + 1))), (0, .ref (w.2.1 + (64))), (1, .int (zI (x))), (2, .int (zI (kd))), (3, .int (zI (h))), (4, .int (zI (r))), (5, .int (zI (v))), (6, .int (zI (vr))), (7, .int (zI (own)))]) F dX8_sends_124 hl rfl (by decide) rfl (fun ls hl => ?_)
              refine lv_goto (tgt := 86) F.1 F.2.1 dX8_sends_127 (by decide) ?_
              exact ih_86 (i + 1) (by omega) (by omega) _ _ _ hZ (lv_sub hl [1, 2, 3, 4, 5, 6, 7, 8, 0] rfl)
            · skip
              refine z_iconst F dX8_sends_118 ?_
              refine lv_goto (tgt := 123) F.1 F.2.1 dX8_sends_119 (by decide) ?_
              refine z_topI (show (1 : Int) = bI (own ≠ 0 ∧ (i : Int) = x) from by first | exact bI_1 (by omega) | exact bI_0 (by omega)) ?_
              refine z_zast F hK hZ hDA (70) (hd _ (by omega)) rfl (by decide) (by omega) (by omega) (bI_01 _) dX8_sends_123 (fun H locs hZ => ?_)
              refine z_iinc (k := 8) (z := (i : Int)) (lv' := [(9, .int (zI ((i : Int) + 1))), (0, .ref (w.2.1 + (64))), (1, .int (zI (x))), (2, .int (zI (kd))), (3, .int (zI (h))), (4, .int (zI (r))), (5, .int (zI (v))), (6, .int (zI (vr))), (7, .int (zI (own)))]) F dX8_sends_124 hl rfl (by decide) rfl (fun ls hl => ?_)
              refine lv_goto (tgt := 86) F.1 F.2.1 dX8_sends_127 (by decide) ?_
              exact ih_86 (i + 1) (by omega) (by omega) _ _ _ hZ (lv_sub hl [1, 2, 3, 4, 5, 6, 7, 8, 0] rfl)
    exact L_86 8 0 (by omega) (by omega) _ _ _ hZ (lv_sub hl [2, 3, 4, 5, 6, 7, 8, 9, 0] rfl)
  · skip
    exact z_vret F hr hlocks hZ (by rw [sendsM, if_pos c_7]) dX8_sends_10 (by omega) (by omega)

theorem mX8_voted_23 : Cond.fieldLink RX8 23 "LockedChainModel" "letter" "[I" ∈ wsX8_voted := by decide +kernel
theorem mX8_voted_26 : Cond.fieldLink RX8 26 "LockedChainModel" "came" "[Z" ∈ wsX8_voted := by decide +kernel
theorem mX8_voted_29 : Cond.fieldLink RX8 29 "LockedChainModel" "n" "I" ∈ wsX8_voted := by decide +kernel
theorem mX8_voted_44 : Cond.fieldLink RX8 44 "LockedChainModel" "letters" "I" ∈ wsX8_voted := by decide +kernel
set_option maxHeartbeats 4000000 in
set_option maxRecDepth 100000 in
theorem k_X8_voted (l : Launch) (w : zW) (dom : Nat → Prop) (A : Nat → Prop) (hDA : ∀ i, dom i → A (w.2.1 + i)) (sz : Nat) (G : zM) (hd : ∀ i, 64 ≤ i ∧ i < 71 → dom i) (hn : 4 ≤ G 64 0 ∧ G 64 0 ≤ 7) (x kd h r v : Int) (h0 : 0 ≤ x ∧ x < 7) (hL : 0 ≤ G 64 7 ∧ G 64 7 ≤ 400) (hkd : -2147483648 ≤ kd ∧ kd < 2147483648) (hh : -2147483648 ≤ h ∧ h < 2147483648) (hr : -2147483648 ≤ r ∧ r < 2147483648) (hv : -2147483648 ≤ v ∧ v < 2147483648) : Met l yX8_voted wsX8_voted { frames := 0, cells := 0, slots := 0, locals := 0 } (zPre w dom sz G [.ref (w.2.1 + (64)), .int (zI (x)), .int (zI (kd)), .int (zI (h)), .int (zI (r)), .int (zI (v))]) (zQi w dom sz (voteN G x kd h r v) (fun C => C = G) A) (0) (0) A := by
  refine Met.ofW (cc := cX8_voted) (maxL := 11) (ret := (some .int)) (by decide) rfl ?_
  intro p e s m args below meth c s₁ B hml hv
  obtain ⟨rfl, hsz, hP, hK⟩ := hv
  have F : CallFix p m c cX8_voted 11 s _ wsX8_voted RX8 := ⟨B.exec, B.bytes, hml, findClass_of_methodNamed B.named, atoms_spec (ws := wsX8_voted) B.pre⟩
  have hr := B.returns
  have hlocks := B.notSynchronized
  have hZ : Zs w dom A s.heap sz G s.heap [] := ⟨hsz, hP, va_S.rf⟩
  have hl := lv_entry ([.ref (w.2.1 + (64)), .int (zI (x)), .int (zI (kd)), .int (zI (h)), .int (zI (r)), .int (zI (v))]) (n := 11) (Nat.le_of_ble_eq_true rfl)
  rw [lg_entry_eq]
  generalize (lg_sl ([.ref (w.2.1 + (64)), .int (zI (x)), .int (zI (kd)), .int (zI (h)), .int (zI (r)), .int (zI (v))]) ++ List.replicate (11 - (lg_sl ([.ref (w.2.1 + (64)), .int (zI (x)), .int (zI (kd)), .int (zI (h)), .int (zI (r)), .int (zI (v))])).length) Slot.unset).toArray = ls at hl ⊢
  have hl : lv_has ls 11 [(0, .ref (w.2.1 + (64))), (1, .int (zI (x))), (2, .int (zI (kd))), (3, .int (zI (h))), (4, .int (zI (r))), (5, .int (zI (v)))] := hl
  have hin8 : ∀ v ∈ u_ws RX8 TX8 10, v ∈ wsX8_voted := by decide +kernel
  refine z_iconst F dX8_voted_0 ?_
  refine z_istore (lv' := [(6, .int (zI (0))), (0, .ref (w.2.1 + (64))), (1, .int (zI (x))), (2, .int (zI (kd))), (3, .int (zI (h))), (4, .int (zI (r))), (5, .int (zI (v)))]) F dX8_voted_1 hl (by decide) rfl (fun ls hl => ?_)
  refine z_iconst F dX8_voted_3 ?_
  refine z_istore (lv' := [(7, .int (zI (0))), (6, .int (zI (0))), (0, .ref (w.2.1 + (64))), (1, .int (zI (x))), (2, .int (zI (kd))), (3, .int (zI (h))), (4, .int (zI (r))), (5, .int (zI (v)))]) F dX8_voted_4 hl (by decide) rfl (fun ls hl => ?_)
  have L_6 : ∀ (nf : Nat) (t : Nat) (acc : Int), ((G 64 0).toNat + 1 ≤ t + nf) → (t ≤ (G 64 0).toNat) → (acc = cntB (fun t => anyB (vP G x kd h r v t) (G 64 7).toNat) t) →  ∀ (H : Heap) (locs : List Loc) (ls : Array Slot), Zs w dom A s.heap sz G H locs → lv_has ls 11 [(0, .ref (w.2.1 + (64))), (1, .int (zI (x))), (2, .int (zI (kd))), (3, .int (zI (h))), (4, .int (zI (r))), (5, .int (zI (v))), (6, .int (zI (acc))), (7, .int (zI ((t : Int))))] → W p l e (headSpec wsX8_voted { frames := 0, cells := 0, slots := 0, locals := 0 }).room s m ([.ref (w.2.1 + (64)), .int (zI (x)), .int (zI (kd)), .int (zI (h)), .int (zI (r)), .int (zI (v))] : List Value).toArray below meth c H locs (0) (0) (MQ below (zQi w dom sz (voteN G x kd h r v) (fun C => C = G) A) ([.ref (w.2.1 + (64)), .int (zI (x)), .int (zI (kd)), .int (zI (h)), .int (zI (r)), .int (zI (v))] : List Value).toArray s (0) (0) A) (F0 m 6 ls []) := by
    intro nf
    induction nf with
    | zero => intro t  acc  h6_0 h6_1 h6_2; exact absurd h6_0 (by omega)
    | succ nf ih_6 =>
      intro t  acc  h6_0 h6_1 h6_2 H locs ls hZ hl
      subst h6_2
      have hacc := cntB_rng (fun t => anyB (vP G x kd h r v t) (G 64 7).toNat) t
      refine z_iload F dX8_voted_6 (lv_at hl 7 rfl) ?_
      refine z_aload_n F dX8_voted_8 rfl (lv_at hl 0 rfl) ?_
      refine z_get F hK hZ (64) (hd _ (by omega)) rfl (by decide) rfl hin8 0 (by decide) mX8_voted_29 rfl rfl dX8_voted_9 ?_
      have r_1 := hZ.2.1.1 (64) (0)
      refine z_icmp_ge (tgt := 166) F (by omega) (by omega) dX8_voted_12 (by decide) (fun c_12 => ?_) (fun c_12 => ?_)
      · skip
        refine z_iload F dX8_voted_166 (lv_at hl 6 rfl) ?_
        exact z_iret F hr hlocks hZ (by rw [voteN, show t = (G 64 0).toNat by omega]) rfl dX8_voted_168 (by omega) (by omega)
      · skip
        refine z_iconst F dX8_voted_15 ?_
        refine z_istore (lv' := [(8, .int (zI (0))), (0, .ref (w.2.1 + (64))), (1, .int (zI (x))), (2, .int (zI (kd))), (3, .int (zI (h))), (4, .int (zI (r))), (5, .int (zI (v))), (6, .int (zI (cntB (fun t => anyB (vP G x kd h r v t) (G 64 7).toNat) t))), (7, .int (zI ((t : Int))))]) F dX8_voted_16 hl (by decide) rfl (fun ls hl => ?_)
        refine z_iconst F dX8_voted_18 ?_
        refine z_istore (lv' := [(9, .int (zI (0))), (8, .int (zI (0))), (0, .ref (w.2.1 + (64))), (1, .int (zI (x))), (2, .int (zI (kd))), (3, .int (zI (h))), (4, .int (zI (r))), (5, .int (zI (v))), (6, .int (zI (cntB (fun t => anyB (vP G x kd h r v t) (G 64 7).toNat) t))), (7, .int (zI ((t : Int))))]) F dX8_voted_19 hl (by decide) rfl (fun ls hl => ?_)
        have L_21 : ∀ (nf : Nat) (i : Nat) (is : Int), ((G 64 7).toNat + 1 ≤ i + nf) → (i ≤ (G 64 7).toNat) → (is = bI (anyB (vP G x kd h r v t) i = true)) →  ∀ (H : Heap) (locs : List Loc) (ls : Array Slot), Zs w dom A s.heap sz G H locs → lv_has ls 11 [(0, .ref (w.2.1 + (64))), (1, .int (zI (x))), (2, .int (zI (kd))), (3, .int (zI (h))), (4, .int (zI (r))), (5, .int (zI (v))), (6, .int (zI (cntB (fun t => anyB (vP G x kd h r v t) (G 64 7).toNat) t))), (7, .int (zI ((t : Int)))), (8, .int (zI (is))), (9, .int (zI ((i : Int))))] → W p l e (headSpec wsX8_voted { frames := 0, cells := 0, slots := 0, locals := 0 }).room s m ([.ref (w.2.1 + (64)), .int (zI (x)), .int (zI (kd)), .int (zI (h)), .int (zI (r)), .int (zI (v))] : List Value).toArray below meth c H locs (0) (0) (MQ below (zQi w dom sz (voteN G x kd h r v) (fun C => C = G) A) ([.ref (w.2.1 + (64)), .int (zI (x)), .int (zI (kd)), .int (zI (h)), .int (zI (r)), .int (zI (v))] : List Value).toArray s (0) (0) A) (F0 m 21 ls []) := by
          intro nf
          induction nf with
          | zero => intro i  is  h21_0 h21_1 h21_2; exact absurd h21_0 (by omega)
          | succ nf ih_21 =>
            intro i  is  h21_0 h21_1 h21_2 H locs ls hZ hl
            subst h21_2
            refine z_iload F dX8_voted_21 (lv_at hl 9 rfl) ?_
            refine z_aload_n F dX8_voted_23 rfl (lv_at hl 0 rfl) ?_
            refine z_get F hK hZ (64) (hd _ (by omega)) rfl (by decide) rfl hin8 7 (by decide) mX8_voted_44 rfl rfl dX8_voted_24 ?_
            have r_2 := hZ.2.1.1 (64) (7)
            refine z_icmp_ge (tgt := 145) F (by omega) (by omega) dX8_voted_27 (by decide) (fun c_27 => ?_) (fun c_27 => ?_)
            · skip
              have hi : i = (G 64 7).toNat := by omega
              refine z_iload F dX8_voted_145 (lv_at hl 6 rfl) ?_
              refine z_iload F dX8_voted_147 (lv_at hl 8 rfl) ?_
              refine z_ifB_eq (tgt := 156) F dX8_voted_149 (by decide) (fun c_149 => ?_) (fun c_149 => ?_)
              · skip
                refine z_iconst F dX8_voted_156 ?_
                refine z_iadd F dX8_voted_157 ?_
                refine z_istore (lv' := [(6, .int (zI (cntB (fun t => anyB (vP G x kd h r v t) (G 64 7).toNat) t + 0))), (0, .ref (w.2.1 + (64))), (1, .int (zI (x))), (2, .int (zI (kd))), (3, .int (zI (h))), (4, .int (zI (r))), (5, .int (zI (v))), (7, .int (zI ((t : Int)))), (8, .int (zI (bI (anyB (vP G x kd h r v t) i = true)))), (9, .int (zI ((i : Int))))]) F dX8_voted_158 hl (by decide) rfl (fun ls hl => ?_)
                refine z_iinc (k := 7) (z := (t : Int)) (lv' := [(7, .int (zI ((t : Int) + 1))), (6, .int (zI (cntB (fun t => anyB (vP G x kd h r v t) (G 64 7).toNat) t + 0))), (0, .ref (w.2.1 + (64))), (1, .int (zI (x))), (2, .int (zI (kd))), (3, .int (zI (h))), (4, .int (zI (r))), (5, .int (zI (v))), (8, .int (zI (bI (anyB (vP G x kd h r v t) i = true)))), (9, .int (zI ((i : Int))))]) F dX8_voted_160 hl rfl (by decide) rfl (fun ls hl => ?_)
                refine lv_goto (tgt := 6) F.1 F.2.1 dX8_voted_163 (by decide) ?_
                exact ih_6 (t + 1) (cntB (fun t => anyB (vP G x kd h r v t) (G 64 7).toNat) t + 0) (by omega) (by omega) (by rw [cntB_S]; first | rw [bI_t (by rw [← hi]; exact c_149)] | rw [bI_f (by rw [← hi]; exact c_149)]) _ _ _ hZ (lv_sub hl [2, 3, 4, 5, 6, 7, 1, 0] rfl)
              · skip
                refine z_iconst F dX8_voted_152 ?_
                refine lv_goto (tgt := 157) F.1 F.2.1 dX8_voted_153 (by decide) ?_
                refine z_iadd F dX8_voted_157 ?_
                refine z_istore (lv' := [(6, .int (zI (cntB (fun t => anyB (vP G x kd h r v t) (G 64 7).toNat) t + 1))), (0, .ref (w.2.1 + (64))), (1, .int (zI (x))), (2, .int (zI (kd))), (3, .int (zI (h))), (4, .int (zI (r))), (5, .int (zI (v))), (7, .int (zI ((t : Int)))), (8, .int (zI (bI (anyB (vP G x kd h r v t) i = true)))), (9, .int (zI ((i : Int))))]) F dX8_voted_158 hl (by decide) rfl (fun ls hl => ?_)
                refine z_iinc (k := 7) (z := (t : Int)) (lv' := [(7, .int (zI ((t : Int) + 1))), (6, .int (zI (cntB (fun t => anyB (vP G x kd h r v t) (G 64 7).toNat) t + 1))), (0, .ref (w.2.1 + (64))), (1, .int (zI (x))), (2, .int (zI (kd))), (3, .int (zI (h))), (4, .int (zI (r))), (5, .int (zI (v))), (8, .int (zI (bI (anyB (vP G x kd h r v t) i = true)))), (9, .int (zI ((i : Int))))]) F dX8_voted_160 hl rfl (by decide) rfl (fun ls hl => ?_)
                refine lv_goto (tgt := 6) F.1 F.2.1 dX8_voted_163 (by decide) ?_
                exact ih_6 (t + 1) (cntB (fun t => anyB (vP G x kd h r v t) (G 64 7).toNat) t + 1) (by omega) (by omega) (by rw [cntB_S]; first | rw [bI_t (by rw [← hi]; exact c_149)] | rw [bI_f (by rw [← hi]; exact c_149)]) _ _ _ hZ (lv_sub hl [2, 3, 4, 5, 6, 7, 1, 0] rfl)
            · skip
              refine z_bipush F (by decide) dX8_voted_30 ?_
              refine z_iload F dX8_voted_32 (lv_at hl 9 rfl) ?_
              refine z_imul F dX8_voted_34 ?_
              refine z_istore (lv' := [(10, .int (zI (6 * ((i : Int))))), (0, .ref (w.2.1 + (64))), (1, .int (zI (x))), (2, .int (zI (kd))), (3, .int (zI (h))), (4, .int (zI (r))), (5, .int (zI (v))), (6, .int (zI (cntB (fun t => anyB (vP G x kd h r v t) (G 64 7).toNat) t))), (7, .int (zI ((t : Int)))), (8, .int (zI (bI (anyB (vP G x kd h r v t) i = true)))), (9, .int (zI ((i : Int))))]) F dX8_voted_35 hl (by decide) rfl (fun ls hl => ?_)
              refine z_iload F dX8_voted_37 (lv_at hl 9 rfl) ?_
              refine z_ifB_ne (tgt := 132) F dX8_voted_39 (by decide) (fun c_39 => ?_) (fun c_39 => ?_)
              · skip
                refine z_iconst F dX8_voted_132 ?_
                refine lv_goto (tgt := 137) F.1 F.2.1 dX8_voted_133 (by decide) ?_
                refine z_istore (lv' := [(8, .int (zI (1))), (10, .int (zI (6 * ((i : Int))))), (0, .ref (w.2.1 + (64))), (1, .int (zI (x))), (2, .int (zI (kd))), (3, .int (zI (h))), (4, .int (zI (r))), (5, .int (zI (v))), (6, .int (zI (cntB (fun t => anyB (vP G x kd h r v t) (G 64 7).toNat) t))), (7, .int (zI ((t : Int)))), (9, .int (zI ((i : Int))))]) F dX8_voted_137 hl (by decide) rfl (fun ls hl => ?_)
                refine z_iinc (k := 10) (z := (i : Int)) (lv' := [(9, .int (zI ((i : Int) + 1))), (8, .int (zI (1))), (10, .int (zI (6 * ((i : Int))))), (0, .ref (w.2.1 + (64))), (1, .int (zI (x))), (2, .int (zI (kd))), (3, .int (zI (h))), (4, .int (zI (r))), (5, .int (zI (v))), (6, .int (zI (cntB (fun t => anyB (vP G x kd h r v t) (G 64 7).toNat) t))), (7, .int (zI ((t : Int))))]) F dX8_voted_139 hl rfl (by decide) rfl (fun ls hl => ?_)
                refine lv_goto (tgt := 21) F.1 F.2.1 dX8_voted_142 (by decide) ?_
                exact ih_21 (i + 1) (1) (by omega) (by omega) (by first | exact bI_1 ((anyB_S _ _).mpr (Or.inl c_39)) | exact bI_1 ((anyB_S _ _).mpr (Or.inr (by simp only [vP, decide_eq_true_eq]; omega))) | exact bI_0 (fun q => ((anyB_S _ _).mp q).elim c_39 (fun q => by simp only [vP, decide_eq_true_eq] at q; omega))) _ _ _ hZ (lv_sub hl [3, 4, 5, 6, 7, 8, 9, 10, 1, 0] rfl)
              · skip
                refine z_aload_n F dX8_voted_42 rfl (lv_at hl 1 rfl) ?_
                refine z_get F hK hZ (64) (hd _ (by omega)) rfl (by decide) rfl hin8 9 (by decide) mX8_voted_26 rfl rfl dX8_voted_43 ?_
                refine z_bipush F (by decide) dX8_voted_46 ?_
                refine z_iload F dX8_voted_48 (lv_at hl 10 rfl) ?_
                refine z_imul F dX8_voted_50 ?_
                refine z_iload_n F dX8_voted_51 rfl (lv_at hl 2 rfl) ?_
                refine z_iadd F dX8_voted_52 ?_
                refine z_zald F hK hZ (70) (hd _ (by omega)) rfl (by decide) (by omega) (by omega) dX8_voted_53 ?_
                have r_3 := hZ.2.1.1 (70) (7 * ((i : Int)) + x)
                refine z_if_eq (tgt := 136) F (by omega) dX8_voted_54 (by decide) (fun c_54 => ?_) (fun c_54 => ?_)
                · skip
                  refine z_iconst F dX8_voted_136 ?_
                  refine z_istore (lv' := [(8, .int (zI (0))), (10, .int (zI (6 * ((i : Int))))), (0, .ref (w.2.1 + (64))), (1, .int (zI (x))), (2, .int (zI (kd))), (3, .int (zI (h))), (4, .int (zI (r))), (5, .int (zI (v))), (6, .int (zI (cntB (fun t => anyB (vP G x kd h r v t) (G 64 7).toNat) t))), (7, .int (zI ((t : Int)))), (9, .int (zI ((i : Int))))]) F dX8_voted_137 hl (by decide) rfl (fun ls hl => ?_)
                  refine z_iinc (k := 10) (z := (i : Int)) (lv' := [(9, .int (zI ((i : Int) + 1))), (8, .int (zI (0))), (10, .int (zI (6 * ((i : Int))))), (0, .ref (w.2.1 + (64))), (1, .int (zI (x))), (2, .int (zI (kd))), (3, .int (zI (h))), (4, .int (zI (r))), (5, .int (zI (v))), (6, .int (zI (cntB (fun t => anyB (vP G x kd h r v t) (G 64 7).toNat) t))), (7, .int (zI ((t : Int))))]) F dX8_voted_139 hl rfl (by decide) rfl (fun ls hl => ?_)
                  refine lv_goto (tgt := 21) F.1 F.2.1 dX8_voted_142 (by decide) ?_
                  exact ih_21 (i + 1) (0) (by omega) (by omega) (by first | exact bI_1 ((anyB_S _ _).mpr (Or.inl c_39)) | exact bI_1 ((anyB_S _ _).mpr (Or.inr (by simp only [vP, decide_eq_true_eq]; omega))) | exact bI_0 (fun q => ((anyB_S _ _).mp q).elim c_39 (fun q => by simp only [vP, decide_eq_true_eq] at q; omega))) _ _ _ hZ (lv_sub hl [3, 4, 5, 6, 7, 8, 9, 10, 1, 0] rfl)
                · skip
                  refine z_aload_n F dX8_voted_57 rfl (lv_at hl 1 rfl) ?_
                  refine z_get F hK hZ (64) (hd _ (by omega)) rfl (by decide) rfl hin8 8 (by decide) mX8_voted_23 rfl rfl dX8_voted_58 ?_
                  refine z_iload F dX8_voted_61 (lv_at hl 0 rfl) ?_
                  refine z_iconst F dX8_voted_63 ?_
                  refine z_iadd F dX8_voted_64 ?_
                  refine z_iald F hK hZ (69) (hd _ (by omega)) rfl (by decide) (by omega) (by omega) dX8_voted_65 ?_
                  have r_4 := hZ.2.1.1 (69) (6 * ((i : Int)) + 0)
                  refine z_iload F dX8_voted_66 (lv_at hl 8 rfl) ?_
                  refine z_icmp_ne (tgt := 136) F (by omega) (by omega) dX8_voted_68 (by decide) (fun c_68 => ?_) (fun c_68 => ?_)
                  · skip
                    refine z_iconst F dX8_voted_136 ?_
                    refine z_istore (lv' := [(8, .int (zI (0))), (10, .int (zI (6 * ((i : Int))))), (0, .ref (w.2.1 + (64))), (1, .int (zI (x))), (2, .int (zI (kd))), (3, .int (zI (h))), (4, .int (zI (r))), (5, .int (zI (v))), (6, .int (zI (cntB (fun t => anyB (vP G x kd h r v t) (G 64 7).toNat) t))), (7, .int (zI ((t : Int)))), (9, .int (zI ((i : Int))))]) F dX8_voted_137 hl (by decide) rfl (fun ls hl => ?_)
                    refine z_iinc (k := 10) (z := (i : Int)) (lv' := [(9, .int (zI ((i : Int) + 1))), (8, .int (zI (0))), (10, .int (zI (6 * ((i : Int))))), (0, .ref (w.2.1 + (64))), (1, .int (zI (x))), (2, .int (zI (kd))), (3, .int (zI (h))), (4, .int (zI (r))), (5, .int (zI (v))), (6, .int (zI (cntB (fun t => anyB (vP G x kd h r v t) (G 64 7).toNat) t))), (7, .int (zI ((t : Int))))]) F dX8_voted_139 hl rfl (by decide) rfl (fun ls hl => ?_)
                    refine lv_goto (tgt := 21) F.1 F.2.1 dX8_voted_142 (by decide) ?_
                    exact ih_21 (i + 1) (0) (by omega) (by omega) (by first | exact bI_1 ((anyB_S _ _).mpr (Or.inl c_39)) | exact bI_1 ((anyB_S _ _).mpr (Or.inr (by simp only [vP, decide_eq_true_eq]; omega))) | exact bI_0 (fun q => ((anyB_S _ _).mp q).elim c_39 (fun q => by simp only [vP, decide_eq_true_eq] at q; omega))) _ _ _ hZ (lv_sub hl [3, 4, 5, 6, 7, 8, 9, 10, 1, 0] rfl)
                  · skip
                    refine z_aload_n F dX8_voted_71 rfl (lv_at hl 1 rfl) ?_
                    refine z_get F hK hZ (64) (hd _ (by omega)) rfl (by decide) rfl hin8 8 (by decide) mX8_voted_23 rfl rfl dX8_voted_72 ?_
                    refine z_iload F dX8_voted_75 (lv_at hl 0 rfl) ?_
                    refine z_iconst F dX8_voted_77 ?_
                    refine z_iadd F dX8_voted_78 ?_
                    refine z_iald F hK hZ (69) (hd _ (by omega)) rfl (by decide) (by omega) (by omega) dX8_voted_79 ?_
                    have r_5 := hZ.2.1.1 (69) (6 * ((i : Int)) + 1)
                    refine z_iload_n F dX8_voted_80 rfl (lv_at hl 3 rfl) ?_
                    refine z_icmp_ne (tgt := 136) F (by omega) (by omega) dX8_voted_81 (by decide) (fun c_81 => ?_) (fun c_81 => ?_)
                    · skip
                      refine z_iconst F dX8_voted_136 ?_
                      refine z_istore (lv' := [(8, .int (zI (0))), (10, .int (zI (6 * ((i : Int))))), (0, .ref (w.2.1 + (64))), (1, .int (zI (x))), (2, .int (zI (kd))), (3, .int (zI (h))), (4, .int (zI (r))), (5, .int (zI (v))), (6, .int (zI (cntB (fun t => anyB (vP G x kd h r v t) (G 64 7).toNat) t))), (7, .int (zI ((t : Int)))), (9, .int (zI ((i : Int))))]) F dX8_voted_137 hl (by decide) rfl (fun ls hl => ?_)
                      refine z_iinc (k := 10) (z := (i : Int)) (lv' := [(9, .int (zI ((i : Int) + 1))), (8, .int (zI (0))), (10, .int (zI (6 * ((i : Int))))), (0, .ref (w.2.1 + (64))), (1, .int (zI (x))), (2, .int (zI (kd))), (3, .int (zI (h))), (4, .int (zI (r))), (5, .int (zI (v))), (6, .int (zI (cntB (fun t => anyB (vP G x kd h r v t) (G 64 7).toNat) t))), (7, .int (zI ((t : Int))))]) F dX8_voted_139 hl rfl (by decide) rfl (fun ls hl => ?_)
                      refine lv_goto (tgt := 21) F.1 F.2.1 dX8_voted_142 (by decide) ?_
                      exact ih_21 (i + 1) (0) (by omega) (by omega) (by first | exact bI_1 ((anyB_S _ _).mpr (Or.inl c_39)) | exact bI_1 ((anyB_S _ _).mpr (Or.inr (by simp only [vP, decide_eq_true_eq]; omega))) | exact bI_0 (fun q => ((anyB_S _ _).mp q).elim c_39 (fun q => by simp only [vP, decide_eq_true_eq] at q; omega))) _ _ _ hZ (lv_sub hl [3, 4, 5, 6, 7, 8, 9, 10, 1, 0] rfl)
                    · skip
                      refine z_aload_n F dX8_voted_84 rfl (lv_at hl 1 rfl) ?_
                      refine z_get F hK hZ (64) (hd _ (by omega)) rfl (by decide) rfl hin8 8 (by decide) mX8_voted_23 rfl rfl dX8_voted_85 ?_
                      refine z_iload F dX8_voted_88 (lv_at hl 0 rfl) ?_
                      refine z_iconst F dX8_voted_90 ?_
                      refine z_iadd F dX8_voted_91 ?_
                      refine z_iald F hK hZ (69) (hd _ (by omega)) rfl (by decide) (by omega) (by omega) dX8_voted_92 ?_
                      have r_6 := hZ.2.1.1 (69) (6 * ((i : Int)) + 2)
                      refine z_iload_n F dX8_voted_93 rfl (lv_at hl 4 rfl) ?_
                      refine z_icmp_ne (tgt := 136) F (by omega) (by omega) dX8_voted_94 (by decide) (fun c_94 => ?_) (fun c_94 => ?_)
                      · skip
                        refine z_iconst F dX8_voted_136 ?_
                        refine z_istore (lv' := [(8, .int (zI (0))), (10, .int (zI (6 * ((i : Int))))), (0, .ref (w.2.1 + (64))), (1, .int (zI (x))), (2, .int (zI (kd))), (3, .int (zI (h))), (4, .int (zI (r))), (5, .int (zI (v))), (6, .int (zI (cntB (fun t => anyB (vP G x kd h r v t) (G 64 7).toNat) t))), (7, .int (zI ((t : Int)))), (9, .int (zI ((i : Int))))]) F dX8_voted_137 hl (by decide) rfl (fun ls hl => ?_)
                        refine z_iinc (k := 10) (z := (i : Int)) (lv' := [(9, .int (zI ((i : Int) + 1))), (8, .int (zI (0))), (10, .int (zI (6 * ((i : Int))))), (0, .ref (w.2.1 + (64))), (1, .int (zI (x))), (2, .int (zI (kd))), (3, .int (zI (h))), (4, .int (zI (r))), (5, .int (zI (v))), (6, .int (zI (cntB (fun t => anyB (vP G x kd h r v t) (G 64 7).toNat) t))), (7, .int (zI ((t : Int))))]) F dX8_voted_139 hl rfl (by decide) rfl (fun ls hl => ?_)
                        refine lv_goto (tgt := 21) F.1 F.2.1 dX8_voted_142 (by decide) ?_
                        exact ih_21 (i + 1) (0) (by omega) (by omega) (by first | exact bI_1 ((anyB_S _ _).mpr (Or.inl c_39)) | exact bI_1 ((anyB_S _ _).mpr (Or.inr (by simp only [vP, decide_eq_true_eq]; omega))) | exact bI_0 (fun q => ((anyB_S _ _).mp q).elim c_39 (fun q => by simp only [vP, decide_eq_true_eq] at q; omega))) _ _ _ hZ (lv_sub hl [3, 4, 5, 6, 7, 8, 9, 10, 1, 0] rfl)
                      · skip
                        refine z_aload_n F dX8_voted_97 rfl (lv_at hl 1 rfl) ?_
                        refine z_get F hK hZ (64) (hd _ (by omega)) rfl (by decide) rfl hin8 8 (by decide) mX8_voted_23 rfl rfl dX8_voted_98 ?_
                        refine z_iload F dX8_voted_101 (lv_at hl 0 rfl) ?_
                        refine z_iconst F dX8_voted_103 ?_
                        refine z_iadd F dX8_voted_104 ?_
                        refine z_iald F hK hZ (69) (hd _ (by omega)) rfl (by decide) (by omega) (by omega) dX8_voted_105 ?_
                        have r_7 := hZ.2.1.1 (69) (6 * ((i : Int)) + 3)
                        refine z_iload F dX8_voted_106 (lv_at hl 5 rfl) ?_
                        refine z_icmp_ne (tgt := 136) F (by omega) (by omega) dX8_voted_108 (by decide) (fun c_108 => ?_) (fun c_108 => ?_)
                        · skip
                          refine z_iconst F dX8_voted_136 ?_
                          refine z_istore (lv' := [(8, .int (zI (0))), (10, .int (zI (6 * ((i : Int))))), (0, .ref (w.2.1 + (64))), (1, .int (zI (x))), (2, .int (zI (kd))), (3, .int (zI (h))), (4, .int (zI (r))), (5, .int (zI (v))), (6, .int (zI (cntB (fun t => anyB (vP G x kd h r v t) (G 64 7).toNat) t))), (7, .int (zI ((t : Int)))), (9, .int (zI ((i : Int))))]) F dX8_voted_137 hl (by decide) rfl (fun ls hl => ?_)
                          refine z_iinc (k := 10) (z := (i : Int)) (lv' := [(9, .int (zI ((i : Int) + 1))), (8, .int (zI (0))), (10, .int (zI (6 * ((i : Int))))), (0, .ref (w.2.1 + (64))), (1, .int (zI (x))), (2, .int (zI (kd))), (3, .int (zI (h))), (4, .int (zI (r))), (5, .int (zI (v))), (6, .int (zI (cntB (fun t => anyB (vP G x kd h r v t) (G 64 7).toNat) t))), (7, .int (zI ((t : Int))))]) F dX8_voted_139 hl rfl (by decide) rfl (fun ls hl => ?_)
                          refine lv_goto (tgt := 21) F.1 F.2.1 dX8_voted_142 (by decide) ?_
                          exact ih_21 (i + 1) (0) (by omega) (by omega) (by first | exact bI_1 ((anyB_S _ _).mpr (Or.inl c_39)) | exact bI_1 ((anyB_S _ _).mpr (Or.inr (by simp only [vP, decide_eq_true_eq]; omega))) | exact bI_0 (fun q => ((anyB_S _ _).mp q).elim c_39 (fun q => by simp only [vP, decide_eq_true_eq] at q; omega))) _ _ _ hZ (lv_sub hl [3, 4, 5, 6, 7, 8, 9, 10, 1, 0] rfl)
                        · skip
                          refine z_iload F dX8_voted_111 (lv_at hl 6 rfl) ?_
                          refine z_bipush F (by decide) dX8_voted_113 ?_
                          refine z_icmp_eq (tgt := 132) F (by omega) (by omega) dX8_voted_115 (by decide) (fun c_115 => ?_) (fun c_115 => ?_)
                          · skip
                            refine z_iconst F dX8_voted_132 ?_
                            refine lv_goto (tgt := 137) F.1 F.2.1 dX8_voted_133 (by decide) ?_
                            refine z_istore (lv' := [(8, .int (zI (1))), (10, .int (zI (6 * ((i : Int))))), (0, .ref (w.2.1 + (64))), (1, .int (zI (x))), (2, .int (zI (kd))), (3, .int (zI (h))), (4, .int (zI (r))), (5, .int (zI (v))), (6, .int (zI (cntB (fun t => anyB (vP G x kd h r v t) (G 64 7).toNat) t))), (7, .int (zI ((t : Int)))), (9, .int (zI ((i : Int))))]) F dX8_voted_137 hl (by decide) rfl (fun ls hl => ?_)
                            refine z_iinc (k := 10) (z := (i : Int)) (lv' := [(9, .int (zI ((i : Int) + 1))), (8, .int (zI (1))), (10, .int (zI (6 * ((i : Int))))), (0, .ref (w.2.1 + (64))), (1, .int (zI (x))), (2, .int (zI (kd))), (3, .int (zI (h))), (4, .int (zI (r))), (5, .int (zI (v))), (6, .int (zI (cntB (fun t => anyB (vP G x kd h r v t) (G 64 7).toNat) t))), (7, .int (zI ((t : Int))))]) F dX8_voted_139 hl rfl (by decide) rfl (fun ls hl => ?_)
                            refine lv_goto (tgt := 21) F.1 F.2.1 dX8_voted_142 (by decide) ?_
                            exact ih_21 (i + 1) (1) (by omega) (by omega) (by first | exact bI_1 ((anyB_S _ _).mpr (Or.inl c_39)) | exact bI_1 ((anyB_S _ _).mpr (Or.inr (by simp only [vP, decide_eq_true_eq]; omega))) | exact bI_0 (fun q => ((anyB_S _ _).mp q).elim c_39 (fun q => by simp only [vP, decide_eq_true_eq] at q; omega))) _ _ _ hZ (lv_sub hl [3, 4, 5, 6, 7, 8, 9, 10, 1, 0] rfl)
                          · skip
                            refine z_aload_n F dX8_voted_118 rfl (lv_at hl 1 rfl) ?_
                            refine z_get F hK hZ (64) (hd _ (by omega)) rfl (by decide) rfl hin8 8 (by decide) mX8_voted_23 rfl rfl dX8_voted_119 ?_
                            refine z_iload F dX8_voted_122 (lv_at hl 0 rfl) ?_
                            refine z_iconst F dX8_voted_124 ?_
                            refine z_iadd F dX8_voted_125 ?_
                            refine z_iald F hK hZ (69) (hd _ (by omega)) rfl (by decide) (by omega) (by omega) dX8_voted_126 ?_
                            have r_8 := hZ.2.1.1 (69) (6 * ((i : Int)) + 4)
                            refine z_iload F dX8_voted_127 (lv_at hl 6 rfl) ?_
                            refine z_icmp_ne (tgt := 136) F (by omega) (by omega) dX8_voted_129 (by decide) (fun c_129 => ?_) (fun c_129 => ?_)
                            · skip
                              refine z_iconst F dX8_voted_136 ?_
                              refine z_istore (lv' := [(8, .int (zI (0))), (10, .int (zI (6 * ((i : Int))))), (0, .ref (w.2.1 + (64))), (1, .int (zI (x))), (2, .int (zI (kd))), (3, .int (zI (h))), (4, .int (zI (r))), (5, .int (zI (v))), (6, .int (zI (cntB (fun t => anyB (vP G x kd h r v t) (G 64 7).toNat) t))), (7, .int (zI ((t : Int)))), (9, .int (zI ((i : Int))))]) F dX8_voted_137 hl (by decide) rfl (fun ls hl => ?_)
                              refine z_iinc (k := 10) (z := (i : Int)) (lv' := [(9, .int (zI ((i : Int) + 1))), (8, .int (zI (0))), (10, .int (zI (6 * ((i : Int))))), (0, .ref (w.2.1 + (64))), (1, .int (zI (x))), (2, .int (zI (kd))), (3, .int (zI (h))), (4, .int (zI (r))), (5, .int (zI (v))), (6, .int (zI (cntB (fun t => anyB (vP G x kd h r v t) (G 64 7).toNat) t))), (7, .int (zI ((t : Int))))]) F dX8_voted_139 hl rfl (by decide) rfl (fun ls hl => ?_)
                              refine lv_goto (tgt := 21) F.1 F.2.1 dX8_voted_142 (by decide) ?_
                              exact ih_21 (i + 1) (0) (by omega) (by omega) (by first | exact bI_1 ((anyB_S _ _).mpr (Or.inl c_39)) | exact bI_1 ((anyB_S _ _).mpr (Or.inr (by simp only [vP, decide_eq_true_eq]; omega))) | exact bI_0 (fun q => ((anyB_S _ _).mp q).elim c_39 (fun q => by simp only [vP, decide_eq_true_eq] at q; omega))) _ _ _ hZ (lv_sub hl [3, 4, 5, 6, 7, 8, 9, 10, 1, 0] rfl)
                            · skip
                              refine z_iconst F dX8_voted_132 ?_
                              refine lv_goto (tgt := 137) F.1 F.2.1 dX8_voted_133 (by decide) ?_
                              refine z_istore (lv' := [(8, .int (zI (1))), (10, .int (zI (6 * ((i : Int))))), (0, .ref (w.2.1 + (64))), (1, .int (zI (x))), (2, .int (zI (kd))), (3, .int (zI (h))), (4, .int (zI (r))), (5, .int (zI (v))), (6, .int (zI (cntB (fun t => anyB (vP G x kd h r v t) (G 64 7).toNat) t))), (7, .int (zI ((t : Int)))), (9, .int (zI ((i : Int))))]) F dX8_voted_137 hl (by decide) rfl (fun ls hl => ?_)
                              refine z_iinc (k := 10) (z := (i : Int)) (lv' := [(9, .int (zI ((i : Int) + 1))), (8, .int (zI (1))), (10, .int (zI (6 * ((i : Int))))), (0, .ref (w.2.1 + (64))), (1, .int (zI (x))), (2, .int (zI (kd))), (3, .int (zI (h))), (4, .int (zI (r))), (5, .int (zI (v))), (6, .int (zI (cntB (fun t => anyB (vP G x kd h r v t) (G 64 7).toNat) t))), (7, .int (zI ((t : Int))))]) F dX8_voted_139 hl rfl (by decide) rfl (fun ls hl => ?_)
                              refine lv_goto (tgt := 21) F.1 F.2.1 dX8_voted_142 (by decide) ?_
                              exact ih_21 (i + 1) (1) (by omega) (by omega) (by first | exact bI_1 ((anyB_S _ _).mpr (Or.inl c_39)) | exact bI_1 ((anyB_S _ _).mpr (Or.inr (by simp only [vP, decide_eq_true_eq]; omega))) | exact bI_0 (fun q => ((anyB_S _ _).mp q).elim c_39 (fun q => by simp only [vP, decide_eq_true_eq] at q; omega))) _ _ _ hZ (lv_sub hl [3, 4, 5, 6, 7, 8, 9, 10, 1, 0] rfl)
        exact L_21 ((G 64 7).toNat + 1) 0 0 (by omega) (by omega) (by simp [anyB, bI]) _ _ _ hZ (lv_sub hl [2, 3, 4, 5, 6, 7, 8, 9, 1, 0] rfl)
  exact L_6 ((G 64 0).toNat + 1) 0 0 (by omega) (by omega) rfl _ _ _ hZ (lv_sub hl [2, 3, 4, 5, 6, 7, 1, 0] rfl)

theorem mX8_proposes_23 : Cond.fieldLink RX8 23 "LockedChainModel" "letter" "[I" ∈ wsX8_proposes := by decide +kernel
theorem mX8_proposes_26 : Cond.fieldLink RX8 26 "LockedChainModel" "came" "[Z" ∈ wsX8_proposes := by decide +kernel
set_option maxHeartbeats 4000000 in
set_option maxRecDepth 100000 in
theorem k_X8_proposes (l : Launch) (w : zW) (dom : Nat → Prop) (A : Nat → Prop) (hDA : ∀ i, dom i → A (w.2.1 + i)) (sz : Nat) (G : zM) (hd : ∀ i, 64 ≤ i ∧ i < 71 → dom i) (hn : 4 ≤ G 64 0 ∧ G 64 0 ≤ 7) (x : Int) (y : Nat) (h0 : 0 ≤ x ∧ x < 7) (h1 : y < 400) (h2 : 0 ≤ G 69 (6 * (y : Int) + 2) ∧ G 69 (6 * (y : Int) + 2) < 1000) (h3 : 0 ≤ G 69 (6 * (y : Int) + 3) ∧ G 69 (6 * (y : Int) + 3) < 1000) : Met l yX8_proposes wsX8_proposes { frames := 1, cells := 0, slots := 0, locals := 22 } (zPre w dom sz G [.ref (w.2.1 + (64)), .int (zI (x)), .int (zI ((y : Int)))]) (zQi w dom sz (bI (propo G x y = true)) (fun C => C = G) A) (0) (0) A := by
  refine Met.ofW (cc := cX8_proposes) (maxL := 4) (ret := (some .boolean)) (by decide) rfl ?_
  intro p e s m args below meth c s₁ B hml hv
  obtain ⟨rfl, hsz, hP, hK⟩ := hv
  have F : CallFix p m c cX8_proposes 4 s _ wsX8_proposes RX8 := ⟨B.exec, B.bytes, hml, findClass_of_methodNamed B.named, atoms_spec (ws := wsX8_proposes) B.pre⟩
  have hr := B.returns
  have hlocks := B.notSynchronized
  have hZ : Zs w dom A s.heap sz G s.heap [] := ⟨hsz, hP, va_S.rf⟩
  have hl := lv_entry ([.ref (w.2.1 + (64)), .int (zI (x)), .int (zI ((y : Int)))]) (n := 4) (Nat.le_of_ble_eq_true rfl)
  rw [lg_entry_eq]
  generalize (lg_sl ([.ref (w.2.1 + (64)), .int (zI (x)), .int (zI ((y : Int)))]) ++ List.replicate (4 - (lg_sl ([.ref (w.2.1 + (64)), .int (zI (x)), .int (zI ((y : Int)))])).length) Slot.unset).toArray = ls at hl ⊢
  have hl : lv_has ls 4 [(0, .ref (w.2.1 + (64))), (1, .int (zI (x))), (2, .int (zI ((y : Int))))] := hl
  have hin8 : ∀ v ∈ u_ws RX8 TX8 10, v ∈ wsX8_proposes := by decide +kernel
  refine z_bipush F (by decide) dX8_proposes_0 ?_
  refine z_iload_n F dX8_proposes_2 rfl (lv_at hl 2 rfl) ?_
  refine z_imul F dX8_proposes_3 ?_
  refine z_istore_n (lv' := [(3, .int (zI (6 * ((y : Int))))), (0, .ref (w.2.1 + (64))), (1, .int (zI (x))), (2, .int (zI ((y : Int))))]) F dX8_proposes_4 rfl hl (by decide) rfl (fun ls hl => ?_)
  refine z_aload_n F dX8_proposes_5 rfl (lv_at hl 1 rfl) ?_
  refine z_get F hK hZ (64) (hd _ (by omega)) rfl (by decide) rfl hin8 9 (by decide) mX8_proposes_26 rfl rfl dX8_proposes_6 ?_
  refine z_bipush F (by decide) dX8_proposes_9 ?_
  refine z_iload_n F dX8_proposes_11 rfl (lv_at hl 3 rfl) ?_
  refine z_imul F dX8_proposes_12 ?_
  refine z_iload_n F dX8_proposes_13 rfl (lv_at hl 2 rfl) ?_
  refine z_iadd F dX8_proposes_14 ?_
  refine z_zald F hK hZ (70) (hd _ (by omega)) rfl (by decide) (by omega) (by omega) dX8_proposes_15 ?_
  have r_1 := hZ.2.1.1 (70) (7 * ((y : Int)) + x)
  refine z_if_eq (tgt := 82) F (by omega) dX8_proposes_16 (by decide) (fun c_16 => ?_) (fun c_16 => ?_)
  · skip
    refine z_iconst F dX8_proposes_82 ?_
    exact z_zret F hr hlocks hZ (by first | exact bI_1 (by simp only [propo, decide_eq_true_eq]; omega) | exact bI_0 (fun q => by simp only [propo, decide_eq_true_eq] at q; omega)) (by omega) rfl dX8_proposes_83 (by omega) (by omega)
  · skip
    refine z_aload_n F dX8_proposes_19 rfl (lv_at hl 1 rfl) ?_
    refine z_get F hK hZ (64) (hd _ (by omega)) rfl (by decide) rfl hin8 8 (by decide) mX8_proposes_23 rfl rfl dX8_proposes_20 ?_
    refine z_iload_n F dX8_proposes_23 rfl (lv_at hl 0 rfl) ?_
    refine z_iconst F dX8_proposes_24 ?_
    refine z_iadd F dX8_proposes_25 ?_
    refine z_iald F hK hZ (69) (hd _ (by omega)) rfl (by decide) (by omega) (by omega) dX8_proposes_26 ?_
    have r_2 := hZ.2.1.1 (69) (6 * ((y : Int)) + 1)
    refine z_if_ne (tgt := 82) F (by omega) dX8_proposes_27 (by decide) (fun c_27 => ?_) (fun c_27 => ?_)
    · skip
      refine z_iconst F dX8_proposes_82 ?_
      exact z_zret F hr hlocks hZ (by first | exact bI_1 (by simp only [propo, decide_eq_true_eq]; omega) | exact bI_0 (fun q => by simp only [propo, decide_eq_true_eq] at q; omega)) (by omega) rfl dX8_proposes_83 (by omega) (by omega)
    · skip
      refine z_aload_n F dX8_proposes_30 rfl (lv_at hl 1 rfl) ?_
      refine z_get F hK hZ (64) (hd _ (by omega)) rfl (by decide) rfl hin8 8 (by decide) mX8_proposes_23 rfl rfl dX8_proposes_31 ?_
      refine z_iload_n F dX8_proposes_34 rfl (lv_at hl 0 rfl) ?_
      refine z_iconst F dX8_proposes_35 ?_
      refine z_iadd F dX8_proposes_36 ?_
      refine z_iald F hK hZ (69) (hd _ (by omega)) rfl (by decide) (by omega) (by omega) dX8_proposes_37 ?_
      have r_3 := hZ.2.1.1 (69) (6 * ((y : Int)) + 2)
      refine z_aload_n F dX8_proposes_38 rfl (lv_at hl 1 rfl) ?_
      refine z_iload_n F dX8_proposes_39 rfl (lv_at hl 2 rfl) ?_
      refine z_iconst F dX8_proposes_40 ?_
      refine z_bxi hZ (va_runV (As := [.int (zI (x)), .int (zI (0))]) (rest := [.int (zI (G (69) (6 * ((y : Int)) + 2)))]) F (k_X8_get l w dom A hDA sz G hd x 0 (by omega)) (cwV 2 F.2.2.2.2 gX8_proposes_X8_get rfl rfl rfl (by decide +kernel) ⟨Nat.le_of_ble_eq_true rfl, Nat.le_of_ble_eq_true rfl⟩) (z_preV hK hZ (64) (hd _ (by omega)) rfl (by decide) rfl _) rfl rfl hl.1 rfl (lv_room (Nat.le_of_ble_eq_true rfl)) dX8_proposes_41 ⟨Nat.le_of_ble_eq_true rfl, Nat.le_of_ble_eq_true rfl⟩) (fun H locs hZ => ?_)
      have r_4 := hZ.2.1.1 (67) (20 * x + 0)
      refine z_icmp_ne (tgt := 82) F (by omega) (by omega) dX8_proposes_44 (by decide) (fun c_44 => ?_) (fun c_44 => ?_)
      · skip
        refine z_iconst F dX8_proposes_82 ?_
        exact z_zret F hr hlocks hZ (by first | exact bI_1 (by simp only [propo, decide_eq_true_eq]; omega) | exact bI_0 (fun q => by simp only [propo, decide_eq_true_eq] at q; omega)) (by omega) rfl dX8_proposes_83 (by omega) (by omega)
      · skip
        refine z_aload_n F dX8_proposes_47 rfl (lv_at hl 1 rfl) ?_
        refine z_get F hK hZ (64) (hd _ (by omega)) rfl (by decide) rfl hin8 8 (by decide) mX8_proposes_23 rfl rfl dX8_proposes_48 ?_
        refine z_iload_n F dX8_proposes_51 rfl (lv_at hl 0 rfl) ?_
        refine z_iconst F dX8_proposes_52 ?_
        refine z_iadd F dX8_proposes_53 ?_
        refine z_iald F hK hZ (69) (hd _ (by omega)) rfl (by decide) (by omega) (by omega) dX8_proposes_54 ?_
        have r_5 := hZ.2.1.1 (69) (6 * ((y : Int)) + 0)
        refine z_aload_n F dX8_proposes_55 rfl (lv_at hl 1 rfl) ?_
        refine z_aload_n F dX8_proposes_56 rfl (lv_at hl 1 rfl) ?_
        refine z_get F hK hZ (64) (hd _ (by omega)) rfl (by decide) rfl hin8 8 (by decide) mX8_proposes_23 rfl rfl dX8_proposes_57 ?_
        refine z_iload_n F dX8_proposes_60 rfl (lv_at hl 0 rfl) ?_
        refine z_iconst F dX8_proposes_61 ?_
        refine z_iadd F dX8_proposes_62 ?_
        refine z_iald F hK hZ (69) (hd _ (by omega)) rfl (by decide) (by omega) (by omega) dX8_proposes_63 ?_
        have r_6 := hZ.2.1.1 (69) (6 * ((y : Int)) + 2)
        refine z_aload_n F dX8_proposes_64 rfl (lv_at hl 1 rfl) ?_
        refine z_get F hK hZ (64) (hd _ (by omega)) rfl (by decide) rfl hin8 8 (by decide) mX8_proposes_23 rfl rfl dX8_proposes_65 ?_
        refine z_iload_n F dX8_proposes_68 rfl (lv_at hl 0 rfl) ?_
        refine z_iconst F dX8_proposes_69 ?_
        refine z_iadd F dX8_proposes_70 ?_
        refine z_iald F hK hZ (69) (hd _ (by omega)) rfl (by decide) (by omega) (by omega) dX8_proposes_71 ?_
        have r_7 := hZ.2.1.1 (69) (6 * ((y : Int)) + 3)
        refine z_bxi hZ (va_runV (As := [.int (zI (G (69) (6 * ((y : Int)) + 2))), .int (zI (G (69) (6 * ((y : Int)) + 3)))]) (rest := [.int (zI (G (69) (6 * ((y : Int)) + 0)))]) F (k_X8_proposer l w dom A hDA sz G hd (by omega) (G (69) (6 * ((y : Int)) + 2)) (G (69) (6 * ((y : Int)) + 3)) (by omega) (by omega)) (cwV 2 F.2.2.2.2 gX8_proposes_X8_proposer rfl rfl rfl (by decide +kernel) ⟨Nat.le_of_ble_eq_true rfl, Nat.le_of_ble_eq_true rfl⟩) (z_preV hK hZ (64) (hd _ (by omega)) rfl (by decide) rfl _) rfl rfl hl.1 rfl (lv_room (Nat.le_of_ble_eq_true rfl)) dX8_proposes_72 ⟨Nat.le_of_ble_eq_true rfl, Nat.le_of_ble_eq_true rfl⟩) (fun H locs hZ => ?_)
        have r_8 := mod_rng (G (69) (6 * ((y : Int)) + 2) + G (69) (6 * ((y : Int)) + 3)) (n := G 64 0) (by omega)
        refine z_icmp_ne (tgt := 82) F (by omega) (by omega) dX8_proposes_75 (by decide) (fun c_75 => ?_) (fun c_75 => ?_)
        · skip
          refine z_iconst F dX8_proposes_82 ?_
          exact z_zret F hr hlocks hZ (by first | exact bI_1 (by simp only [propo, decide_eq_true_eq]; omega) | exact bI_0 (fun q => by simp only [propo, decide_eq_true_eq] at q; omega)) (by omega) rfl dX8_proposes_83 (by omega) (by omega)
        · skip
          refine z_iconst F dX8_proposes_78 ?_
          refine lv_goto (tgt := 83) F.1 F.2.1 dX8_proposes_79 (by decide) ?_
          exact z_zret F hr hlocks hZ (by first | exact bI_1 (by simp only [propo, decide_eq_true_eq]; omega) | exact bI_0 (fun q => by simp only [propo, decide_eq_true_eq] at q; omega)) (by omega) rfl dX8_proposes_83 (by omega) (by omega)

set_option maxHeartbeats 4000000 in
set_option maxRecDepth 100000 in
theorem k_X8_setTimer (l : Launch) (w : zW) (dom : Nat → Prop) (A : Nat → Prop) (hDA : ∀ i, dom i → A (w.2.1 + i)) (sz : Nat) (G : zM) (hd : ∀ i, 64 ≤ i ∧ i < 71 → dom i) (x k : Int) (h0 : 0 ≤ x ∧ x < 7) (h1 : 0 ≤ k ∧ k < 3) (h2 : 0 ≤ G 67 (20 * x + 0) ∧ G 67 (20 * x + 0) < 1000) (h3 : 0 ≤ G 67 (20 * x + 1) ∧ G 67 (20 * x + 1) < 1000) : Met l yX8_setTimer wsX8_setTimer { frames := 1, cells := 0, slots := 0, locals := 23 } (zPre w dom sz G [.ref (w.2.1 + (64)), .int (zI (x)), .int (zI (k))]) (zQv w dom sz (fun C => C = setTimerM G x k) A) (0) (0) A := by
  refine Met.ofW (cc := cX8_setTimer) (maxL := 3) (ret := none) (by decide) rfl ?_
  intro p e s m args below meth c s₁ B hml hv
  obtain ⟨rfl, hsz, hP, hK⟩ := hv
  have F : CallFix p m c cX8_setTimer 3 s _ wsX8_setTimer RX8 := ⟨B.exec, B.bytes, hml, findClass_of_methodNamed B.named, atoms_spec (ws := wsX8_setTimer) B.pre⟩
  have hr := B.returns
  have hlocks := B.notSynchronized
  have hZ : Zs w dom A s.heap sz G s.heap [] := ⟨hsz, hP, va_S.rf⟩
  have hl := lv_entry ([.ref (w.2.1 + (64)), .int (zI (x)), .int (zI (k))]) (n := 3) (Nat.le_of_ble_eq_true rfl)
  rw [lg_entry_eq]
  generalize (lg_sl ([.ref (w.2.1 + (64)), .int (zI (x)), .int (zI (k))]) ++ List.replicate (3 - (lg_sl ([.ref (w.2.1 + (64)), .int (zI (x)), .int (zI (k))])).length) Slot.unset).toArray = ls at hl ⊢
  have hl : lv_has ls 3 [(0, .ref (w.2.1 + (64))), (1, .int (zI (x))), (2, .int (zI (k)))] := hl
  have e0 : setM G x (11 + k) 1 67 (20 * x + 0) = G 67 (20 * x + 0) := setM_ne _ _ _ _ _ (by omega)
  have e1 : setM G x (11 + k) 1 67 (20 * x + 1) = G 67 (20 * x + 1) := setM_ne _ _ _ _ _ (by omega)
  refine z_aload_n F dX8_setTimer_0 rfl (lv_at hl 0 rfl) ?_
  refine z_iload_n F dX8_setTimer_1 rfl (lv_at hl 1 rfl) ?_
  refine z_bipush F (by decide) dX8_setTimer_2 ?_
  refine z_iload_n F dX8_setTimer_4 rfl (lv_at hl 2 rfl) ?_
  refine z_iadd F dX8_setTimer_5 ?_
  refine z_iconst F dX8_setTimer_6 ?_
  refine z_bxv hZ (va_runV (As := [.int (zI (x)), .int (zI (11 + k)), .int (zI (1))]) (rest := []) F (k_X8_set l w dom A hDA sz G hd x (11 + k) 1 (by omega) (by omega)) (cwV 3 F.2.2.2.2 gX8_setTimer_X8_set rfl rfl rfl (by decide +kernel) ⟨Nat.le_of_ble_eq_true rfl, Nat.le_of_ble_eq_true rfl⟩) (z_preV hK hZ (64) (hd _ (by omega)) rfl (by decide) rfl _) rfl rfl hl.1 rfl (lv_room (Nat.le_of_ble_eq_true rfl)) dX8_setTimer_7 ⟨Nat.le_of_ble_eq_true rfl, Nat.le_of_ble_eq_true rfl⟩) (fun H locs hZ => ?_)
  refine z_aload_n F dX8_setTimer_10 rfl (lv_at hl 0 rfl) ?_
  refine z_iload_n F dX8_setTimer_11 rfl (lv_at hl 1 rfl) ?_
  refine z_bipush F (by decide) dX8_setTimer_12 ?_
  refine z_iload_n F dX8_setTimer_14 rfl (lv_at hl 2 rfl) ?_
  refine z_iadd F dX8_setTimer_15 ?_
  refine z_bipush F (by decide) dX8_setTimer_16 ?_
  refine z_aload_n F dX8_setTimer_18 rfl (lv_at hl 0 rfl) ?_
  refine z_iload_n F dX8_setTimer_19 rfl (lv_at hl 1 rfl) ?_
  refine z_iconst F dX8_setTimer_20 ?_
  refine z_bxi hZ (va_runV (As := [.int (zI (x)), .int (zI (0))]) (rest := [.int (zI (10)), .int (zI (14 + k)), .int (zI (x)), .ref (w.2.1 + (64))]) F (k_X8_get l w dom A hDA sz (setM G x (11 + k) 1) hd x 0 (by omega)) (cwV 2 F.2.2.2.2 gX8_setTimer_X8_get rfl rfl rfl (by decide +kernel) ⟨Nat.le_of_ble_eq_true rfl, Nat.le_of_ble_eq_true rfl⟩) (z_preV hK hZ (64) (hd _ (by omega)) rfl (by decide) rfl _) rfl rfl hl.1 rfl (lv_room (Nat.le_of_ble_eq_true rfl)) dX8_setTimer_21 ⟨Nat.le_of_ble_eq_true rfl, Nat.le_of_ble_eq_true rfl⟩) (fun H locs hZ => ?_)
  have r_1 := hZ.2.1.1 (67) (20 * x + 0)
  refine z_imul F dX8_setTimer_24 ?_
  refine z_aload_n F dX8_setTimer_25 rfl (lv_at hl 0 rfl) ?_
  refine z_iload_n F dX8_setTimer_26 rfl (lv_at hl 1 rfl) ?_
  refine z_iconst F dX8_setTimer_27 ?_
  refine z_bxi hZ (va_runV (As := [.int (zI (x)), .int (zI (1))]) (rest := [.int (zI (10 * ((setM G x (11 + k) 1) 67 (20 * x + 0)))), .int (zI (14 + k)), .int (zI (x)), .ref (w.2.1 + (64))]) F (k_X8_get l w dom A hDA sz (setM G x (11 + k) 1) hd x 1 (by omega)) (cwV 2 F.2.2.2.2 gX8_setTimer_X8_get rfl rfl rfl (by decide +kernel) ⟨Nat.le_of_ble_eq_true rfl, Nat.le_of_ble_eq_true rfl⟩) (z_preV hK hZ (64) (hd _ (by omega)) rfl (by decide) rfl _) rfl rfl hl.1 rfl (lv_room (Nat.le_of_ble_eq_true rfl)) dX8_setTimer_28 ⟨Nat.le_of_ble_eq_true rfl, Nat.le_of_ble_eq_true rfl⟩) (fun H locs hZ => ?_)
  have r_2 := hZ.2.1.1 (67) (20 * x + 1)
  refine z_iadd F dX8_setTimer_31 ?_
  refine z_bxv hZ (va_runV (As := [.int (zI (x)), .int (zI (14 + k)), .int (zI (10 * ((setM G x (11 + k) 1) 67 (20 * x + 0)) + ((setM G x (11 + k) 1) 67 (20 * x + 1))))]) (rest := []) F (k_X8_set l w dom A hDA sz (setM G x (11 + k) 1) hd x (14 + k) (10 * ((setM G x (11 + k) 1) 67 (20 * x + 0)) + ((setM G x (11 + k) 1) 67 (20 * x + 1))) (by omega) (by omega)) (cwV 3 F.2.2.2.2 gX8_setTimer_X8_set rfl rfl rfl (by decide +kernel) ⟨Nat.le_of_ble_eq_true rfl, Nat.le_of_ble_eq_true rfl⟩) (z_preV hK hZ (64) (hd _ (by omega)) rfl (by decide) rfl _) rfl rfl hl.1 rfl (lv_room (Nat.le_of_ble_eq_true rfl)) dX8_setTimer_32 ⟨Nat.le_of_ble_eq_true rfl, Nat.le_of_ble_eq_true rfl⟩) (fun H locs hZ => ?_)
  exact z_vret F hr hlocks hZ rfl dX8_setTimer_35 (by omega) (by omega)

set_option maxHeartbeats 4000000 in
set_option maxRecDepth 100000 in
theorem k_X8_casts (l : Launch) (w : zW) (dom : Nat → Prop) (A : Nat → Prop) (hDA : ∀ i, dom i → A (w.2.1 + i)) (sz : Nat) (G : zM) (hd : ∀ i, 64 ≤ i ∧ i < 71 → dom i) (x kd v : Int) (h0 : 0 ≤ x ∧ x < 7) (hL : 0 ≤ G 64 7 ∧ G 64 7 ≤ 400) (hkd : -2147483648 ≤ kd ∧ kd < 2147483648) (hv : -2147483648 ≤ v ∧ v < 2147483648) : Met l yX8_casts wsX8_casts { frames := 1, cells := 0, slots := 0, locals := 29 } (zPre w dom sz G [.ref (w.2.1 + (64)), .int (zI (x)), .int (zI (kd)), .int (zI (v))]) (zQv w dom sz (fun C => C = castsM G x kd v) A) (0) (0) A := by
  refine Met.ofW (cc := cX8_casts) (maxL := 4) (ret := none) (by decide) rfl ?_
  intro p e s m args below meth c s₁ B hml hv
  obtain ⟨rfl, hsz, hP, hK⟩ := hv
  have F : CallFix p m c cX8_casts 4 s _ wsX8_casts RX8 := ⟨B.exec, B.bytes, hml, findClass_of_methodNamed B.named, atoms_spec (ws := wsX8_casts) B.pre⟩
  have hr := B.returns
  have hlocks := B.notSynchronized
  have hZ : Zs w dom A s.heap sz G s.heap [] := ⟨hsz, hP, va_S.rf⟩
  have hl := lv_entry ([.ref (w.2.1 + (64)), .int (zI (x)), .int (zI (kd)), .int (zI (v))]) (n := 4) (Nat.le_of_ble_eq_true rfl)
  rw [lg_entry_eq]
  generalize (lg_sl ([.ref (w.2.1 + (64)), .int (zI (x)), .int (zI (kd)), .int (zI (v))]) ++ List.replicate (4 - (lg_sl ([.ref (w.2.1 + (64)), .int (zI (x)), .int (zI (kd)), .int (zI (v))])).length) Slot.unset).toArray = ls at hl ⊢
  have hl : lv_has ls 4 [(0, .ref (w.2.1 + (64))), (1, .int (zI (x))), (2, .int (zI (kd))), (3, .int (zI (v)))] := hl
  refine z_aload_n F dX8_casts_0 rfl (lv_at hl 0 rfl) ?_
  refine z_iload_n F dX8_casts_1 rfl (lv_at hl 1 rfl) ?_
  refine z_iload_n F dX8_casts_2 rfl (lv_at hl 2 rfl) ?_
  refine z_aload_n F dX8_casts_3 rfl (lv_at hl 0 rfl) ?_
  refine z_iload_n F dX8_casts_4 rfl (lv_at hl 1 rfl) ?_
  refine z_iconst F dX8_casts_5 ?_
  refine z_bxi hZ (va_runV (As := [.int (zI (x)), .int (zI (0))]) (rest := [.int (zI (kd)), .int (zI (x)), .ref (w.2.1 + (64))]) F (k_X8_get l w dom A hDA sz G hd x 0 (by omega)) (cwV 2 F.2.2.2.2 gX8_casts_X8_get rfl rfl rfl (by decide +kernel) ⟨Nat.le_of_ble_eq_true rfl, Nat.le_of_ble_eq_true rfl⟩) (z_preV hK hZ (64) (hd _ (by omega)) rfl (by decide) rfl _) rfl rfl hl.1 rfl (lv_room (Nat.le_of_ble_eq_true rfl)) dX8_casts_6 ⟨Nat.le_of_ble_eq_true rfl, Nat.le_of_ble_eq_true rfl⟩) (fun H locs hZ => ?_)
  have r_1 := hZ.2.1.1 (67) (20 * x + 0)
  refine z_aload_n F dX8_casts_9 rfl (lv_at hl 0 rfl) ?_
  refine z_iload_n F dX8_casts_10 rfl (lv_at hl 1 rfl) ?_
  refine z_iconst F dX8_casts_11 ?_
  refine z_bxi hZ (va_runV (As := [.int (zI (x)), .int (zI (1))]) (rest := [.int (zI (G 67 (20 * x + 0))), .int (zI (kd)), .int (zI (x)), .ref (w.2.1 + (64))]) F (k_X8_get l w dom A hDA sz G hd x 1 (by omega)) (cwV 2 F.2.2.2.2 gX8_casts_X8_get rfl rfl rfl (by decide +kernel) ⟨Nat.le_of_ble_eq_true rfl, Nat.le_of_ble_eq_true rfl⟩) (z_preV hK hZ (64) (hd _ (by omega)) rfl (by decide) rfl _) rfl rfl hl.1 rfl (lv_room (Nat.le_of_ble_eq_true rfl)) dX8_casts_12 ⟨Nat.le_of_ble_eq_true rfl, Nat.le_of_ble_eq_true rfl⟩) (fun H locs hZ => ?_)
  have r_2 := hZ.2.1.1 (67) (20 * x + 1)
  refine z_iload_n F dX8_casts_15 rfl (lv_at hl 3 rfl) ?_
  refine z_iconst F dX8_casts_16 ?_
  refine z_iconst F dX8_casts_17 ?_
  refine z_bxv hZ (va_runV (As := [.int (zI (x)), .int (zI (kd)), .int (zI (G 67 (20 * x + 0))), .int (zI (G 67 (20 * x + 1))), .int (zI (v)), .int (zI (-1)), .int (zI (1))]) (rest := []) F (k_X8_sends l w dom A hDA sz G hd x kd (G 67 (20 * x + 0)) (G 67 (20 * x + 1)) v (-1) 1 (by omega) (by omega) (by omega) (by omega) (by omega) (by omega) (by omega) (by omega)) (cwV 7 F.2.2.2.2 gX8_casts_X8_sends rfl rfl rfl (by decide +kernel) ⟨Nat.le_of_ble_eq_true rfl, Nat.le_of_ble_eq_true rfl⟩) (z_preV hK hZ (64) (hd _ (by omega)) rfl (by decide) rfl _) rfl rfl hl.1 rfl (lv_room (Nat.le_of_ble_eq_true rfl)) dX8_casts_18 ⟨Nat.le_of_ble_eq_true rfl, Nat.le_of_ble_eq_true rfl⟩) (fun H locs hZ => ?_)
  refine z_aload_n F dX8_casts_21 rfl (lv_at hl 0 rfl) ?_
  refine z_iload_n F dX8_casts_22 rfl (lv_at hl 1 rfl) ?_
  refine z_iconst F dX8_casts_23 ?_
  refine z_iload_n F dX8_casts_24 rfl (lv_at hl 2 rfl) ?_
  refine z_bxv hZ (va_runV (As := [.int (zI (x)), .int (zI (2)), .int (zI (kd))]) (rest := []) F (k_X8_set l w dom A hDA sz (sendsM G x kd (G 67 (20 * x + 0)) (G 67 (20 * x + 1)) v (-1) 1) hd x 2 kd (by omega) (by omega)) (cwV 3 F.2.2.2.2 gX8_casts_X8_set rfl rfl rfl (by decide +kernel) ⟨Nat.le_of_ble_eq_true rfl, Nat.le_of_ble_eq_true rfl⟩) (z_preV hK hZ (64) (hd _ (by omega)) rfl (by decide) rfl _) rfl rfl hl.1 rfl (lv_room (Nat.le_of_ble_eq_true rfl)) dX8_casts_25 ⟨Nat.le_of_ble_eq_true rfl, Nat.le_of_ble_eq_true rfl⟩) (fun H locs hZ => ?_)
  exact z_vret F hr hlocks hZ rfl dX8_casts_28 (by omega) (by omega)

theorem mX8_starts_13 : Cond.fieldLink RX8 13 "LockedChainModel" "holds" "[Z" ∈ wsX8_starts := by decide +kernel
set_option maxHeartbeats 4000000 in
set_option maxRecDepth 100000 in
theorem k_X8_starts (l : Launch) (w : zW) (dom : Nat → Prop) (A : Nat → Prop) (hDA : ∀ i, dom i → A (w.2.1 + i)) (sz : Nat) (G : zM) (hd : ∀ i, 64 ≤ i ∧ i < 71 → dom i) (hn : 4 ≤ G 64 0 ∧ G 64 0 ≤ 7) (hL : 0 ≤ G 64 7 ∧ G 64 7 ≤ 400) (x r : Int) (h0 : 0 ≤ x ∧ x < 7) (hr0 : 0 ≤ r ∧ r < 1000) (hH : 0 ≤ G 67 (20 * x + 0) ∧ G 67 (20 * x + 0) < 1000) : Met l yX8_starts wsX8_starts { frames := 2, cells := 0, slots := 0, locals := 45 } (zPre w dom sz G [.ref (w.2.1 + (64)), .int (zI (x)), .int (zI (r))]) (zQv w dom sz (fun C => C = startsM G x r) A) (0) (0) A := by
  refine Met.ofW (cc := cX8_starts) (maxL := 4) (ret := none) (by decide) rfl ?_
  intro p e s m args below meth c s₁ B hml hv
  obtain ⟨rfl, hsz, hP, hK⟩ := hv
  have F : CallFix p m c cX8_starts 4 s _ wsX8_starts RX8 := ⟨B.exec, B.bytes, hml, findClass_of_methodNamed B.named, atoms_spec (ws := wsX8_starts) B.pre⟩
  have hr := B.returns
  have hlocks := B.notSynchronized
  have hZ : Zs w dom A s.heap sz G s.heap [] := ⟨hsz, hP, va_S.rf⟩
  have hl := lv_entry ([.ref (w.2.1 + (64)), .int (zI (x)), .int (zI (r))]) (n := 4) (Nat.le_of_ble_eq_true rfl)
  rw [lg_entry_eq]
  generalize (lg_sl ([.ref (w.2.1 + (64)), .int (zI (x)), .int (zI (r))]) ++ List.replicate (4 - (lg_sl ([.ref (w.2.1 + (64)), .int (zI (x)), .int (zI (r))])).length) Slot.unset).toArray = ls at hl ⊢
  have hl : lv_has ls 4 [(0, .ref (w.2.1 + (64))), (1, .int (zI (x))), (2, .int (zI (r)))] := hl
  have hin8 : ∀ v ∈ u_ws RX8 TX8 10, v ∈ wsX8_starts := by decide +kernel
  refine z_iload_n F dX8_starts_0 rfl (lv_at hl 2 rfl) ?_
  refine z_bipush F (by decide) dX8_starts_1 ?_
  refine z_icmp_le (tgt := 15) F (by omega) (by omega) dX8_starts_3 (by decide) (fun c_3 => ?_) (fun c_3 => ?_)
  · skip
    refine z_aload_n F dX8_starts_15 rfl (lv_at hl 0 rfl) ?_
    refine z_iload_n F dX8_starts_16 rfl (lv_at hl 1 rfl) ?_
    refine z_iconst F dX8_starts_17 ?_
    refine z_iload_n F dX8_starts_18 rfl (lv_at hl 2 rfl) ?_
    refine z_bxv hZ (va_runV (As := [.int (zI (x)), .int (zI (1)), .int (zI (r))]) (rest := []) F (k_X8_set l w dom A hDA sz G hd x 1 r (by omega) (by omega)) (cwV 3 F.2.2.2.2 gX8_starts_X8_set rfl rfl rfl (by decide +kernel) ⟨Nat.le_of_ble_eq_true rfl, Nat.le_of_ble_eq_true rfl⟩) (z_preV hK hZ (64) (hd _ (by omega)) rfl (by decide) rfl _) rfl rfl hl.1 rfl (lv_room (Nat.le_of_ble_eq_true rfl)) dX8_starts_19 ⟨Nat.le_of_ble_eq_true rfl, Nat.le_of_ble_eq_true rfl⟩) (fun H locs hZ => ?_)
    refine z_aload_n F dX8_starts_22 rfl (lv_at hl 0 rfl) ?_
    refine z_iload_n F dX8_starts_23 rfl (lv_at hl 1 rfl) ?_
    refine z_iconst F dX8_starts_24 ?_
    refine z_iconst F dX8_starts_25 ?_
    refine z_bxv hZ (va_runV (As := [.int (zI (x)), .int (zI (2)), .int (zI (0))]) (rest := []) F (k_X8_set l w dom A hDA sz (setM G x 1 r) hd x 2 0 (by omega) (by omega)) (cwV 3 F.2.2.2.2 gX8_starts_X8_set rfl rfl rfl (by decide +kernel) ⟨Nat.le_of_ble_eq_true rfl, Nat.le_of_ble_eq_true rfl⟩) (z_preV hK hZ (64) (hd _ (by omega)) rfl (by decide) rfl _) rfl rfl hl.1 rfl (lv_room (Nat.le_of_ble_eq_true rfl)) dX8_starts_26 ⟨Nat.le_of_ble_eq_true rfl, Nat.le_of_ble_eq_true rfl⟩) (fun H locs hZ => ?_)
    refine z_aload_n F dX8_starts_29 rfl (lv_at hl 0 rfl) ?_
    refine z_iload_n F dX8_starts_30 rfl (lv_at hl 1 rfl) ?_
    refine z_bipush F (by decide) dX8_starts_31 ?_
    refine z_iconst F dX8_starts_33 ?_
    refine z_bxv hZ (va_runV (As := [.int (zI (x)), .int (zI (8)), .int (zI (0))]) (rest := []) F (k_X8_set l w dom A hDA sz (setM (setM G x 1 r) x 2 0) hd x 8 0 (by omega) (by omega)) (cwV 3 F.2.2.2.2 gX8_starts_X8_set rfl rfl rfl (by decide +kernel) ⟨Nat.le_of_ble_eq_true rfl, Nat.le_of_ble_eq_true rfl⟩) (z_preV hK hZ (64) (hd _ (by omega)) rfl (by decide) rfl _) rfl rfl hl.1 rfl (lv_room (Nat.le_of_ble_eq_true rfl)) dX8_starts_34 ⟨Nat.le_of_ble_eq_true rfl, Nat.le_of_ble_eq_true rfl⟩) (fun H locs hZ => ?_)
    refine z_aload_n F dX8_starts_37 rfl (lv_at hl 0 rfl) ?_
    refine z_iload_n F dX8_starts_38 rfl (lv_at hl 1 rfl) ?_
    refine z_bipush F (by decide) dX8_starts_39 ?_
    refine z_iconst F dX8_starts_41 ?_
    refine z_bxv hZ (va_runV (As := [.int (zI (x)), .int (zI (9)), .int (zI (0))]) (rest := []) F (k_X8_set l w dom A hDA sz (setM (setM (setM G x 1 r) x 2 0) x 8 0) hd x 9 0 (by omega) (by omega)) (cwV 3 F.2.2.2.2 gX8_starts_X8_set rfl rfl rfl (by decide +kernel) ⟨Nat.le_of_ble_eq_true rfl, Nat.le_of_ble_eq_true rfl⟩) (z_preV hK hZ (64) (hd _ (by omega)) rfl (by decide) rfl _) rfl rfl hl.1 rfl (lv_room (Nat.le_of_ble_eq_true rfl)) dX8_starts_42 ⟨Nat.le_of_ble_eq_true rfl, Nat.le_of_ble_eq_true rfl⟩) (fun H locs hZ => ?_)
    refine z_aload_n F dX8_starts_45 rfl (lv_at hl 0 rfl) ?_
    refine z_iload_n F dX8_starts_46 rfl (lv_at hl 1 rfl) ?_
    refine z_bipush F (by decide) dX8_starts_47 ?_
    refine z_iconst F dX8_starts_49 ?_
    refine z_bxv hZ (va_runV (As := [.int (zI (x)), .int (zI (10)), .int (zI (0))]) (rest := []) F (k_X8_set l w dom A hDA sz (setM (setM (setM (setM G x 1 r) x 2 0) x 8 0) x 9 0) hd x 10 0 (by omega) (by omega)) (cwV 3 F.2.2.2.2 gX8_starts_X8_set rfl rfl rfl (by decide +kernel) ⟨Nat.le_of_ble_eq_true rfl, Nat.le_of_ble_eq_true rfl⟩) (z_preV hK hZ (64) (hd _ (by omega)) rfl (by decide) rfl _) rfl rfl hl.1 rfl (lv_room (Nat.le_of_ble_eq_true rfl)) dX8_starts_50 ⟨Nat.le_of_ble_eq_true rfl, Nat.le_of_ble_eq_true rfl⟩) (fun H locs hZ => ?_)
    have hZ : Zs w dom A s.heap sz (enterM G x r) _ _ := hZ
    have n0 : (enterM G x r) 64 0 = G 64 0 := rfl
    have n7 : (enterM G x r) 64 7 = G 64 7 := rfl
    have n1 : (enterM G x r) 67 (20 * x + 0) = G 67 (20 * x + 0) := enterM_ne _ _ _ _ (by omega)
    have n2 : (enterM G x r) 67 (20 * x + 1) = r := enterM_1 _ _ _
    refine z_aload_n F dX8_starts_53 rfl (lv_at hl 0 rfl) ?_
    refine z_aload_n F dX8_starts_54 rfl (lv_at hl 0 rfl) ?_
    refine z_iload_n F dX8_starts_55 rfl (lv_at hl 1 rfl) ?_
    refine z_iconst F dX8_starts_56 ?_
    refine z_bxi hZ (va_runV (As := [.int (zI (x)), .int (zI (0))]) (rest := [.ref (w.2.1 + (64))]) F (k_X8_get l w dom A hDA sz (enterM G x r) hd x 0 (by omega)) (cwV 2 F.2.2.2.2 gX8_starts_X8_get rfl rfl rfl (by decide +kernel) ⟨Nat.le_of_ble_eq_true rfl, Nat.le_of_ble_eq_true rfl⟩) (z_preV hK hZ (64) (hd _ (by omega)) rfl (by decide) rfl _) rfl rfl hl.1 rfl (lv_room (Nat.le_of_ble_eq_true rfl)) dX8_starts_57 ⟨Nat.le_of_ble_eq_true rfl, Nat.le_of_ble_eq_true rfl⟩) (fun H locs hZ => ?_)
    have r_1 := hZ.2.1.1 (67) (20 * x + 0)
    refine z_iload_n F dX8_starts_60 rfl (lv_at hl 2 rfl) ?_
    refine z_bxi hZ (va_runV (As := [.int (zI ((enterM G x r) 67 (20 * x + 0))), .int (zI (r))]) (rest := []) F (k_X8_proposer l w dom A hDA sz (enterM G x r) hd (by omega) ((enterM G x r) 67 (20 * x + 0)) r (by omega) (by omega)) (cwV 2 F.2.2.2.2 gX8_starts_X8_proposer rfl rfl rfl (by decide +kernel) ⟨Nat.le_of_ble_eq_true rfl, Nat.le_of_ble_eq_true rfl⟩) (z_preV hK hZ (64) (hd _ (by omega)) rfl (by decide) rfl _) rfl rfl hl.1 rfl (lv_room (Nat.le_of_ble_eq_true rfl)) dX8_starts_61 ⟨Nat.le_of_ble_eq_true rfl, Nat.le_of_ble_eq_true rfl⟩) (fun H locs hZ => ?_)
    have r_2 := mod_rng ((enterM G x r) 67 (20 * x + 0) + r) (n := (enterM G x r) 64 0) (by omega)
    refine z_iload_n F dX8_starts_64 rfl (lv_at hl 1 rfl) ?_
    refine z_icmp_eq (tgt := 75) F (by omega) (by omega) dX8_starts_65 (by decide) (fun c_65 => ?_) (fun c_65 => ?_)
    · skip
      refine z_aload_n F dX8_starts_75 rfl (lv_at hl 0 rfl) ?_
      refine z_iload_n F dX8_starts_76 rfl (lv_at hl 1 rfl) ?_
      refine z_iconst F dX8_starts_77 ?_
      refine z_bxi hZ (va_runV (As := [.int (zI (x)), .int (zI (5))]) (rest := []) F (k_X8_get l w dom A hDA sz (enterM G x r) hd x 5 (by omega)) (cwV 2 F.2.2.2.2 gX8_starts_X8_get rfl rfl rfl (by decide +kernel) ⟨Nat.le_of_ble_eq_true rfl, Nat.le_of_ble_eq_true rfl⟩) (z_preV hK hZ (64) (hd _ (by omega)) rfl (by decide) rfl _) rfl rfl hl.1 rfl (lv_room (Nat.le_of_ble_eq_true rfl)) dX8_starts_78 ⟨Nat.le_of_ble_eq_true rfl, Nat.le_of_ble_eq_true rfl⟩) (fun H locs hZ => ?_)
      have r_3 := hZ.2.1.1 (67) (20 * x + 5)
      refine z_if_lt (tgt := 112) F (by omega) dX8_starts_81 (by decide) (fun c_81 => ?_) (fun c_81 => ?_)
      · skip
        refine z_iconst F dX8_starts_112 ?_
        refine z_istore_n (lv' := [(3, .int (zI (1))), (0, .ref (w.2.1 + (64))), (1, .int (zI (x))), (2, .int (zI (r)))]) F dX8_starts_113 rfl hl (by decide) rfl (fun ls hl => ?_)
        have L_114 : ∀ (nf : Nat) (v : Nat), (101 ≤ v + nf) → (v ≤ 100) → (1 ≤ v) → (fstB (leastP (enterM G x r) x) 99 1 = fstB (leastP (enterM G x r) x) (100 - v) v) →  ∀ (H : Heap) (locs : List Loc) (ls : Array Slot), Zs w dom A s.heap sz (enterM G x r) H locs → lv_has ls 4 [(0, .ref (w.2.1 + (64))), (1, .int (zI (x))), (2, .int (zI (r))), (3, .int (zI ((v : Int))))] → W p l e (headSpec wsX8_starts { frames := 2, cells := 0, slots := 0, locals := 45 }).room s m ([.ref (w.2.1 + (64)), .int (zI (x)), .int (zI (r))] : List Value).toArray below meth c H locs (0 + 0 + 0 + 0 + 0 + 0 + 0 + 0 + 0) (0 + 0 + 0 + 0 + 0 + 0 + 0 + 0 + 0) (MQ below (zQv w dom sz (fun C => C = startsM G x r) A) ([.ref (w.2.1 + (64)), .int (zI (x)), .int (zI (r))] : List Value).toArray s (0) (0) A) (F0 m 114 ls []) := by
          intro nf
          induction nf with
          | zero => intro v  h114_0 h114_1 h114_2 h114_3; exact absurd h114_0 (by omega)
          | succ nf ih_114 =>
            intro v  h114_0 h114_1 h114_2 h114_3 H locs ls hZ hl
            refine z_iload_n F dX8_starts_114 rfl (lv_at hl 3 rfl) ?_
            refine z_bipush F (by decide) dX8_starts_115 ?_
            refine z_icmp_ge (tgt := 149) F (by omega) (by omega) dX8_starts_117 (by decide) (fun c_117 => ?_) (fun c_117 => ?_)
            · skip
              have hv : leastV (enterM G x r) x = 0 := by rw [leastV, h114_3, show 100 - v = 0 by omega]; rfl
              refine z_aload_n F dX8_starts_149 rfl (lv_at hl 0 rfl) ?_
              refine z_iload_n F dX8_starts_150 rfl (lv_at hl 1 rfl) ?_
              refine z_iconst F dX8_starts_151 ?_
              refine z_aload_n F dX8_starts_152 rfl (lv_at hl 0 rfl) ?_
              refine z_iload_n F dX8_starts_153 rfl (lv_at hl 1 rfl) ?_
              refine z_iconst F dX8_starts_154 ?_
              refine z_bxi hZ (va_runV (As := [.int (zI (x)), .int (zI (0))]) (rest := [.int (zI (0)), .int (zI (x)), .ref (w.2.1 + (64))]) F (k_X8_get l w dom A hDA sz (enterM G x r) hd x 0 (by omega)) (cwV 2 F.2.2.2.2 gX8_starts_X8_get rfl rfl rfl (by decide +kernel) ⟨Nat.le_of_ble_eq_true rfl, Nat.le_of_ble_eq_true rfl⟩) (z_preV hK hZ (64) (hd _ (by omega)) rfl (by decide) rfl _) rfl rfl hl.1 rfl (lv_room (Nat.le_of_ble_eq_true rfl)) dX8_starts_155 ⟨Nat.le_of_ble_eq_true rfl, Nat.le_of_ble_eq_true rfl⟩) (fun H locs hZ => ?_)
              have r_4 := hZ.2.1.1 (67) (20 * x + 0)
              refine z_iload_n F dX8_starts_158 rfl (lv_at hl 2 rfl) ?_
              refine z_iload_n F dX8_starts_159 rfl (lv_at hl 3 rfl) ?_
              refine z_bipush F (by decide) dX8_starts_160 ?_
              refine z_icmp_ne (tgt := 169) F (by omega) (by omega) dX8_starts_162 (by decide) (fun c_162 => ?_) (fun c_162 => ?_)
              · skip
                refine z_iload_n F dX8_starts_169 rfl (lv_at hl 3 rfl) ?_
                refine z_iconst F dX8_starts_170 ?_
                refine z_iconst F dX8_starts_171 ?_
                refine z_bxv hZ (va_runV (As := [.int (zI (x)), .int (zI (0)), .int (zI ((enterM G x r) 67 (20 * x + 0))), .int (zI (r)), .int (zI ((v : Int))), .int (zI (-1)), .int (zI (1))]) (rest := []) F (k_X8_sends l w dom A hDA sz (enterM G x r) hd x 0 ((enterM G x r) 67 (20 * x + 0)) r ((v : Int)) (-1) 1 (by omega) (by omega) (by omega) (by omega) (by omega) (by omega) (by omega) (by omega)) (cwV 7 F.2.2.2.2 gX8_starts_X8_sends rfl rfl rfl (by decide +kernel) ⟨Nat.le_of_ble_eq_true rfl, Nat.le_of_ble_eq_true rfl⟩) (z_preV hK hZ (64) (hd _ (by omega)) rfl (by decide) rfl _) rfl rfl hl.1 rfl (lv_room (Nat.le_of_ble_eq_true rfl)) dX8_starts_172 ⟨Nat.le_of_ble_eq_true rfl, Nat.le_of_ble_eq_true rfl⟩) (fun H locs hZ => ?_)
                exact z_vret F hr hlocks hZ (by first | (exfalso; omega; done) | rw [startsM, if_neg (by omega), if_neg (by omega), if_neg (by omega), hv]) dX8_starts_175 (by omega) (by omega)
              · skip
                refine z_iconst F dX8_starts_165 ?_
                refine lv_goto (tgt := 170) F.1 F.2.1 dX8_starts_166 (by decide) ?_
                refine z_iconst F dX8_starts_170 ?_
                refine z_iconst F dX8_starts_171 ?_
                refine z_bxv hZ (va_runV (As := [.int (zI (x)), .int (zI (0)), .int (zI ((enterM G x r) 67 (20 * x + 0))), .int (zI (r)), .int (zI (0)), .int (zI (-1)), .int (zI (1))]) (rest := []) F (k_X8_sends l w dom A hDA sz (enterM G x r) hd x 0 ((enterM G x r) 67 (20 * x + 0)) r 0 (-1) 1 (by omega) (by omega) (by omega) (by omega) (by omega) (by omega) (by omega) (by omega)) (cwV 7 F.2.2.2.2 gX8_starts_X8_sends rfl rfl rfl (by decide +kernel) ⟨Nat.le_of_ble_eq_true rfl, Nat.le_of_ble_eq_true rfl⟩) (z_preV hK hZ (64) (hd _ (by omega)) rfl (by decide) rfl _) rfl rfl hl.1 rfl (lv_room (Nat.le_of_ble_eq_true rfl)) dX8_starts_172 ⟨Nat.le_of_ble_eq_true rfl, Nat.le_of_ble_eq_true rfl⟩) (fun H locs hZ => ?_)
                exact z_vret F hr hlocks hZ (by first | (exfalso; omega; done) | rw [startsM, if_neg (by omega), if_neg (by omega), if_neg (by omega), hv]) dX8_starts_175 (by omega) (by omega)
            · skip
              refine z_aload_n F dX8_starts_120 rfl (lv_at hl 0 rfl) ?_
              refine z_get F hK hZ (64) (hd _ (by omega)) rfl (by decide) rfl hin8 4 (by decide) mX8_starts_13 rfl rfl dX8_starts_121 ?_
              refine z_bipush F (by decide) dX8_starts_124 ?_
              refine z_iload_n F dX8_starts_126 rfl (lv_at hl 1 rfl) ?_
              refine z_imul F dX8_starts_127 ?_
              refine z_iload_n F dX8_starts_128 rfl (lv_at hl 3 rfl) ?_
              refine z_iadd F dX8_starts_129 ?_
              refine z_zald F hK hZ (66) (hd _ (by omega)) rfl (by decide) (by omega) (by omega) dX8_starts_130 ?_
              have r_5 := hZ.2.1.1 (66) (100 * x + ((v : Int)))
              refine z_if_eq (tgt := 143) F (by omega) dX8_starts_131 (by decide) (fun c_131 => ?_) (fun c_131 => ?_)
              · skip
                refine z_iinc (k := 3) (z := (v : Int)) (lv' := [(3, .int (zI ((v : Int) + 1))), (0, .ref (w.2.1 + (64))), (1, .int (zI (x))), (2, .int (zI (r)))]) F dX8_starts_143 hl rfl (by decide) rfl (fun ls hl => ?_)
                refine lv_goto (tgt := 114) F.1 F.2.1 dX8_starts_146 (by decide) ?_
                exact ih_114 (v + 1) (by omega) (by omega) (by omega) (by rw [h114_3, fstB_f (by omega) (by simp only [leastP, Bool.and_eq_true, decide_eq_true_eq]; first | exact fun q => c_140 q.2 | exact fun q => q.1 c_131), show 100 - v - 1 = 100 - (v + 1) by omega]) _ _ _ hZ (lv_sub hl [1, 2, 3, 0] rfl)
              · skip
                refine z_aload_n F dX8_starts_134 rfl (lv_at hl 0 rfl) ?_
                refine z_iload_n F dX8_starts_135 rfl (lv_at hl 1 rfl) ?_
                refine z_iload_n F dX8_starts_136 rfl (lv_at hl 3 rfl) ?_
                refine z_bxi hZ (va_runV (As := [.int (zI (x)), .int (zI ((v : Int)))]) (rest := []) F (k_X8_isRight l w dom A hDA sz (enterM G x r) hd x ((v : Int)) (by omega) (by omega)) (cwV 2 F.2.2.2.2 gX8_starts_X8_isRight rfl rfl rfl (by decide +kernel) ⟨Nat.le_of_ble_eq_true rfl, Nat.le_of_ble_eq_true rfl⟩) (z_preV hK hZ (64) (hd _ (by omega)) rfl (by decide) rfl _) rfl rfl hl.1 rfl (lv_room (Nat.le_of_ble_eq_true rfl)) dX8_starts_137 ⟨Nat.le_of_ble_eq_true rfl, Nat.le_of_ble_eq_true rfl⟩) (fun H locs hZ => ?_)
                refine z_ifB_ne (tgt := 149) F dX8_starts_140 (by decide) (fun c_140 => ?_) (fun c_140 => ?_)
                · skip
                  have hv : leastV (enterM G x r) x = (v : Int) := by rw [leastV, h114_3, fstB_t (by omega) (by simp only [leastP, Bool.and_eq_true, decide_eq_true_eq]; exact ⟨c_131, c_140⟩)]
                  refine z_aload_n F dX8_starts_149 rfl (lv_at hl 0 rfl) ?_
                  refine z_iload_n F dX8_starts_150 rfl (lv_at hl 1 rfl) ?_
                  refine z_iconst F dX8_starts_151 ?_
                  refine z_aload_n F dX8_starts_152 rfl (lv_at hl 0 rfl) ?_
                  refine z_iload_n F dX8_starts_153 rfl (lv_at hl 1 rfl) ?_
                  refine z_iconst F dX8_starts_154 ?_
                  refine z_bxi hZ (va_runV (As := [.int (zI (x)), .int (zI (0))]) (rest := [.int (zI (0)), .int (zI (x)), .ref (w.2.1 + (64))]) F (k_X8_get l w dom A hDA sz (enterM G x r) hd x 0 (by omega)) (cwV 2 F.2.2.2.2 gX8_starts_X8_get rfl rfl rfl (by decide +kernel) ⟨Nat.le_of_ble_eq_true rfl, Nat.le_of_ble_eq_true rfl⟩) (z_preV hK hZ (64) (hd _ (by omega)) rfl (by decide) rfl _) rfl rfl hl.1 rfl (lv_room (Nat.le_of_ble_eq_true rfl)) dX8_starts_155 ⟨Nat.le_of_ble_eq_true rfl, Nat.le_of_ble_eq_true rfl⟩) (fun H locs hZ => ?_)
                  have r_6 := hZ.2.1.1 (67) (20 * x + 0)
                  refine z_iload_n F dX8_starts_158 rfl (lv_at hl 2 rfl) ?_
                  refine z_iload_n F dX8_starts_159 rfl (lv_at hl 3 rfl) ?_
                  refine z_bipush F (by decide) dX8_starts_160 ?_
                  refine z_icmp_ne (tgt := 169) F (by omega) (by omega) dX8_starts_162 (by decide) (fun c_162 => ?_) (fun c_162 => ?_)
                  · skip
                    refine z_iload_n F dX8_starts_169 rfl (lv_at hl 3 rfl) ?_
                    refine z_iconst F dX8_starts_170 ?_
                    refine z_iconst F dX8_starts_171 ?_
                    refine z_bxv hZ (va_runV (As := [.int (zI (x)), .int (zI (0)), .int (zI ((enterM G x r) 67 (20 * x + 0))), .int (zI (r)), .int (zI ((v : Int))), .int (zI (-1)), .int (zI (1))]) (rest := []) F (k_X8_sends l w dom A hDA sz (enterM G x r) hd x 0 ((enterM G x r) 67 (20 * x + 0)) r ((v : Int)) (-1) 1 (by omega) (by omega) (by omega) (by omega) (by omega) (by omega) (by omega) (by omega)) (cwV 7 F.2.2.2.2 gX8_starts_X8_sends rfl rfl rfl (by decide +kernel) ⟨Nat.le_of_ble_eq_true rfl, Nat.le_of_ble_eq_true rfl⟩) (z_preV hK hZ (64) (hd _ (by omega)) rfl (by decide) rfl _) rfl rfl hl.1 rfl (lv_room (Nat.le_of_ble_eq_true rfl)) dX8_starts_172 ⟨Nat.le_of_ble_eq_true rfl, Nat.le_of_ble_eq_true rfl⟩) (fun H locs hZ => ?_)
                    exact z_vret F hr hlocks hZ (by first | (exfalso; omega; done) | rw [startsM, if_neg (by omega), if_neg (by omega), if_neg (by omega), hv]) dX8_starts_175 (by omega) (by omega)
                  · skip
                    refine z_iconst F dX8_starts_165 ?_
                    refine lv_goto (tgt := 170) F.1 F.2.1 dX8_starts_166 (by decide) ?_
                    refine z_iconst F dX8_starts_170 ?_
                    refine z_iconst F dX8_starts_171 ?_
                    refine z_bxv hZ (va_runV (As := [.int (zI (x)), .int (zI (0)), .int (zI ((enterM G x r) 67 (20 * x + 0))), .int (zI (r)), .int (zI (0)), .int (zI (-1)), .int (zI (1))]) (rest := []) F (k_X8_sends l w dom A hDA sz (enterM G x r) hd x 0 ((enterM G x r) 67 (20 * x + 0)) r 0 (-1) 1 (by omega) (by omega) (by omega) (by omega) (by omega) (by omega) (by omega) (by omega)) (cwV 7 F.2.2.2.2 gX8_starts_X8_sends rfl rfl rfl (by decide +kernel) ⟨Nat.le_of_ble_eq_true rfl, Nat.le_of_ble_eq_true rfl⟩) (z_preV hK hZ (64) (hd _ (by omega)) rfl (by decide) rfl _) rfl rfl hl.1 rfl (lv_room (Nat.le_of_ble_eq_true rfl)) dX8_starts_172 ⟨Nat.le_of_ble_eq_true rfl, Nat.le_of_ble_eq_true rfl⟩) (fun H locs hZ => ?_)
                    exact z_vret F hr hlocks hZ (by first | (exfalso; omega; done) | rw [startsM, if_neg (by omega), if_neg (by omega), if_neg (by omega), hv]) dX8_starts_175 (by omega) (by omega)
                · skip
                  refine z_iinc (k := 3) (z := (v : Int)) (lv' := [(3, .int (zI ((v : Int) + 1))), (0, .ref (w.2.1 + (64))), (1, .int (zI (x))), (2, .int (zI (r)))]) F dX8_starts_143 hl rfl (by decide) rfl (fun ls hl => ?_)
                  refine lv_goto (tgt := 114) F.1 F.2.1 dX8_starts_146 (by decide) ?_
                  exact ih_114 (v + 1) (by omega) (by omega) (by omega) (by rw [h114_3, fstB_f (by omega) (by simp only [leastP, Bool.and_eq_true, decide_eq_true_eq]; first | exact fun q => c_140 q.2 | exact fun q => q.1 c_131), show 100 - v - 1 = 100 - (v + 1) by omega]) _ _ _ hZ (lv_sub hl [1, 2, 3, 0] rfl)
        exact L_114 100 1 (by omega) (by omega) (by omega) rfl _ _ _ hZ (lv_sub hl [1, 2, 3, 0] rfl)
      · skip
        refine z_aload_n F dX8_starts_84 rfl (lv_at hl 0 rfl) ?_
        refine z_iload_n F dX8_starts_85 rfl (lv_at hl 1 rfl) ?_
        refine z_iconst F dX8_starts_86 ?_
        refine z_aload_n F dX8_starts_87 rfl (lv_at hl 0 rfl) ?_
        refine z_iload_n F dX8_starts_88 rfl (lv_at hl 1 rfl) ?_
        refine z_iconst F dX8_starts_89 ?_
        refine z_bxi hZ (va_runV (As := [.int (zI (x)), .int (zI (0))]) (rest := [.int (zI (0)), .int (zI (x)), .ref (w.2.1 + (64))]) F (k_X8_get l w dom A hDA sz (enterM G x r) hd x 0 (by omega)) (cwV 2 F.2.2.2.2 gX8_starts_X8_get rfl rfl rfl (by decide +kernel) ⟨Nat.le_of_ble_eq_true rfl, Nat.le_of_ble_eq_true rfl⟩) (z_preV hK hZ (64) (hd _ (by omega)) rfl (by decide) rfl _) rfl rfl hl.1 rfl (lv_room (Nat.le_of_ble_eq_true rfl)) dX8_starts_90 ⟨Nat.le_of_ble_eq_true rfl, Nat.le_of_ble_eq_true rfl⟩) (fun H locs hZ => ?_)
        have r_7 := hZ.2.1.1 (67) (20 * x + 0)
        refine z_iload_n F dX8_starts_93 rfl (lv_at hl 2 rfl) ?_
        refine z_aload_n F dX8_starts_94 rfl (lv_at hl 0 rfl) ?_
        refine z_iload_n F dX8_starts_95 rfl (lv_at hl 1 rfl) ?_
        refine z_iconst F dX8_starts_96 ?_
        refine z_bxi hZ (va_runV (As := [.int (zI (x)), .int (zI (5))]) (rest := [.int (zI (r)), .int (zI ((enterM G x r) 67 (20 * x + 0))), .int (zI (0)), .int (zI (x)), .ref (w.2.1 + (64))]) F (k_X8_get l w dom A hDA sz (enterM G x r) hd x 5 (by omega)) (cwV 2 F.2.2.2.2 gX8_starts_X8_get rfl rfl rfl (by decide +kernel) ⟨Nat.le_of_ble_eq_true rfl, Nat.le_of_ble_eq_true rfl⟩) (z_preV hK hZ (64) (hd _ (by omega)) rfl (by decide) rfl _) rfl rfl hl.1 rfl (lv_room (Nat.le_of_ble_eq_true rfl)) dX8_starts_97 ⟨Nat.le_of_ble_eq_true rfl, Nat.le_of_ble_eq_true rfl⟩) (fun H locs hZ => ?_)
        have r_8 := hZ.2.1.1 (67) (20 * x + 5)
        refine z_aload_n F dX8_starts_100 rfl (lv_at hl 0 rfl) ?_
        refine z_iload_n F dX8_starts_101 rfl (lv_at hl 1 rfl) ?_
        refine z_bipush F (by decide) dX8_starts_102 ?_
        refine z_bxi hZ (va_runV (As := [.int (zI (x)), .int (zI (6))]) (rest := [.int (zI ((enterM G x r) 67 (20 * x + 5))), .int (zI (r)), .int (zI ((enterM G x r) 67 (20 * x + 0))), .int (zI (0)), .int (zI (x)), .ref (w.2.1 + (64))]) F (k_X8_get l w dom A hDA sz (enterM G x r) hd x 6 (by omega)) (cwV 2 F.2.2.2.2 gX8_starts_X8_get rfl rfl rfl (by decide +kernel) ⟨Nat.le_of_ble_eq_true rfl, Nat.le_of_ble_eq_true rfl⟩) (z_preV hK hZ (64) (hd _ (by omega)) rfl (by decide) rfl _) rfl rfl hl.1 rfl (lv_room (Nat.le_of_ble_eq_true rfl)) dX8_starts_104 ⟨Nat.le_of_ble_eq_true rfl, Nat.le_of_ble_eq_true rfl⟩) (fun H locs hZ => ?_)
        have r_9 := hZ.2.1.1 (67) (20 * x + 6)
        refine z_iconst F dX8_starts_107 ?_
        refine z_bxv hZ (va_runV (As := [.int (zI (x)), .int (zI (0)), .int (zI ((enterM G x r) 67 (20 * x + 0))), .int (zI (r)), .int (zI ((enterM G x r) 67 (20 * x + 5))), .int (zI ((enterM G x r) 67 (20 * x + 6))), .int (zI (1))]) (rest := []) F (k_X8_sends l w dom A hDA sz (enterM G x r) hd x 0 ((enterM G x r) 67 (20 * x + 0)) r ((enterM G x r) 67 (20 * x + 5)) ((enterM G x r) 67 (20 * x + 6)) 1 (by omega) (by omega) (by omega) (by omega) (by omega) (by omega) (by omega) (by omega)) (cwV 7 F.2.2.2.2 gX8_starts_X8_sends rfl rfl rfl (by decide +kernel) ⟨Nat.le_of_ble_eq_true rfl, Nat.le_of_ble_eq_true rfl⟩) (z_preV hK hZ (64) (hd _ (by omega)) rfl (by decide) rfl _) rfl rfl hl.1 rfl (lv_room (Nat.le_of_ble_eq_true rfl)) dX8_starts_108 ⟨Nat.le_of_ble_eq_true rfl, Nat.le_of_ble_eq_true rfl⟩) (fun H locs hZ => ?_)
        exact z_vret F hr hlocks hZ (by rw [startsM, if_neg (by omega), if_neg (by omega), if_pos (by omega)]) dX8_starts_111 (by omega) (by omega)
    · skip
      refine z_aload_n F dX8_starts_68 rfl (lv_at hl 0 rfl) ?_
      refine z_iload_n F dX8_starts_69 rfl (lv_at hl 1 rfl) ?_
      refine z_iconst F dX8_starts_70 ?_
      refine z_bxv hZ (va_runV (As := [.int (zI (x)), .int (zI (0))]) (rest := []) F (k_X8_setTimer l w dom A hDA sz (enterM G x r) hd x 0 (by omega) (by omega) (by omega) (by omega)) (cwV 2 F.2.2.2.2 gX8_starts_X8_setTimer rfl rfl rfl (by decide +kernel) ⟨Nat.le_of_ble_eq_true rfl, Nat.le_of_ble_eq_true rfl⟩) (z_preV hK hZ (64) (hd _ (by omega)) rfl (by decide) rfl _) rfl rfl hl.1 rfl (lv_room (Nat.le_of_ble_eq_true rfl)) dX8_starts_71 ⟨Nat.le_of_ble_eq_true rfl, Nat.le_of_ble_eq_true rfl⟩) (fun H locs hZ => ?_)
      exact z_vret F hr hlocks hZ (by rw [startsM, if_neg (by omega), if_pos c_65]) dX8_starts_74 (by omega) (by omega)
  · skip
    refine z_aload_n F dX8_starts_6 rfl (lv_at hl 0 rfl) ?_
    refine z_iload_n F dX8_starts_7 rfl (lv_at hl 1 rfl) ?_
    refine z_bipush F (by decide) dX8_starts_8 ?_
    refine z_iconst F dX8_starts_10 ?_
    refine z_bxv hZ (va_runV (As := [.int (zI (x)), .int (zI (7)), .int (zI (1))]) (rest := []) F (k_X8_set l w dom A hDA sz G hd x 7 1 (by omega) (by omega)) (cwV 3 F.2.2.2.2 gX8_starts_X8_set rfl rfl rfl (by decide +kernel) ⟨Nat.le_of_ble_eq_true rfl, Nat.le_of_ble_eq_true rfl⟩) (z_preV hK hZ (64) (hd _ (by omega)) rfl (by decide) rfl _) rfl rfl hl.1 rfl (lv_room (Nat.le_of_ble_eq_true rfl)) dX8_starts_11 ⟨Nat.le_of_ble_eq_true rfl, Nat.le_of_ble_eq_true rfl⟩) (fun H locs hZ => ?_)
    exact z_vret F hr hlocks hZ (by rw [startsM, if_pos (by omega)]) dX8_starts_14 (by omega) (by omega)

theorem mX8_decides_20 : Cond.fieldLink RX8 20 "LockedChainModel" "decided" "[I" ∈ wsX8_decides := by decide +kernel
theorem mX8_decides_23 : Cond.fieldLink RX8 23 "LockedChainModel" "letter" "[I" ∈ wsX8_decides := by decide +kernel
theorem mX8_decides_44 : Cond.fieldLink RX8 44 "LockedChainModel" "letters" "I" ∈ wsX8_decides := by decide +kernel
set_option maxHeartbeats 4000000 in
set_option maxRecDepth 100000 in
theorem k_X8_decides (l : Launch) (w : zW) (dom : Nat → Prop) (A : Nat → Prop) (hDA : ∀ i, dom i → A (w.2.1 + i)) (sz : Nat) (G : zM) (hd : ∀ i, 64 ≤ i ∧ i < 71 → dom i) (hI : Inv G) (x : Int) (h0 : 0 ≤ x ∧ x < 7) (h5 : G 67 (20 * x + 0) ≤ 5) : Met l yX8_decides wsX8_decides { frames := 3, cells := 0, slots := 0, locals := 68 } (zPre w dom sz G [.ref (w.2.1 + (64)), .int (zI (x))]) (zQi w dom sz (bI ((decidesM G x).isSome = true)) (fun C => C = (decidesM G x).getD G) A) (0) (0) A := by
  refine Met.ofW (cc := cX8_decides) (maxL := 7) (ret := (some .boolean)) (by decide) rfl ?_
  intro p e s m args below meth c s₁ B hml hv
  obtain ⟨rfl, hsz, hP, hK⟩ := hv
  have F : CallFix p m c cX8_decides 7 s _ wsX8_decides RX8 := ⟨B.exec, B.bytes, hml, findClass_of_methodNamed B.named, atoms_spec (ws := wsX8_decides) B.pre⟩
  have hr := B.returns
  have hlocks := B.notSynchronized
  have hZ : Zs w dom A s.heap sz G s.heap [] := ⟨hsz, hP, va_S.rf⟩
  have hl := lv_entry ([.ref (w.2.1 + (64)), .int (zI (x))]) (n := 7) (Nat.le_of_ble_eq_true rfl)
  rw [lg_entry_eq]
  generalize (lg_sl ([.ref (w.2.1 + (64)), .int (zI (x))]) ++ List.replicate (7 - (lg_sl ([.ref (w.2.1 + (64)), .int (zI (x))])).length) Slot.unset).toArray = ls at hl ⊢
  have hl : lv_has ls 7 [(0, .ref (w.2.1 + (64))), (1, .int (zI (x)))] := hl
  have hin8 : ∀ v ∈ u_ws RX8 TX8 10, v ∈ wsX8_decides := by decide +kernel
  have hn := hI.1
  have hL := hI.2.2.2.1
  have iS := seat_rng hI h0
  refine z_aload_n F dX8_decides_0 rfl (lv_at hl 0 rfl) ?_
  refine z_iload_n F dX8_decides_1 rfl (lv_at hl 1 rfl) ?_
  refine z_iconst F dX8_decides_2 ?_
  refine z_bxi hZ (va_runV (As := [.int (zI (x)), .int (zI (0))]) (rest := []) F (k_X8_get l w dom A hDA sz G hd x 0 (by omega)) (cwV 2 F.2.2.2.2 gX8_decides_X8_get rfl rfl rfl (by decide +kernel) ⟨Nat.le_of_ble_eq_true rfl, Nat.le_of_ble_eq_true rfl⟩) (z_preV hK hZ (64) (hd _ (by omega)) rfl (by decide) rfl _) rfl rfl hl.1 rfl (lv_room (Nat.le_of_ble_eq_true rfl)) dX8_decides_3 ⟨Nat.le_of_ble_eq_true rfl, Nat.le_of_ble_eq_true rfl⟩) (fun H locs hZ => ?_)
  have r_1 := hZ.2.1.1 (67) (20 * x + 0)
  refine z_istore_n (lv' := [(2, .int (zI (G 67 (20 * x + 0)))), (0, .ref (w.2.1 + (64))), (1, .int (zI (x)))]) F dX8_decides_6 rfl hl (by decide) rfl (fun ls hl => ?_)
  refine z_iconst F dX8_decides_7 ?_
  refine z_istore_n (lv' := [(3, .int (zI (0))), (2, .int (zI (G 67 (20 * x + 0)))), (0, .ref (w.2.1 + (64))), (1, .int (zI (x)))]) F dX8_decides_8 rfl hl (by decide) rfl (fun ls hl => ?_)
  have L_9 : ∀ (nf : Nat) (r : Nat), (11 ≤ r + nf) → (r ≤ 10) → (decF G x 10 0 = decF G x (10 - r) r) →  ∀ (H : Heap) (locs : List Loc) (ls : Array Slot), Zs w dom A s.heap sz G H locs → lv_has ls 7 [(0, .ref (w.2.1 + (64))), (1, .int (zI (x))), (2, .int (zI (G 67 (20 * x + 0)))), (3, .int (zI ((r : Int))))] → W p l e (headSpec wsX8_decides { frames := 3, cells := 0, slots := 0, locals := 68 }).room s m ([.ref (w.2.1 + (64)), .int (zI (x))] : List Value).toArray below meth c H locs (0 + 0) (0 + 0) (MQ below (zQi w dom sz (bI ((decidesM G x).isSome = true)) (fun C => C = (decidesM G x).getD G) A) ([.ref (w.2.1 + (64)), .int (zI (x))] : List Value).toArray s (0) (0) A) (F0 m 9 ls []) := by
    intro nf
    induction nf with
    | zero => intro r  h9_0 h9_1 h9_2; exact absurd h9_0 (by omega)
    | succ nf ih_9 =>
      intro r  h9_0 h9_1 h9_2 H locs ls hZ hl
      refine z_iload_n F dX8_decides_9 rfl (lv_at hl 3 rfl) ?_
      refine z_bipush F (by decide) dX8_decides_10 ?_
      refine z_icmp_ge (tgt := 224) F (by omega) (by omega) dX8_decides_12 (by decide) (fun c_12 => ?_) (fun c_12 => ?_)
      · skip
        refine z_iconst F dX8_decides_224 ?_
        exact z_zret F hr hlocks hZ (bI_0 (by rw [decidesM, h9_2, show 10 - r = 0 by omega]; exact fun q => by cases q)) (by omega) (by rw [decidesM, h9_2, show 10 - r = 0 by omega]; rfl) dX8_decides_225 (by omega) (by omega)
      · skip
        refine z_iconst F dX8_decides_15 ?_
        refine z_istore (lv' := [(4, .int (zI (0))), (0, .ref (w.2.1 + (64))), (1, .int (zI (x))), (2, .int (zI (G 67 (20 * x + 0)))), (3, .int (zI ((r : Int))))]) F dX8_decides_16 hl (by decide) rfl (fun ls hl => ?_)
        have L_18 : ∀ (nf : Nat) (i : Nat), ((G 64 7).toNat + 1 ≤ i + nf) → (i ≤ (G 64 7).toNat) → (fstB (supP G x (r : Int) 2) (G 64 7).toNat 0 = fstB (supP G x (r : Int) 2) ((G 64 7).toNat - i) i) →  ∀ (H : Heap) (locs : List Loc) (ls : Array Slot), Zs w dom A s.heap sz G H locs → lv_has ls 7 [(0, .ref (w.2.1 + (64))), (1, .int (zI (x))), (2, .int (zI (G 67 (20 * x + 0)))), (3, .int (zI ((r : Int)))), (4, .int (zI ((i : Int))))] → W p l e (headSpec wsX8_decides { frames := 3, cells := 0, slots := 0, locals := 68 }).room s m ([.ref (w.2.1 + (64)), .int (zI (x))] : List Value).toArray below meth c H locs (0 + 0) (0 + 0) (MQ below (zQi w dom sz (bI ((decidesM G x).isSome = true)) (fun C => C = (decidesM G x).getD G) A) ([.ref (w.2.1 + (64)), .int (zI (x))] : List Value).toArray s (0) (0) A) (F0 m 18 ls []) := by
          intro nf
          induction nf with
          | zero => intro i  h18_0 h18_1 h18_2; exact absurd h18_0 (by omega)
          | succ nf ih_18 =>
            intro i  h18_0 h18_1 h18_2 H locs ls hZ hl
            refine z_iload F dX8_decides_18 (lv_at hl 4 rfl) ?_
            refine z_aload_n F dX8_decides_20 rfl (lv_at hl 0 rfl) ?_
            refine z_get F hK hZ (64) (hd _ (by omega)) rfl (by decide) rfl hin8 7 (by decide) mX8_decides_44 rfl rfl dX8_decides_21 ?_
            have r_2 := hZ.2.1.1 (64) (7)
            refine z_icmp_ge (tgt := 218) F (by omega) (by omega) dX8_decides_24 (by decide) (fun c_24 => ?_) (fun c_24 => ?_)
            · skip
              refine z_iinc (k := 3) (z := (r : Int)) (lv' := [(3, .int (zI ((r : Int) + 1))), (0, .ref (w.2.1 + (64))), (1, .int (zI (x))), (2, .int (zI (G 67 (20 * x + 0)))), (4, .int (zI ((i : Int))))]) F dX8_decides_218 hl rfl (by decide) rfl (fun ls hl => ?_)
              refine lv_goto (tgt := 9) F.1 F.2.1 dX8_decides_221 (by decide) ?_
              exact ih_9 (r + 1) (by omega) (by omega) (by rw [h9_2, decF_no (by omega) (by rw [h18_2, show (G 64 7).toNat - i = 0 by omega]; rfl), show 10 - r - 1 = 10 - (r + 1) by omega]) _ _ _ hZ (lv_sub hl [1, 2, 3, 0] rfl)
            · skip
              have iL := let_rng hI (l := (i : Int)) (by omega)
              refine z_aload_n F dX8_decides_27 rfl (lv_at hl 0 rfl) ?_
              refine z_get F hK hZ (64) (hd _ (by omega)) rfl (by decide) rfl hin8 8 (by decide) mX8_decides_23 rfl rfl dX8_decides_28 ?_
              refine z_bipush F (by decide) dX8_decides_31 ?_
              refine z_iload F dX8_decides_33 (lv_at hl 4 rfl) ?_
              refine z_imul F dX8_decides_35 ?_
              refine z_iconst F dX8_decides_36 ?_
              refine z_iadd F dX8_decides_37 ?_
              refine z_iald F hK hZ (69) (hd _ (by omega)) rfl (by decide) (by omega) (by omega) dX8_decides_38 ?_
              have r_3 := hZ.2.1.1 (69) (6 * ((i : Int)) + 4)
              refine z_istore (lv' := [(5, .int (zI (G (69) (6 * ((i : Int)) + 4)))), (0, .ref (w.2.1 + (64))), (1, .int (zI (x))), (2, .int (zI (G 67 (20 * x + 0)))), (3, .int (zI ((r : Int)))), (4, .int (zI ((i : Int))))]) F dX8_decides_39 hl (by decide) rfl (fun ls hl => ?_)
              refine z_aload_n F dX8_decides_41 rfl (lv_at hl 1 rfl) ?_
              refine z_iload_n F dX8_decides_42 rfl (lv_at hl 2 rfl) ?_
              refine z_iload F dX8_decides_43 (lv_at hl 5 rfl) ?_
              refine z_bxi hZ (va_runV (As := [.int (zI (x)), .int (zI ((i : Int)))]) (rest := []) F (k_X8_proposes l w dom A hDA sz G hd (by omega) x i (by omega) (by omega) (by omega) (by omega)) (cwV 2 F.2.2.2.2 gX8_decides_X8_proposes rfl rfl rfl (by decide +kernel) ⟨Nat.le_of_ble_eq_true rfl, Nat.le_of_ble_eq_true rfl⟩) (z_preV hK hZ (64) (hd _ (by omega)) rfl (by decide) rfl _) rfl rfl hl.1 rfl (lv_room (Nat.le_of_ble_eq_true rfl)) dX8_decides_45 ⟨Nat.le_of_ble_eq_true rfl, Nat.le_of_ble_eq_true rfl⟩) (fun H locs hZ => ?_)
              refine z_ifB_eq (tgt := 212) F dX8_decides_48 (by decide) (fun c_48 => ?_) (fun c_48 => ?_)
              · skip
                refine z_iinc (k := 5) (z := (i : Int)) (lv' := [(4, .int (zI ((i : Int) + 1))), (5, .int (zI (G (69) (6 * ((i : Int)) + 4)))), (0, .ref (w.2.1 + (64))), (1, .int (zI (x))), (2, .int (zI (G 67 (20 * x + 0)))), (3, .int (zI ((r : Int))))]) F dX8_decides_212 hl rfl (by decide) rfl (fun ls hl => ?_)
                refine lv_goto (tgt := 18) F.1 F.2.1 dX8_decides_215 (by decide) ?_
                exact ih_18 (i + 1) (by omega) (by omega) (by rw [h18_2, fstB_f (by omega) (by simp only [supP, Bool.and_eq_true, decide_eq_true_eq]; unfold manyN; first | exact fun q => c_48 q.1.1.1 | exact fun q => c_64 q.1.1.2 | exact fun q => c_74 q.1.2 | exact fun q => by have q3 := q.2; omega), show (G 64 7).toNat - i - 1 = (G 64 7).toNat - (i + 1) by omega]) _ _ _ hZ (lv_sub hl [2, 3, 4, 5, 0] rfl)
              · skip
                refine z_aload_n F dX8_decides_51 rfl (lv_at hl 1 rfl) ?_
                refine z_get F hK hZ (64) (hd _ (by omega)) rfl (by decide) rfl hin8 8 (by decide) mX8_decides_23 rfl rfl dX8_decides_52 ?_
                refine z_bipush F (by decide) dX8_decides_55 ?_
                refine z_iload F dX8_decides_57 (lv_at hl 5 rfl) ?_
                refine z_imul F dX8_decides_59 ?_
                refine z_iconst F dX8_decides_60 ?_
                refine z_iadd F dX8_decides_61 ?_
                refine z_iald F hK hZ (69) (hd _ (by omega)) rfl (by decide) (by omega) (by omega) dX8_decides_62 ?_
                have r_4 := hZ.2.1.1 (69) (6 * ((i : Int)) + 3)
                refine z_iload_n F dX8_decides_63 rfl (lv_at hl 4 rfl) ?_
                refine z_icmp_ne (tgt := 212) F (by omega) (by omega) dX8_decides_64 (by decide) (fun c_64 => ?_) (fun c_64 => ?_)
                · skip
                  refine z_iinc (k := 5) (z := (i : Int)) (lv' := [(4, .int (zI ((i : Int) + 1))), (5, .int (zI (G (69) (6 * ((i : Int)) + 4)))), (0, .ref (w.2.1 + (64))), (1, .int (zI (x))), (2, .int (zI (G 67 (20 * x + 0)))), (3, .int (zI ((r : Int))))]) F dX8_decides_212 hl rfl (by decide) rfl (fun ls hl => ?_)
                  refine lv_goto (tgt := 18) F.1 F.2.1 dX8_decides_215 (by decide) ?_
                  exact ih_18 (i + 1) (by omega) (by omega) (by rw [h18_2, fstB_f (by omega) (by simp only [supP, Bool.and_eq_true, decide_eq_true_eq]; unfold manyN; first | exact fun q => c_48 q.1.1.1 | exact fun q => c_64 q.1.1.2 | exact fun q => c_74 q.1.2 | exact fun q => by have q3 := q.2; omega), show (G 64 7).toNat - i - 1 = (G 64 7).toNat - (i + 1) by omega]) _ _ _ hZ (lv_sub hl [2, 3, 4, 5, 0] rfl)
                · skip
                  refine z_aload_n F dX8_decides_67 rfl (lv_at hl 1 rfl) ?_
                  refine z_iload_n F dX8_decides_68 rfl (lv_at hl 2 rfl) ?_
                  refine z_iload F dX8_decides_69 (lv_at hl 0 rfl) ?_
                  refine z_bxi hZ (va_runV (As := [.int (zI (x)), .int (zI (G (69) (6 * ((i : Int)) + 4)))]) (rest := []) F (k_X8_isRight l w dom A hDA sz G hd x (G (69) (6 * ((i : Int)) + 4)) (by omega) (by omega)) (cwV 2 F.2.2.2.2 gX8_decides_X8_isRight rfl rfl rfl (by decide +kernel) ⟨Nat.le_of_ble_eq_true rfl, Nat.le_of_ble_eq_true rfl⟩) (z_preV hK hZ (64) (hd _ (by omega)) rfl (by decide) rfl _) rfl rfl hl.1 rfl (lv_room (Nat.le_of_ble_eq_true rfl)) dX8_decides_71 ⟨Nat.le_of_ble_eq_true rfl, Nat.le_of_ble_eq_true rfl⟩) (fun H locs hZ => ?_)
                  refine z_ifB_eq (tgt := 212) F dX8_decides_74 (by decide) (fun c_74 => ?_) (fun c_74 => ?_)
                  · skip
                    refine z_iinc (k := 5) (z := (i : Int)) (lv' := [(4, .int (zI ((i : Int) + 1))), (5, .int (zI (G (69) (6 * ((i : Int)) + 4)))), (0, .ref (w.2.1 + (64))), (1, .int (zI (x))), (2, .int (zI (G 67 (20 * x + 0)))), (3, .int (zI ((r : Int))))]) F dX8_decides_212 hl rfl (by decide) rfl (fun ls hl => ?_)
                    refine lv_goto (tgt := 18) F.1 F.2.1 dX8_decides_215 (by decide) ?_
                    exact ih_18 (i + 1) (by omega) (by omega) (by rw [h18_2, fstB_f (by omega) (by simp only [supP, Bool.and_eq_true, decide_eq_true_eq]; unfold manyN; first | exact fun q => c_48 q.1.1.1 | exact fun q => c_64 q.1.1.2 | exact fun q => c_74 q.1.2 | exact fun q => by have q3 := q.2; omega), show (G 64 7).toNat - i - 1 = (G 64 7).toNat - (i + 1) by omega]) _ _ _ hZ (lv_sub hl [2, 3, 4, 5, 0] rfl)
                  · skip
                    refine z_aload_n F dX8_decides_77 rfl (lv_at hl 1 rfl) ?_
                    refine z_iload_n F dX8_decides_78 rfl (lv_at hl 2 rfl) ?_
                    refine z_iconst F dX8_decides_79 ?_
                    refine z_iload_n F dX8_decides_80 rfl (lv_at hl 3 rfl) ?_
                    refine z_iload_n F dX8_decides_81 rfl (lv_at hl 4 rfl) ?_
                    refine z_iload F dX8_decides_82 (lv_at hl 0 rfl) ?_
                    refine z_bxi hZ (va_runV (As := [.int (zI (x)), .int (zI (2)), .int (zI (G 67 (20 * x + 0))), .int (zI ((r : Int))), .int (zI (G (69) (6 * ((i : Int)) + 4)))]) (rest := []) F (k_X8_voted l w dom A hDA sz G hd (by omega) x 2 (G 67 (20 * x + 0)) ((r : Int)) (G (69) (6 * ((i : Int)) + 4)) (by omega) (by omega) (by omega) (by omega) (by omega) (by omega)) (cwV 5 F.2.2.2.2 gX8_decides_X8_voted rfl rfl rfl (by decide +kernel) ⟨Nat.le_of_ble_eq_true rfl, Nat.le_of_ble_eq_true rfl⟩) (z_preV hK hZ (64) (hd _ (by omega)) rfl (by decide) rfl _) rfl rfl hl.1 rfl (lv_room (Nat.le_of_ble_eq_true rfl)) dX8_decides_84 ⟨Nat.le_of_ble_eq_true rfl, Nat.le_of_ble_eq_true rfl⟩) (fun H locs hZ => ?_)
                    have r_5 := voteN_rng G x 2 (G 67 (20 * x + 0)) ((r : Int)) (G (69) (6 * ((i : Int)) + 4))
                    refine z_aload_n F dX8_decides_87 rfl (lv_at hl 1 rfl) ?_
                    refine z_bxi hZ (va_runV (As := []) (rest := [.int (zI (voteN G x 2 (G 67 (20 * x + 0)) ((r : Int)) (G (69) (6 * ((i : Int)) + 4))))]) F (k_X8_many l w dom A hDA sz G hd (by omega)) (cwV 0 F.2.2.2.2 gX8_decides_X8_many rfl rfl rfl (by decide +kernel) ⟨Nat.le_of_ble_eq_true rfl, Nat.le_of_ble_eq_true rfl⟩) (z_preV hK hZ (64) (hd _ (by omega)) rfl (by decide) rfl _) rfl rfl hl.1 rfl (lv_room (Nat.le_of_ble_eq_true rfl)) dX8_decides_88 ⟨Nat.le_of_ble_eq_true rfl, Nat.le_of_ble_eq_true rfl⟩) (fun H locs hZ => ?_)
                    refine z_icmp_lt (tgt := 212) F (by omega) (by omega) dX8_decides_91 (by decide) (fun c_91 => ?_) (fun c_91 => ?_)
                    · skip
                      refine z_iinc (k := 5) (z := (i : Int)) (lv' := [(4, .int (zI ((i : Int) + 1))), (5, .int (zI (G (69) (6 * ((i : Int)) + 4)))), (0, .ref (w.2.1 + (64))), (1, .int (zI (x))), (2, .int (zI (G 67 (20 * x + 0)))), (3, .int (zI ((r : Int))))]) F dX8_decides_212 hl rfl (by decide) rfl (fun ls hl => ?_)
                      refine lv_goto (tgt := 18) F.1 F.2.1 dX8_decides_215 (by decide) ?_
                      exact ih_18 (i + 1) (by omega) (by omega) (by rw [h18_2, fstB_f (by omega) (by simp only [supP, Bool.and_eq_true, decide_eq_true_eq]; unfold manyN; first | exact fun q => c_48 q.1.1.1 | exact fun q => c_64 q.1.1.2 | exact fun q => c_74 q.1.2 | exact fun q => by have q3 := q.2; omega), show (G 64 7).toNat - i - 1 = (G 64 7).toNat - (i + 1) by omega]) _ _ _ hZ (lv_sub hl [2, 3, 4, 5, 0] rfl)
                    · skip
                      refine z_aload_n F dX8_decides_94 rfl (lv_at hl 1 rfl) ?_
                      refine z_get F hK hZ (64) (hd _ (by omega)) rfl (by decide) rfl hin8 6 (by decide) mX8_decides_20 rfl rfl dX8_decides_95 ?_
                      refine z_bipush F (by decide) dX8_decides_98 ?_
                      refine z_iload_n F dX8_decides_100 rfl (lv_at hl 2 rfl) ?_
                      refine z_imul F dX8_decides_101 ?_
                      refine z_iconst F dX8_decides_102 ?_
                      refine z_iload_n F dX8_decides_103 rfl (lv_at hl 3 rfl) ?_
                      refine z_imul F dX8_decides_104 ?_
                      refine z_iadd F dX8_decides_105 ?_
                      refine z_iload F dX8_decides_106 (lv_at hl 0 rfl) ?_
                      refine z_iast F hK hZ hDA (68) (hd _ (by omega)) rfl (by decide) (by omega) (by omega) (by omega) dX8_decides_108 (fun H locs hZ => ?_)
                      refine z_aload_n F dX8_decides_109 rfl (lv_at hl 1 rfl) ?_
                      refine z_get F hK hZ (64) (hd _ (by omega)) rfl (by decide) rfl hin8 6 (by decide) mX8_decides_20 rfl rfl dX8_decides_110 ?_
                      refine z_bipush F (by decide) dX8_decides_113 ?_
                      refine z_iload_n F dX8_decides_115 rfl (lv_at hl 2 rfl) ?_
                      refine z_imul F dX8_decides_116 ?_
                      refine z_iconst F dX8_decides_117 ?_
                      refine z_iload_n F dX8_decides_118 rfl (lv_at hl 3 rfl) ?_
                      refine z_imul F dX8_decides_119 ?_
                      refine z_iadd F dX8_decides_120 ?_
                      refine z_iconst F dX8_decides_121 ?_
                      refine z_iadd F dX8_decides_122 ?_
                      refine z_iload_n F dX8_decides_123 rfl (lv_at hl 4 rfl) ?_
                      refine z_iast F hK hZ hDA (68) (hd _ (by omega)) rfl (by decide) (by omega) (by omega) (by omega) dX8_decides_124 (fun H locs hZ => ?_)
                      refine z_aload_n F dX8_decides_125 rfl (lv_at hl 1 rfl) ?_
                      refine z_iload_n F dX8_decides_126 rfl (lv_at hl 2 rfl) ?_
                      refine z_iconst F dX8_decides_127 ?_
                      refine z_iload_n F dX8_decides_128 rfl (lv_at hl 3 rfl) ?_
                      refine z_iconst F dX8_decides_129 ?_
                      refine z_iadd F dX8_decides_130 ?_
                      refine z_bxv hZ (va_runV (As := [.int (zI (x)), .int (zI (0)), .int (zI (G 67 (20 * x + 0) + 1))]) (rest := []) F (k_X8_set l w dom A hDA sz (up (up G (68) (12 * x + (2 * (G 67 (20 * x + 0)))) (G (69) (6 * ((i : Int)) + 4))) (68) (12 * x + (2 * (G 67 (20 * x + 0))) + 1) ((r : Int))) hd x 0 (G 67 (20 * x + 0) + 1) (by omega) (by omega)) (cwV 3 F.2.2.2.2 gX8_decides_X8_set rfl rfl rfl (by decide +kernel) ⟨Nat.le_of_ble_eq_true rfl, Nat.le_of_ble_eq_true rfl⟩) (z_preV hK hZ (64) (hd _ (by omega)) rfl (by decide) rfl _) rfl rfl hl.1 rfl (lv_room (Nat.le_of_ble_eq_true rfl)) dX8_decides_131 ⟨Nat.le_of_ble_eq_true rfl, Nat.le_of_ble_eq_true rfl⟩) (fun H locs hZ => ?_)
                      refine z_aload_n F dX8_decides_134 rfl (lv_at hl 1 rfl) ?_
                      refine z_iload_n F dX8_decides_135 rfl (lv_at hl 2 rfl) ?_
                      refine z_iconst F dX8_decides_136 ?_
                      refine z_iconst F dX8_decides_137 ?_
                      refine z_bxv hZ (va_runV (As := [.int (zI (x)), .int (zI (3)), .int (zI (-1))]) (rest := []) F (k_X8_set l w dom A hDA sz (setM (up (up G (68) (12 * x + (2 * (G 67 (20 * x + 0)))) (G (69) (6 * ((i : Int)) + 4))) (68) (12 * x + (2 * (G 67 (20 * x + 0))) + 1) ((r : Int))) x 0 (G 67 (20 * x + 0) + 1)) hd x 3 (-1) (by omega) (by omega)) (cwV 3 F.2.2.2.2 gX8_decides_X8_set rfl rfl rfl (by decide +kernel) ⟨Nat.le_of_ble_eq_true rfl, Nat.le_of_ble_eq_true rfl⟩) (z_preV hK hZ (64) (hd _ (by omega)) rfl (by decide) rfl _) rfl rfl hl.1 rfl (lv_room (Nat.le_of_ble_eq_true rfl)) dX8_decides_138 ⟨Nat.le_of_ble_eq_true rfl, Nat.le_of_ble_eq_true rfl⟩) (fun H locs hZ => ?_)
                      refine z_aload_n F dX8_decides_141 rfl (lv_at hl 1 rfl) ?_
                      refine z_iload_n F dX8_decides_142 rfl (lv_at hl 2 rfl) ?_
                      refine z_iconst F dX8_decides_143 ?_
                      refine z_iconst F dX8_decides_144 ?_
                      refine z_bxv hZ (va_runV (As := [.int (zI (x)), .int (zI (5)), .int (zI (-1))]) (rest := []) F (k_X8_set l w dom A hDA sz (setM (setM (up (up G (68) (12 * x + (2 * (G 67 (20 * x + 0)))) (G (69) (6 * ((i : Int)) + 4))) (68) (12 * x + (2 * (G 67 (20 * x + 0))) + 1) ((r : Int))) x 0 (G 67 (20 * x + 0) + 1)) x 3 (-1)) hd x 5 (-1) (by omega) (by omega)) (cwV 3 F.2.2.2.2 gX8_decides_X8_set rfl rfl rfl (by decide +kernel) ⟨Nat.le_of_ble_eq_true rfl, Nat.le_of_ble_eq_true rfl⟩) (z_preV hK hZ (64) (hd _ (by omega)) rfl (by decide) rfl _) rfl rfl hl.1 rfl (lv_room (Nat.le_of_ble_eq_true rfl)) dX8_decides_145 ⟨Nat.le_of_ble_eq_true rfl, Nat.le_of_ble_eq_true rfl⟩) (fun H locs hZ => ?_)
                      refine z_aload_n F dX8_decides_148 rfl (lv_at hl 1 rfl) ?_
                      refine z_iload_n F dX8_decides_149 rfl (lv_at hl 2 rfl) ?_
                      refine z_bipush F (by decide) dX8_decides_150 ?_
                      refine z_iconst F dX8_decides_152 ?_
                      refine z_bxv hZ (va_runV (As := [.int (zI (x)), .int (zI (7)), .int (zI (0))]) (rest := []) F (k_X8_set l w dom A hDA sz (setM (setM (setM (up (up G (68) (12 * x + (2 * (G 67 (20 * x + 0)))) (G (69) (6 * ((i : Int)) + 4))) (68) (12 * x + (2 * (G 67 (20 * x + 0))) + 1) ((r : Int))) x 0 (G 67 (20 * x + 0) + 1)) x 3 (-1)) x 5 (-1)) hd x 7 0 (by omega) (by omega)) (cwV 3 F.2.2.2.2 gX8_decides_X8_set rfl rfl rfl (by decide +kernel) ⟨Nat.le_of_ble_eq_true rfl, Nat.le_of_ble_eq_true rfl⟩) (z_preV hK hZ (64) (hd _ (by omega)) rfl (by decide) rfl _) rfl rfl hl.1 rfl (lv_room (Nat.le_of_ble_eq_true rfl)) dX8_decides_153 ⟨Nat.le_of_ble_eq_true rfl, Nat.le_of_ble_eq_true rfl⟩) (fun H locs hZ => ?_)
                      refine z_iconst F dX8_decides_156 ?_
                      refine z_istore (lv' := [(6, .int (zI (0))), (5, .int (zI (G (69) (6 * ((i : Int)) + 4)))), (0, .ref (w.2.1 + (64))), (1, .int (zI (x))), (2, .int (zI (G 67 (20 * x + 0)))), (3, .int (zI ((r : Int)))), (4, .int (zI ((i : Int))))]) F dX8_decides_157 hl (by decide) rfl (fun ls hl => ?_)
                      have L_159 : ∀ (nf : Nat) (k : Nat), (4 ≤ k + nf) → (k ≤ 3) →  ∀ (H : Heap) (locs : List Loc) (ls : Array Slot), Zs w dom A s.heap sz (tmN (setM (setM (setM (setM (up (up G 68 (12 * x + 2 * G 67 (20 * x + 0)) (G 69 (6 * (i : Int) + 4))) 68 (12 * x + 2 * G 67 (20 * x + 0) + 1) (r : Int)) x 0 (G 67 (20 * x + 0) + 1)) x 3 (-1)) x 5 (-1)) x 7 0) x k) H locs → lv_has ls 7 [(0, .ref (w.2.1 + (64))), (1, .int (zI (x))), (6, .int (zI ((k : Int))))] → W p l e (headSpec wsX8_decides { frames := 3, cells := 0, slots := 0, locals := 68 }).room s m ([.ref (w.2.1 + (64)), .int (zI (x))] : List Value).toArray below meth c H locs (0 + 0 + 0 + 0 + 0 + 0 + 0 + 0 + 0 + 0) (0 + 0 + 0 + 0 + 0 + 0 + 0 + 0 + 0 + 0) (MQ below (zQi w dom sz (bI ((decidesM G x).isSome = true)) (fun C => C = (decidesM G x).getD G) A) ([.ref (w.2.1 + (64)), .int (zI (x))] : List Value).toArray s (0) (0) A) (F0 m 159 ls []) := by
                        intro nf
                        induction nf with
                        | zero => intro k  h159_0 h159_1; exact absurd h159_0 (by omega)
                        | succ nf ih_159 =>
                          intro k  h159_0 h159_1 H locs ls hZ hl
                          refine z_iload F dX8_decides_159 (lv_at hl 2 rfl) ?_
                          refine z_iconst F dX8_decides_161 ?_
                          refine z_icmp_ge (tgt := 182) F (by omega) (by omega) dX8_decides_162 (by decide) (fun c_162 => ?_) (fun c_162 => ?_)
                          · skip
                            refine z_aload_n F dX8_decides_182 rfl (lv_at hl 0 rfl) ?_
                            refine z_iload_n F dX8_decides_183 rfl (lv_at hl 1 rfl) ?_
                            refine z_iconst F dX8_decides_184 ?_
                            refine z_iconst F dX8_decides_185 ?_
                            refine z_bxv hZ (va_runV (As := [.int (zI (x)), .int (zI (1)), .int (zI (0))]) (rest := []) F (k_X8_set l w dom A hDA sz (tmN (setM (setM (setM (setM (up (up G 68 (12 * x + 2 * G 67 (20 * x + 0)) (G 69 (6 * (i : Int) + 4))) 68 (12 * x + 2 * G 67 (20 * x + 0) + 1) (r : Int)) x 0 (G 67 (20 * x + 0) + 1)) x 3 (-1)) x 5 (-1)) x 7 0) x k) hd x 1 0 (by omega) (by omega)) (cwV 3 F.2.2.2.2 gX8_decides_X8_set rfl rfl rfl (by decide +kernel) ⟨Nat.le_of_ble_eq_true rfl, Nat.le_of_ble_eq_true rfl⟩) (z_preV hK hZ (64) (hd _ (by omega)) rfl (by decide) rfl _) rfl rfl hl.1 rfl (lv_room (Nat.le_of_ble_eq_true rfl)) dX8_decides_186 ⟨Nat.le_of_ble_eq_true rfl, Nat.le_of_ble_eq_true rfl⟩) (fun H locs hZ => ?_)
                            refine z_aload_n F dX8_decides_189 rfl (lv_at hl 0 rfl) ?_
                            refine z_iload_n F dX8_decides_190 rfl (lv_at hl 1 rfl) ?_
                            refine z_iconst F dX8_decides_191 ?_
                            refine z_iconst F dX8_decides_192 ?_
                            refine z_bxv hZ (va_runV (As := [.int (zI (x)), .int (zI (2)), .int (zI (0))]) (rest := []) F (k_X8_set l w dom A hDA sz (setM (tmN (setM (setM (setM (setM (up (up G 68 (12 * x + 2 * G 67 (20 * x + 0)) (G 69 (6 * (i : Int) + 4))) 68 (12 * x + 2 * G 67 (20 * x + 0) + 1) (r : Int)) x 0 (G 67 (20 * x + 0) + 1)) x 3 (-1)) x 5 (-1)) x 7 0) x k) x 1 0) hd x 2 0 (by omega) (by omega)) (cwV 3 F.2.2.2.2 gX8_decides_X8_set rfl rfl rfl (by decide +kernel) ⟨Nat.le_of_ble_eq_true rfl, Nat.le_of_ble_eq_true rfl⟩) (z_preV hK hZ (64) (hd _ (by omega)) rfl (by decide) rfl _) rfl rfl hl.1 rfl (lv_room (Nat.le_of_ble_eq_true rfl)) dX8_decides_193 ⟨Nat.le_of_ble_eq_true rfl, Nat.le_of_ble_eq_true rfl⟩) (fun H locs hZ => ?_)
                            have hk : k = 3 := by omega
                            rw [hk] at hZ
                            have hZ : Zs w dom A s.heap sz (endM G x (r : Int) (G 69 (6 * (i : Int) + 4))) _ _ := hZ
                            have n0 : (endM G x (r : Int) (G 69 (6 * (i : Int) + 4))) 64 0 = G 64 0 := rfl
                            have n7 : (endM G x (r : Int) (G 69 (6 * (i : Int) + 4))) 64 7 = G 64 7 := rfl
                            have n1 : (endM G x (r : Int) (G 69 (6 * (i : Int) + 4))) 67 (20 * x + 0) = G 67 (20 * x + 0) + 1 := endM_0 _ _ _ _
                            refine z_aload_n F dX8_decides_196 rfl (lv_at hl 0 rfl) ?_
                            refine z_iload_n F dX8_decides_197 rfl (lv_at hl 1 rfl) ?_
                            refine z_bxi hZ (va_runV (As := [.int (zI (x))]) (rest := []) F (k_X8_isDone l w dom A hDA sz (endM G x (r : Int) (G 69 (6 * (i : Int) + 4))) hd x (by omega)) (cwV 1 F.2.2.2.2 gX8_decides_X8_isDone rfl rfl rfl (by decide +kernel) ⟨Nat.le_of_ble_eq_true rfl, Nat.le_of_ble_eq_true rfl⟩) (z_preV hK hZ (64) (hd _ (by omega)) rfl (by decide) rfl _) rfl rfl hl.1 rfl (lv_room (Nat.le_of_ble_eq_true rfl)) dX8_decides_198 ⟨Nat.le_of_ble_eq_true rfl, Nat.le_of_ble_eq_true rfl⟩) (fun H locs hZ => ?_)
                            refine z_ifB_ne (tgt := 210) F dX8_decides_201 (by decide) (fun c_201 => ?_) (fun c_201 => ?_)
                            · skip
                              refine z_iconst F dX8_decides_210 ?_
                              exact z_zret F hr hlocks hZ (bI_1 (by rw [decidesM, h9_2, decF_yes (by omega) (by rw [h18_2]; exact fstB_t (by omega) (by simp only [supP, Bool.and_eq_true, decide_eq_true_eq]; unfold manyN; exact ⟨⟨⟨c_48, c_64⟩, c_74⟩, by omega⟩))]; rfl)) (by omega) (by rw [decidesM, h9_2, decF_yes (by omega) (by rw [h18_2]; exact fstB_t (by omega) (by simp only [supP, Bool.and_eq_true, decide_eq_true_eq]; unfold manyN; exact ⟨⟨⟨c_48, c_64⟩, c_74⟩, by omega⟩))]; first | exact (if_pos (by omega)).symm | exact (if_neg (by omega)).symm) dX8_decides_211 (by omega) (by omega)
                            · skip
                              refine z_aload_n F dX8_decides_204 rfl (lv_at hl 0 rfl) ?_
                              refine z_iload_n F dX8_decides_205 rfl (lv_at hl 1 rfl) ?_
                              refine z_iconst F dX8_decides_206 ?_
                              refine z_bxv hZ (va_runV (As := [.int (zI (x)), .int (zI (0))]) (rest := []) F (k_X8_starts l w dom A hDA sz (endM G x (r : Int) (G 69 (6 * (i : Int) + 4))) hd (by omega) (by omega) x 0 (by omega) (by omega) (by omega)) (cwV 2 F.2.2.2.2 gX8_decides_X8_starts rfl rfl rfl (by decide +kernel) ⟨Nat.le_of_ble_eq_true rfl, Nat.le_of_ble_eq_true rfl⟩) (z_preV hK hZ (64) (hd _ (by omega)) rfl (by decide) rfl _) rfl rfl hl.1 rfl (lv_room (Nat.le_of_ble_eq_true rfl)) dX8_decides_207 ⟨Nat.le_of_ble_eq_true rfl, Nat.le_of_ble_eq_true rfl⟩) (fun H locs hZ => ?_)
                              refine z_iconst F dX8_decides_210 ?_
                              exact z_zret F hr hlocks hZ (bI_1 (by rw [decidesM, h9_2, decF_yes (by omega) (by rw [h18_2]; exact fstB_t (by omega) (by simp only [supP, Bool.and_eq_true, decide_eq_true_eq]; unfold manyN; exact ⟨⟨⟨c_48, c_64⟩, c_74⟩, by omega⟩))]; rfl)) (by omega) (by rw [decidesM, h9_2, decF_yes (by omega) (by rw [h18_2]; exact fstB_t (by omega) (by simp only [supP, Bool.and_eq_true, decide_eq_true_eq]; unfold manyN; exact ⟨⟨⟨c_48, c_64⟩, c_74⟩, by omega⟩))]; first | exact (if_pos (by omega)).symm | exact (if_neg (by omega)).symm) dX8_decides_211 (by omega) (by omega)
                          · skip
                            refine z_aload_n F dX8_decides_165 rfl (lv_at hl 0 rfl) ?_
                            refine z_iload_n F dX8_decides_166 rfl (lv_at hl 1 rfl) ?_
                            refine z_bipush F (by decide) dX8_decides_167 ?_
                            refine z_iload F dX8_decides_169 (lv_at hl 2 rfl) ?_
                            refine z_iadd F dX8_decides_171 ?_
                            refine z_iconst F dX8_decides_172 ?_
                            refine z_bxv hZ (va_runV (As := [.int (zI (x)), .int (zI (11 + ((k : Int)))), .int (zI (0))]) (rest := []) F (k_X8_set l w dom A hDA sz (tmN (setM (setM (setM (setM (up (up G 68 (12 * x + 2 * G 67 (20 * x + 0)) (G 69 (6 * (i : Int) + 4))) 68 (12 * x + 2 * G 67 (20 * x + 0) + 1) (r : Int)) x 0 (G 67 (20 * x + 0) + 1)) x 3 (-1)) x 5 (-1)) x 7 0) x k) hd x (11 + ((k : Int))) 0 (by omega) (by omega)) (cwV 3 F.2.2.2.2 gX8_decides_X8_set rfl rfl rfl (by decide +kernel) ⟨Nat.le_of_ble_eq_true rfl, Nat.le_of_ble_eq_true rfl⟩) (z_preV hK hZ (64) (hd _ (by omega)) rfl (by decide) rfl _) rfl rfl hl.1 rfl (lv_room (Nat.le_of_ble_eq_true rfl)) dX8_decides_173 ⟨Nat.le_of_ble_eq_true rfl, Nat.le_of_ble_eq_true rfl⟩) (fun H locs hZ => ?_)
                            refine z_iinc (k := 2) (z := (k : Int)) (lv' := [(6, .int (zI ((k : Int) + 1))), (0, .ref (w.2.1 + (64))), (1, .int (zI (x)))]) F dX8_decides_176 hl rfl (by decide) rfl (fun ls hl => ?_)
                            refine lv_goto (tgt := 159) F.1 F.2.1 dX8_decides_179 (by decide) ?_
                            exact ih_159 (k + 1) (by omega) (by omega) _ _ _ hZ (lv_sub hl [1, 2, 0] rfl)
                      exact L_159 4 0 (by omega) (by omega) _ _ _ hZ (lv_sub hl [2, 3, 0] rfl)
        exact L_18 ((G 64 7).toNat + 1) 0 (by omega) (by omega) rfl _ _ _ hZ (lv_sub hl [1, 2, 3, 4, 0] rfl)
  exact L_9 11 0 (by omega) (by omega) rfl _ _ _ hZ (lv_sub hl [2, 3, 1, 0] rfl)

theorem mX8_jumps_23 : Cond.fieldLink RX8 23 "LockedChainModel" "letter" "[I" ∈ wsX8_jumps := by decide +kernel
theorem mX8_jumps_26 : Cond.fieldLink RX8 26 "LockedChainModel" "came" "[Z" ∈ wsX8_jumps := by decide +kernel
theorem mX8_jumps_29 : Cond.fieldLink RX8 29 "LockedChainModel" "n" "I" ∈ wsX8_jumps := by decide +kernel
theorem mX8_jumps_44 : Cond.fieldLink RX8 44 "LockedChainModel" "letters" "I" ∈ wsX8_jumps := by decide +kernel
set_option maxHeartbeats 4000000 in
set_option maxRecDepth 100000 in
theorem k_X8_jumps (l : Launch) (w : zW) (dom : Nat → Prop) (A : Nat → Prop) (hDA : ∀ i, dom i → A (w.2.1 + i)) (sz : Nat) (G : zM) (hd : ∀ i, 64 ≤ i ∧ i < 71 → dom i) (hI : Inv G) (x : Int) (h0 : 0 ≤ x ∧ x < 7) : Met l yX8_jumps wsX8_jumps { frames := 3, cells := 0, slots := 0, locals := 68 } (zPre w dom sz G [.ref (w.2.1 + (64)), .int (zI (x))]) (zQi w dom sz (bI ((jumpsM G x).isSome = true)) (fun C => C = (jumpsM G x).getD G) A) (0) (0) A := by
  refine Met.ofW (cc := cX8_jumps) (maxL := 7) (ret := (some .boolean)) (by decide) rfl ?_
  intro p e s m args below meth c s₁ B hml hv
  obtain ⟨rfl, hsz, hP, hK⟩ := hv
  have F : CallFix p m c cX8_jumps 7 s _ wsX8_jumps RX8 := ⟨B.exec, B.bytes, hml, findClass_of_methodNamed B.named, atoms_spec (ws := wsX8_jumps) B.pre⟩
  have hr := B.returns
  have hlocks := B.notSynchronized
  have hZ : Zs w dom A s.heap sz G s.heap [] := ⟨hsz, hP, va_S.rf⟩
  have hl := lv_entry ([.ref (w.2.1 + (64)), .int (zI (x))]) (n := 7) (Nat.le_of_ble_eq_true rfl)
  rw [lg_entry_eq]
  generalize (lg_sl ([.ref (w.2.1 + (64)), .int (zI (x))]) ++ List.replicate (7 - (lg_sl ([.ref (w.2.1 + (64)), .int (zI (x))])).length) Slot.unset).toArray = ls at hl ⊢
  have hl : lv_has ls 7 [(0, .ref (w.2.1 + (64))), (1, .int (zI (x)))] := hl
  have hin8 : ∀ v ∈ u_ws RX8 TX8 10, v ∈ wsX8_jumps := by decide +kernel
  have hn := hI.1
  have hL := hI.2.2.2.1
  have iS := seat_rng hI h0
  refine z_bipush F (by decide) dX8_jumps_0 ?_
  refine z_istore_n (lv' := [(2, .int (zI (9))), (0, .ref (w.2.1 + (64))), (1, .int (zI (x)))]) F dX8_jumps_2 rfl hl (by decide) rfl (fun ls hl => ?_)
  have L_3 : ∀ (nf : Nat) (k : Nat) (r : Int), (k + 1 ≤ nf) → (k ≤ 9) → (r = G 67 (20 * x + 1) + (k : Int)) → (jmpF G x (9 - G 67 (20 * x + 1)).toNat = jmpF G x k) →  ∀ (H : Heap) (locs : List Loc) (ls : Array Slot), Zs w dom A s.heap sz G H locs → lv_has ls 7 [(0, .ref (w.2.1 + (64))), (1, .int (zI (x))), (2, .int (zI (r)))] → W p l e (headSpec wsX8_jumps { frames := 3, cells := 0, slots := 0, locals := 68 }).room s m ([.ref (w.2.1 + (64)), .int (zI (x))] : List Value).toArray below meth c H locs (0) (0) (MQ below (zQi w dom sz (bI ((jumpsM G x).isSome = true)) (fun C => C = (jumpsM G x).getD G) A) ([.ref (w.2.1 + (64)), .int (zI (x))] : List Value).toArray s (0) (0) A) (F0 m 3 ls []) := by
    intro nf
    induction nf with
    | zero => intro k  r  h3_0 h3_1 h3_2 h3_3; exact absurd h3_0 (by omega)
    | succ nf ih_3 =>
      intro k  r  h3_0 h3_1 h3_2 h3_3 H locs ls hZ hl
      refine z_iload_n F dX8_jumps_3 rfl (lv_at hl 2 rfl) ?_
      refine z_aload_n F dX8_jumps_4 rfl (lv_at hl 0 rfl) ?_
      refine z_iload_n F dX8_jumps_5 rfl (lv_at hl 1 rfl) ?_
      refine z_iconst F dX8_jumps_6 ?_
      refine z_bxi hZ (va_runV (As := [.int (zI (x)), .int (zI (1))]) (rest := [.int (zI (r))]) F (k_X8_get l w dom A hDA sz G hd x 1 (by omega)) (cwV 2 F.2.2.2.2 gX8_jumps_X8_get rfl rfl rfl (by decide +kernel) ⟨Nat.le_of_ble_eq_true rfl, Nat.le_of_ble_eq_true rfl⟩) (z_preV hK hZ (64) (hd _ (by omega)) rfl (by decide) rfl _) rfl rfl hl.1 rfl (lv_room (Nat.le_of_ble_eq_true rfl)) dX8_jumps_7 ⟨Nat.le_of_ble_eq_true rfl, Nat.le_of_ble_eq_true rfl⟩) (fun H locs hZ => ?_)
      have r_1 := hZ.2.1.1 (67) (20 * x + 1)
      refine z_icmp_le (tgt := 170) F (by omega) (by omega) dX8_jumps_10 (by decide) (fun c_10 => ?_) (fun c_10 => ?_)
      · skip
        have e : jumpsM G x = none := by rw [jumpsM, h3_3, show k = 0 by omega]; rfl
        refine z_iconst F dX8_jumps_170 ?_
        exact z_zret F hr hlocks hZ (bI_0 (by rw [e]; exact fun q => by cases q)) (by omega) (by rw [e]; rfl) dX8_jumps_171 (by omega) (by omega)
      · skip
        have k1 : 0 < k := by omega
        refine z_iconst F dX8_jumps_13 ?_
        refine z_istore_n (lv' := [(3, .int (zI (0))), (0, .ref (w.2.1 + (64))), (1, .int (zI (x))), (2, .int (zI (r)))]) F dX8_jumps_14 rfl hl (by decide) rfl (fun ls hl => ?_)
        refine z_iconst F dX8_jumps_15 ?_
        refine z_istore (lv' := [(4, .int (zI (0))), (3, .int (zI (0))), (0, .ref (w.2.1 + (64))), (1, .int (zI (x))), (2, .int (zI (r)))]) F dX8_jumps_16 hl (by decide) rfl (fun ls hl => ?_)
        have L_18 : ∀ (nf : Nat) (t : Nat) (acc : Int), ((G 64 0).toNat + 1 ≤ t + nf) → (t ≤ (G 64 0).toNat) → (acc = cntB (fun t => anyB (jP G x r t) (G 64 7).toNat) t) →  ∀ (H : Heap) (locs : List Loc) (ls : Array Slot), Zs w dom A s.heap sz G H locs → lv_has ls 7 [(0, .ref (w.2.1 + (64))), (1, .int (zI (x))), (2, .int (zI (r))), (3, .int (zI (acc))), (4, .int (zI ((t : Int))))] → W p l e (headSpec wsX8_jumps { frames := 3, cells := 0, slots := 0, locals := 68 }).room s m ([.ref (w.2.1 + (64)), .int (zI (x))] : List Value).toArray below meth c H locs (0 + 0) (0 + 0) (MQ below (zQi w dom sz (bI ((jumpsM G x).isSome = true)) (fun C => C = (jumpsM G x).getD G) A) ([.ref (w.2.1 + (64)), .int (zI (x))] : List Value).toArray s (0) (0) A) (F0 m 18 ls []) := by
          intro nf
          induction nf with
          | zero => intro t  acc  h18_0 h18_1 h18_2; exact absurd h18_0 (by omega)
          | succ nf ih_18 =>
            intro t  acc  h18_0 h18_1 h18_2 H locs ls hZ hl
            subst h18_2
            have hacc := cntB_rng (fun t => anyB (jP G x r t) (G 64 7).toNat) t
            refine z_iload F dX8_jumps_18 (lv_at hl 4 rfl) ?_
            refine z_aload_n F dX8_jumps_20 rfl (lv_at hl 0 rfl) ?_
            refine z_get F hK hZ (64) (hd _ (by omega)) rfl (by decide) rfl hin8 0 (by decide) mX8_jumps_29 rfl rfl dX8_jumps_21 ?_
            have r_2 := hZ.2.1.1 (64) (0)
            refine z_icmp_ge (tgt := 148) F (by omega) (by omega) dX8_jumps_24 (by decide) (fun c_24 => ?_) (fun c_24 => ?_)
            · skip
              have hj : t = (G 64 0).toNat := by omega
              refine z_iload_n F dX8_jumps_148 rfl (lv_at hl 3 rfl) ?_
              refine z_aload_n F dX8_jumps_149 rfl (lv_at hl 0 rfl) ?_
              refine z_bxi hZ (va_runV (As := []) (rest := [.int (zI (cntB (fun t => anyB (jP G x r t) (G 64 7).toNat) t))]) F (k_X8_some l w dom A hDA sz G hd (by omega)) (cwV 0 F.2.2.2.2 gX8_jumps_X8_some rfl rfl rfl (by decide +kernel) ⟨Nat.le_of_ble_eq_true rfl, Nat.le_of_ble_eq_true rfl⟩) (z_preV hK hZ (64) (hd _ (by omega)) rfl (by decide) rfl _) rfl rfl hl.1 rfl (lv_room (Nat.le_of_ble_eq_true rfl)) dX8_jumps_150 ⟨Nat.le_of_ble_eq_true rfl, Nat.le_of_ble_eq_true rfl⟩) (fun H locs hZ => ?_)
              refine z_icmp_lt (tgt := 164) F (by omega) (by omega) dX8_jumps_153 (by decide) (fun c_153 => ?_) (fun c_153 => ?_)
              · skip
                refine z_iinc (k := 2) (z := r) (lv' := [(2, .int (zI (r + (-1)))), (0, .ref (w.2.1 + (64))), (1, .int (zI (x))), (3, .int (zI (cntB (fun t => anyB (jP G x r t) (G 64 7).toNat) t))), (4, .int (zI ((t : Int))))]) F dX8_jumps_164 hl rfl (by decide) rfl (fun ls hl => ?_)
                refine lv_goto (tgt := 3) F.1 F.2.1 dX8_jumps_167 (by decide) ?_
                exact ih_3 (k - 1) (r + (-1)) (by omega) (by omega) (by omega) (by rw [h3_3, jmpF_S k1 h3_2, if_neg (by simp only [someN, jN, ← hj]; omega)]) _ _ _ hZ (lv_sub hl [1, 2, 0] rfl)
              · skip
                refine z_aload_n F dX8_jumps_156 rfl (lv_at hl 0 rfl) ?_
                refine z_iload_n F dX8_jumps_157 rfl (lv_at hl 1 rfl) ?_
                refine z_iload_n F dX8_jumps_158 rfl (lv_at hl 2 rfl) ?_
                refine z_bxv hZ (va_runV (As := [.int (zI (x)), .int (zI (r))]) (rest := []) F (k_X8_starts l w dom A hDA sz G hd (by omega) (by omega) x r (by omega) (by omega) (by omega)) (cwV 2 F.2.2.2.2 gX8_jumps_X8_starts rfl rfl rfl (by decide +kernel) ⟨Nat.le_of_ble_eq_true rfl, Nat.le_of_ble_eq_true rfl⟩) (z_preV hK hZ (64) (hd _ (by omega)) rfl (by decide) rfl _) rfl rfl hl.1 rfl (lv_room (Nat.le_of_ble_eq_true rfl)) dX8_jumps_159 ⟨Nat.le_of_ble_eq_true rfl, Nat.le_of_ble_eq_true rfl⟩) (fun H locs hZ => ?_)
                have e : jumpsM G x = some (startsM G x r) := by rw [jumpsM, h3_3, jmpF_S (by omega) h3_2, if_pos (by simp only [someN, jN, ← hj]; omega)]
                refine z_iconst F dX8_jumps_162 ?_
                exact z_zret F hr hlocks hZ (bI_1 (by rw [e]; rfl)) (by omega) (by rw [e]; rfl) dX8_jumps_163 (by omega) (by omega)
            · skip
              refine z_iconst F dX8_jumps_27 ?_
              refine z_istore (lv' := [(5, .int (zI (0))), (0, .ref (w.2.1 + (64))), (1, .int (zI (x))), (2, .int (zI (r))), (3, .int (zI (cntB (fun t => anyB (jP G x r t) (G 64 7).toNat) t))), (4, .int (zI ((t : Int))))]) F dX8_jumps_28 hl (by decide) rfl (fun ls hl => ?_)
              refine z_iconst F dX8_jumps_30 ?_
              refine z_istore (lv' := [(6, .int (zI (0))), (5, .int (zI (0))), (0, .ref (w.2.1 + (64))), (1, .int (zI (x))), (2, .int (zI (r))), (3, .int (zI (cntB (fun t => anyB (jP G x r t) (G 64 7).toNat) t))), (4, .int (zI ((t : Int))))]) F dX8_jumps_31 hl (by decide) rfl (fun ls hl => ?_)
              have L_33 : ∀ (nf : Nat) (i : Nat) (is : Int), ((G 64 7).toNat + 1 ≤ i + nf) → (i ≤ (G 64 7).toNat) → (is = bI (anyB (jP G x r t) i = true)) →  ∀ (H : Heap) (locs : List Loc) (ls : Array Slot), Zs w dom A s.heap sz G H locs → lv_has ls 7 [(0, .ref (w.2.1 + (64))), (1, .int (zI (x))), (2, .int (zI (r))), (3, .int (zI (cntB (fun t => anyB (jP G x r t) (G 64 7).toNat) t))), (4, .int (zI ((t : Int)))), (5, .int (zI (is))), (6, .int (zI ((i : Int))))] → W p l e (headSpec wsX8_jumps { frames := 3, cells := 0, slots := 0, locals := 68 }).room s m ([.ref (w.2.1 + (64)), .int (zI (x))] : List Value).toArray below meth c H locs (0 + 0) (0 + 0) (MQ below (zQi w dom sz (bI ((jumpsM G x).isSome = true)) (fun C => C = (jumpsM G x).getD G) A) ([.ref (w.2.1 + (64)), .int (zI (x))] : List Value).toArray s (0) (0) A) (F0 m 33 ls []) := by
                intro nf
                induction nf with
                | zero => intro i  is  h33_0 h33_1 h33_2; exact absurd h33_0 (by omega)
                | succ nf ih_33 =>
                  intro i  is  h33_0 h33_1 h33_2 H locs ls hZ hl
                  subst h33_2
                  refine z_iload F dX8_jumps_33 (lv_at hl 6 rfl) ?_
                  refine z_aload_n F dX8_jumps_35 rfl (lv_at hl 0 rfl) ?_
                  refine z_get F hK hZ (64) (hd _ (by omega)) rfl (by decide) rfl hin8 7 (by decide) mX8_jumps_44 rfl rfl dX8_jumps_36 ?_
                  have r_3 := hZ.2.1.1 (64) (7)
                  refine z_icmp_ge (tgt := 129) F (by omega) (by omega) dX8_jumps_39 (by decide) (fun c_39 => ?_) (fun c_39 => ?_)
                  · skip
                    have hi : i = (G 64 7).toNat := by omega
                    refine z_iload_n F dX8_jumps_129 rfl (lv_at hl 3 rfl) ?_
                    refine z_iload F dX8_jumps_130 (lv_at hl 5 rfl) ?_
                    refine z_ifB_eq (tgt := 139) F dX8_jumps_132 (by decide) (fun c_132 => ?_) (fun c_132 => ?_)
                    · skip
                      refine z_iconst F dX8_jumps_139 ?_
                      refine z_iadd F dX8_jumps_140 ?_
                      refine z_istore_n (lv' := [(3, .int (zI (cntB (fun t => anyB (jP G x r t) (G 64 7).toNat) t + 0))), (0, .ref (w.2.1 + (64))), (1, .int (zI (x))), (2, .int (zI (r))), (4, .int (zI ((t : Int)))), (5, .int (zI (bI (anyB (jP G x r t) i = true)))), (6, .int (zI ((i : Int))))]) F dX8_jumps_141 rfl hl (by decide) rfl (fun ls hl => ?_)
                      refine z_iinc (k := 4) (z := (t : Int)) (lv' := [(4, .int (zI ((t : Int) + 1))), (3, .int (zI (cntB (fun t => anyB (jP G x r t) (G 64 7).toNat) t + 0))), (0, .ref (w.2.1 + (64))), (1, .int (zI (x))), (2, .int (zI (r))), (5, .int (zI (bI (anyB (jP G x r t) i = true)))), (6, .int (zI ((i : Int))))]) F dX8_jumps_142 hl rfl (by decide) rfl (fun ls hl => ?_)
                      refine lv_goto (tgt := 18) F.1 F.2.1 dX8_jumps_145 (by decide) ?_
                      exact ih_18 (t + 1) (cntB (fun t => anyB (jP G x r t) (G 64 7).toNat) t + 0) (by omega) (by omega) (by rw [cntB_S]; first | rw [bI_t (by rw [← hi]; exact c_132)] | rw [bI_f (by rw [← hi]; exact c_132)]) _ _ _ hZ (lv_sub hl [2, 3, 4, 1, 0] rfl)
                    · skip
                      refine z_iconst F dX8_jumps_135 ?_
                      refine lv_goto (tgt := 140) F.1 F.2.1 dX8_jumps_136 (by decide) ?_
                      refine z_iadd F dX8_jumps_140 ?_
                      refine z_istore_n (lv' := [(3, .int (zI (cntB (fun t => anyB (jP G x r t) (G 64 7).toNat) t + 1))), (0, .ref (w.2.1 + (64))), (1, .int (zI (x))), (2, .int (zI (r))), (4, .int (zI ((t : Int)))), (5, .int (zI (bI (anyB (jP G x r t) i = true)))), (6, .int (zI ((i : Int))))]) F dX8_jumps_141 rfl hl (by decide) rfl (fun ls hl => ?_)
                      refine z_iinc (k := 4) (z := (t : Int)) (lv' := [(4, .int (zI ((t : Int) + 1))), (3, .int (zI (cntB (fun t => anyB (jP G x r t) (G 64 7).toNat) t + 1))), (0, .ref (w.2.1 + (64))), (1, .int (zI (x))), (2, .int (zI (r))), (5, .int (zI (bI (anyB (jP G x r t) i = true)))), (6, .int (zI ((i : Int))))]) F dX8_jumps_142 hl rfl (by decide) rfl (fun ls hl => ?_)
                      refine lv_goto (tgt := 18) F.1 F.2.1 dX8_jumps_145 (by decide) ?_
                      exact ih_18 (t + 1) (cntB (fun t => anyB (jP G x r t) (G 64 7).toNat) t + 1) (by omega) (by omega) (by rw [cntB_S]; first | rw [bI_t (by rw [← hi]; exact c_132)] | rw [bI_f (by rw [← hi]; exact c_132)]) _ _ _ hZ (lv_sub hl [2, 3, 4, 1, 0] rfl)
                  · skip
                    refine z_iload F dX8_jumps_42 (lv_at hl 5 rfl) ?_
                    refine z_ifB_ne (tgt := 116) F dX8_jumps_44 (by decide) (fun c_44 => ?_) (fun c_44 => ?_)
                    · skip
                      refine z_iconst F dX8_jumps_116 ?_
                      refine lv_goto (tgt := 121) F.1 F.2.1 dX8_jumps_117 (by decide) ?_
                      refine z_istore (lv' := [(5, .int (zI (1))), (0, .ref (w.2.1 + (64))), (1, .int (zI (x))), (2, .int (zI (r))), (3, .int (zI (cntB (fun t => anyB (jP G x r t) (G 64 7).toNat) t))), (4, .int (zI ((t : Int)))), (6, .int (zI ((i : Int))))]) F dX8_jumps_121 hl (by decide) rfl (fun ls hl => ?_)
                      refine z_iinc (k := 6) (z := (i : Int)) (lv' := [(6, .int (zI ((i : Int) + 1))), (5, .int (zI (1))), (0, .ref (w.2.1 + (64))), (1, .int (zI (x))), (2, .int (zI (r))), (3, .int (zI (cntB (fun t => anyB (jP G x r t) (G 64 7).toNat) t))), (4, .int (zI ((t : Int))))]) F dX8_jumps_123 hl rfl (by decide) rfl (fun ls hl => ?_)
                      refine lv_goto (tgt := 33) F.1 F.2.1 dX8_jumps_126 (by decide) ?_
                      exact ih_33 (i + 1) (1) (by omega) (by omega) (by first | exact bI_1 ((anyB_S _ _).mpr (Or.inl c_44)) | exact bI_1 ((anyB_S _ _).mpr (Or.inr (by simp only [jP, decide_eq_true_eq]; omega))) | exact bI_0 (fun q => ((anyB_S _ _).mp q).elim c_44 (fun q => by simp only [jP, decide_eq_true_eq] at q; omega))) _ _ _ hZ (lv_sub hl [2, 3, 4, 5, 6, 1, 0] rfl)
                    · skip
                      refine z_aload_n F dX8_jumps_47 rfl (lv_at hl 0 rfl) ?_
                      refine z_get F hK hZ (64) (hd _ (by omega)) rfl (by decide) rfl hin8 9 (by decide) mX8_jumps_26 rfl rfl dX8_jumps_48 ?_
                      refine z_bipush F (by decide) dX8_jumps_51 ?_
                      refine z_iload F dX8_jumps_53 (lv_at hl 6 rfl) ?_
                      refine z_imul F dX8_jumps_55 ?_
                      refine z_iload_n F dX8_jumps_56 rfl (lv_at hl 1 rfl) ?_
                      refine z_iadd F dX8_jumps_57 ?_
                      refine z_zald F hK hZ (70) (hd _ (by omega)) rfl (by decide) (by omega) (by omega) dX8_jumps_58 ?_
                      have r_4 := hZ.2.1.1 (70) (7 * ((i : Int)) + x)
                      refine z_if_eq (tgt := 120) F (by omega) dX8_jumps_59 (by decide) (fun c_59 => ?_) (fun c_59 => ?_)
                      · skip
                        refine z_iconst F dX8_jumps_120 ?_
                        refine z_istore (lv' := [(5, .int (zI (0))), (0, .ref (w.2.1 + (64))), (1, .int (zI (x))), (2, .int (zI (r))), (3, .int (zI (cntB (fun t => anyB (jP G x r t) (G 64 7).toNat) t))), (4, .int (zI ((t : Int)))), (6, .int (zI ((i : Int))))]) F dX8_jumps_121 hl (by decide) rfl (fun ls hl => ?_)
                        refine z_iinc (k := 6) (z := (i : Int)) (lv' := [(6, .int (zI ((i : Int) + 1))), (5, .int (zI (0))), (0, .ref (w.2.1 + (64))), (1, .int (zI (x))), (2, .int (zI (r))), (3, .int (zI (cntB (fun t => anyB (jP G x r t) (G 64 7).toNat) t))), (4, .int (zI ((t : Int))))]) F dX8_jumps_123 hl rfl (by decide) rfl (fun ls hl => ?_)
                        refine lv_goto (tgt := 33) F.1 F.2.1 dX8_jumps_126 (by decide) ?_
                        exact ih_33 (i + 1) (0) (by omega) (by omega) (by first | exact bI_1 ((anyB_S _ _).mpr (Or.inl c_44)) | exact bI_1 ((anyB_S _ _).mpr (Or.inr (by simp only [jP, decide_eq_true_eq]; omega))) | exact bI_0 (fun q => ((anyB_S _ _).mp q).elim c_44 (fun q => by simp only [jP, decide_eq_true_eq] at q; omega))) _ _ _ hZ (lv_sub hl [2, 3, 4, 5, 6, 1, 0] rfl)
                      · skip
                        refine z_aload_n F dX8_jumps_62 rfl (lv_at hl 0 rfl) ?_
                        refine z_get F hK hZ (64) (hd _ (by omega)) rfl (by decide) rfl hin8 8 (by decide) mX8_jumps_23 rfl rfl dX8_jumps_63 ?_
                        refine z_bipush F (by decide) dX8_jumps_66 ?_
                        refine z_iload F dX8_jumps_68 (lv_at hl 6 rfl) ?_
                        refine z_imul F dX8_jumps_70 ?_
                        refine z_iconst F dX8_jumps_71 ?_
                        refine z_iadd F dX8_jumps_72 ?_
                        refine z_iald F hK hZ (69) (hd _ (by omega)) rfl (by decide) (by omega) (by omega) dX8_jumps_73 ?_
                        have r_5 := hZ.2.1.1 (69) (6 * ((i : Int)) + 0)
                        refine z_iload F dX8_jumps_74 (lv_at hl 4 rfl) ?_
                        refine z_icmp_ne (tgt := 120) F (by omega) (by omega) dX8_jumps_76 (by decide) (fun c_76 => ?_) (fun c_76 => ?_)
                        · skip
                          refine z_iconst F dX8_jumps_120 ?_
                          refine z_istore (lv' := [(5, .int (zI (0))), (0, .ref (w.2.1 + (64))), (1, .int (zI (x))), (2, .int (zI (r))), (3, .int (zI (cntB (fun t => anyB (jP G x r t) (G 64 7).toNat) t))), (4, .int (zI ((t : Int)))), (6, .int (zI ((i : Int))))]) F dX8_jumps_121 hl (by decide) rfl (fun ls hl => ?_)
                          refine z_iinc (k := 6) (z := (i : Int)) (lv' := [(6, .int (zI ((i : Int) + 1))), (5, .int (zI (0))), (0, .ref (w.2.1 + (64))), (1, .int (zI (x))), (2, .int (zI (r))), (3, .int (zI (cntB (fun t => anyB (jP G x r t) (G 64 7).toNat) t))), (4, .int (zI ((t : Int))))]) F dX8_jumps_123 hl rfl (by decide) rfl (fun ls hl => ?_)
                          refine lv_goto (tgt := 33) F.1 F.2.1 dX8_jumps_126 (by decide) ?_
                          exact ih_33 (i + 1) (0) (by omega) (by omega) (by first | exact bI_1 ((anyB_S _ _).mpr (Or.inl c_44)) | exact bI_1 ((anyB_S _ _).mpr (Or.inr (by simp only [jP, decide_eq_true_eq]; omega))) | exact bI_0 (fun q => ((anyB_S _ _).mp q).elim c_44 (fun q => by simp only [jP, decide_eq_true_eq] at q; omega))) _ _ _ hZ (lv_sub hl [2, 3, 4, 5, 6, 1, 0] rfl)
                        · skip
                          refine z_aload_n F dX8_jumps_79 rfl (lv_at hl 0 rfl) ?_
                          refine z_get F hK hZ (64) (hd _ (by omega)) rfl (by decide) rfl hin8 8 (by decide) mX8_jumps_23 rfl rfl dX8_jumps_80 ?_
                          refine z_bipush F (by decide) dX8_jumps_83 ?_
                          refine z_iload F dX8_jumps_85 (lv_at hl 6 rfl) ?_
                          refine z_imul F dX8_jumps_87 ?_
                          refine z_iconst F dX8_jumps_88 ?_
                          refine z_iadd F dX8_jumps_89 ?_
                          refine z_iald F hK hZ (69) (hd _ (by omega)) rfl (by decide) (by omega) (by omega) dX8_jumps_90 ?_
                          have r_6 := hZ.2.1.1 (69) (6 * ((i : Int)) + 2)
                          refine z_aload_n F dX8_jumps_91 rfl (lv_at hl 0 rfl) ?_
                          refine z_iload_n F dX8_jumps_92 rfl (lv_at hl 1 rfl) ?_
                          refine z_iconst F dX8_jumps_93 ?_
                          refine z_bxi hZ (va_runV (As := [.int (zI (x)), .int (zI (0))]) (rest := [.int (zI (G (69) (6 * ((i : Int)) + 2)))]) F (k_X8_get l w dom A hDA sz G hd x 0 (by omega)) (cwV 2 F.2.2.2.2 gX8_jumps_X8_get rfl rfl rfl (by decide +kernel) ⟨Nat.le_of_ble_eq_true rfl, Nat.le_of_ble_eq_true rfl⟩) (z_preV hK hZ (64) (hd _ (by omega)) rfl (by decide) rfl _) rfl rfl hl.1 rfl (lv_room (Nat.le_of_ble_eq_true rfl)) dX8_jumps_94 ⟨Nat.le_of_ble_eq_true rfl, Nat.le_of_ble_eq_true rfl⟩) (fun H locs hZ => ?_)
                          have r_7 := hZ.2.1.1 (67) (20 * x + 0)
                          refine z_icmp_ne (tgt := 120) F (by omega) (by omega) dX8_jumps_97 (by decide) (fun c_97 => ?_) (fun c_97 => ?_)
                          · skip
                            refine z_iconst F dX8_jumps_120 ?_
                            refine z_istore (lv' := [(5, .int (zI (0))), (0, .ref (w.2.1 + (64))), (1, .int (zI (x))), (2, .int (zI (r))), (3, .int (zI (cntB (fun t => anyB (jP G x r t) (G 64 7).toNat) t))), (4, .int (zI ((t : Int)))), (6, .int (zI ((i : Int))))]) F dX8_jumps_121 hl (by decide) rfl (fun ls hl => ?_)
                            refine z_iinc (k := 6) (z := (i : Int)) (lv' := [(6, .int (zI ((i : Int) + 1))), (5, .int (zI (0))), (0, .ref (w.2.1 + (64))), (1, .int (zI (x))), (2, .int (zI (r))), (3, .int (zI (cntB (fun t => anyB (jP G x r t) (G 64 7).toNat) t))), (4, .int (zI ((t : Int))))]) F dX8_jumps_123 hl rfl (by decide) rfl (fun ls hl => ?_)
                            refine lv_goto (tgt := 33) F.1 F.2.1 dX8_jumps_126 (by decide) ?_
                            exact ih_33 (i + 1) (0) (by omega) (by omega) (by first | exact bI_1 ((anyB_S _ _).mpr (Or.inl c_44)) | exact bI_1 ((anyB_S _ _).mpr (Or.inr (by simp only [jP, decide_eq_true_eq]; omega))) | exact bI_0 (fun q => ((anyB_S _ _).mp q).elim c_44 (fun q => by simp only [jP, decide_eq_true_eq] at q; omega))) _ _ _ hZ (lv_sub hl [2, 3, 4, 5, 6, 1, 0] rfl)
                          · skip
                            refine z_aload_n F dX8_jumps_100 rfl (lv_at hl 0 rfl) ?_
                            refine z_get F hK hZ (64) (hd _ (by omega)) rfl (by decide) rfl hin8 8 (by decide) mX8_jumps_23 rfl rfl dX8_jumps_101 ?_
                            refine z_bipush F (by decide) dX8_jumps_104 ?_
                            refine z_iload F dX8_jumps_106 (lv_at hl 6 rfl) ?_
                            refine z_imul F dX8_jumps_108 ?_
                            refine z_iconst F dX8_jumps_109 ?_
                            refine z_iadd F dX8_jumps_110 ?_
                            refine z_iald F hK hZ (69) (hd _ (by omega)) rfl (by decide) (by omega) (by omega) dX8_jumps_111 ?_
                            have r_8 := hZ.2.1.1 (69) (6 * ((i : Int)) + 3)
                            refine z_iload_n F dX8_jumps_112 rfl (lv_at hl 2 rfl) ?_
                            refine z_icmp_ne (tgt := 120) F (by omega) (by omega) dX8_jumps_113 (by decide) (fun c_113 => ?_) (fun c_113 => ?_)
                            · skip
                              refine z_iconst F dX8_jumps_120 ?_
                              refine z_istore (lv' := [(5, .int (zI (0))), (0, .ref (w.2.1 + (64))), (1, .int (zI (x))), (2, .int (zI (r))), (3, .int (zI (cntB (fun t => anyB (jP G x r t) (G 64 7).toNat) t))), (4, .int (zI ((t : Int)))), (6, .int (zI ((i : Int))))]) F dX8_jumps_121 hl (by decide) rfl (fun ls hl => ?_)
                              refine z_iinc (k := 6) (z := (i : Int)) (lv' := [(6, .int (zI ((i : Int) + 1))), (5, .int (zI (0))), (0, .ref (w.2.1 + (64))), (1, .int (zI (x))), (2, .int (zI (r))), (3, .int (zI (cntB (fun t => anyB (jP G x r t) (G 64 7).toNat) t))), (4, .int (zI ((t : Int))))]) F dX8_jumps_123 hl rfl (by decide) rfl (fun ls hl => ?_)
                              refine lv_goto (tgt := 33) F.1 F.2.1 dX8_jumps_126 (by decide) ?_
                              exact ih_33 (i + 1) (0) (by omega) (by omega) (by first | exact bI_1 ((anyB_S _ _).mpr (Or.inl c_44)) | exact bI_1 ((anyB_S _ _).mpr (Or.inr (by simp only [jP, decide_eq_true_eq]; omega))) | exact bI_0 (fun q => ((anyB_S _ _).mp q).elim c_44 (fun q => by simp only [jP, decide_eq_true_eq] at q; omega))) _ _ _ hZ (lv_sub hl [2, 3, 4, 5, 6, 1, 0] rfl)
                            · skip
                              refine z_iconst F dX8_jumps_116 ?_
                              refine lv_goto (tgt := 121) F.1 F.2.1 dX8_jumps_117 (by decide) ?_
                              refine z_istore (lv' := [(5, .int (zI (1))), (0, .ref (w.2.1 + (64))), (1, .int (zI (x))), (2, .int (zI (r))), (3, .int (zI (cntB (fun t => anyB (jP G x r t) (G 64 7).toNat) t))), (4, .int (zI ((t : Int)))), (6, .int (zI ((i : Int))))]) F dX8_jumps_121 hl (by decide) rfl (fun ls hl => ?_)
                              refine z_iinc (k := 6) (z := (i : Int)) (lv' := [(6, .int (zI ((i : Int) + 1))), (5, .int (zI (1))), (0, .ref (w.2.1 + (64))), (1, .int (zI (x))), (2, .int (zI (r))), (3, .int (zI (cntB (fun t => anyB (jP G x r t) (G 64 7).toNat) t))), (4, .int (zI ((t : Int))))]) F dX8_jumps_123 hl rfl (by decide) rfl (fun ls hl => ?_)
                              refine lv_goto (tgt := 33) F.1 F.2.1 dX8_jumps_126 (by decide) ?_
                              exact ih_33 (i + 1) (1) (by omega) (by omega) (by first | exact bI_1 ((anyB_S _ _).mpr (Or.inl c_44)) | exact bI_1 ((anyB_S _ _).mpr (Or.inr (by simp only [jP, decide_eq_true_eq]; omega))) | exact bI_0 (fun q => ((anyB_S _ _).mp q).elim c_44 (fun q => by simp only [jP, decide_eq_true_eq] at q; omega))) _ _ _ hZ (lv_sub hl [2, 3, 4, 5, 6, 1, 0] rfl)
              exact L_33 ((G 64 7).toNat + 1) 0 0 (by omega) (by omega) (by simp [anyB, bI]) _ _ _ hZ (lv_sub hl [2, 3, 4, 5, 6, 1, 0] rfl)
        exact L_18 ((G 64 0).toNat + 1) 0 0 (by omega) (by omega) rfl _ _ _ hZ (lv_sub hl [2, 3, 4, 1, 0] rfl)
  exact L_3 ((9 - G 67 (20 * x + 1)).toNat + 1) (9 - G 67 (20 * x + 1)).toNat 9 (by omega) (by omega) (by omega) rfl _ _ _ hZ (lv_sub hl [1, 2, 0] rfl)

theorem mX8_prevotes_23 : Cond.fieldLink RX8 23 "LockedChainModel" "letter" "[I" ∈ wsX8_prevotes := by decide +kernel
theorem mX8_prevotes_44 : Cond.fieldLink RX8 44 "LockedChainModel" "letters" "I" ∈ wsX8_prevotes := by decide +kernel
set_option maxHeartbeats 4000000 in
set_option maxRecDepth 100000 in
theorem k_X8_prevotes (l : Launch) (w : zW) (dom : Nat → Prop) (A : Nat → Prop) (hDA : ∀ i, dom i → A (w.2.1 + i)) (sz : Nat) (G : zM) (hd : ∀ i, 64 ≤ i ∧ i < 71 → dom i) (hI : Inv G) (x : Int) (h0 : 0 ≤ x ∧ x < 7) : Met l yX8_prevotes wsX8_prevotes { frames := 2, cells := 0, slots := 0, locals := 52 } (zPre w dom sz G [.ref (w.2.1 + (64)), .int (zI (x))]) (zQi w dom sz (bI ((prevotesM G x).isSome = true)) (fun C => C = (prevotesM G x).getD G) A) (0) (0) A := by
  refine Met.ofW (cc := cX8_prevotes) (maxL := 6) (ret := (some .boolean)) (by decide) rfl ?_
  intro p e s m args below meth c s₁ B hml hv
  obtain ⟨rfl, hsz, hP, hK⟩ := hv
  have F : CallFix p m c cX8_prevotes 6 s _ wsX8_prevotes RX8 := ⟨B.exec, B.bytes, hml, findClass_of_methodNamed B.named, atoms_spec (ws := wsX8_prevotes) B.pre⟩
  have hr := B.returns
  have hlocks := B.notSynchronized
  have hZ : Zs w dom A s.heap sz G s.heap [] := ⟨hsz, hP, va_S.rf⟩
  have hl := lv_entry ([.ref (w.2.1 + (64)), .int (zI (x))]) (n := 6) (Nat.le_of_ble_eq_true rfl)
  rw [lg_entry_eq]
  generalize (lg_sl ([.ref (w.2.1 + (64)), .int (zI (x))]) ++ List.replicate (6 - (lg_sl ([.ref (w.2.1 + (64)), .int (zI (x))])).length) Slot.unset).toArray = ls at hl ⊢
  have hl : lv_has ls 6 [(0, .ref (w.2.1 + (64))), (1, .int (zI (x)))] := hl
  have hin8 : ∀ v ∈ u_ws RX8 TX8 10, v ∈ wsX8_prevotes := by decide +kernel
  have hn := hI.1
  have hL := hI.2.2.2.1
  have iS := seat_rng hI h0
  refine z_aload_n F dX8_prevotes_0 rfl (lv_at hl 0 rfl) ?_
  refine z_iload_n F dX8_prevotes_1 rfl (lv_at hl 1 rfl) ?_
  refine z_iconst F dX8_prevotes_2 ?_
  refine z_bxi hZ (va_runV (As := [.int (zI (x)), .int (zI (2))]) (rest := []) F (k_X8_get l w dom A hDA sz G hd x 2 (by omega)) (cwV 2 F.2.2.2.2 gX8_prevotes_X8_get rfl rfl rfl (by decide +kernel) ⟨Nat.le_of_ble_eq_true rfl, Nat.le_of_ble_eq_true rfl⟩) (z_preV hK hZ (64) (hd _ (by omega)) rfl (by decide) rfl _) rfl rfl hl.1 rfl (lv_room (Nat.le_of_ble_eq_true rfl)) dX8_prevotes_3 ⟨Nat.le_of_ble_eq_true rfl, Nat.le_of_ble_eq_true rfl⟩) (fun H locs hZ => ?_)
  have r_1 := hZ.2.1.1 (67) (20 * x + 2)
  refine z_if_eq (tgt := 11) F (by omega) dX8_prevotes_6 (by decide) (fun c_6 => ?_) (fun c_6 => ?_)
  · skip
    refine z_iconst F dX8_prevotes_11 ?_
    refine z_istore_n (lv' := [(2, .int (zI (0))), (0, .ref (w.2.1 + (64))), (1, .int (zI (x)))]) F dX8_prevotes_12 rfl hl (by decide) rfl (fun ls hl => ?_)
    have L_13 : ∀ (nf : Nat) (i : Nat), ((G 64 7).toNat + 1 ≤ i + nf) → (i ≤ (G 64 7).toNat) → (fstB (newP G x) (G 64 7).toNat 0 = fstB (newP G x) ((G 64 7).toNat - i) i) →  ∀ (H : Heap) (locs : List Loc) (ls : Array Slot), Zs w dom A s.heap sz G H locs → lv_has ls 6 [(0, .ref (w.2.1 + (64))), (1, .int (zI (x))), (2, .int (zI ((i : Int))))] → W p l e (headSpec wsX8_prevotes { frames := 2, cells := 0, slots := 0, locals := 52 }).room s m ([.ref (w.2.1 + (64)), .int (zI (x))] : List Value).toArray below meth c H locs (0 + 0) (0 + 0) (MQ below (zQi w dom sz (bI ((prevotesM G x).isSome = true)) (fun C => C = (prevotesM G x).getD G) A) ([.ref (w.2.1 + (64)), .int (zI (x))] : List Value).toArray s (0) (0) A) (F0 m 13 ls []) := by
      intro nf
      induction nf with
      | zero => intro i  h13_0 h13_1 h13_2; exact absurd h13_0 (by omega)
      | succ nf ih_13 =>
        intro i  h13_0 h13_1 h13_2 H locs ls hZ hl
        refine z_iload_n F dX8_prevotes_13 rfl (lv_at hl 2 rfl) ?_
        refine z_aload_n F dX8_prevotes_14 rfl (lv_at hl 0 rfl) ?_
        refine z_get F hK hZ (64) (hd _ (by omega)) rfl (by decide) rfl hin8 7 (by decide) mX8_prevotes_44 rfl rfl dX8_prevotes_15 ?_
        have r_2 := hZ.2.1.1 (64) (7)
        refine z_icmp_ge (tgt := 135) F (by omega) (by omega) dX8_prevotes_18 (by decide) (fun c_18 => ?_) (fun c_18 => ?_)
        · skip
          have hno : fstB (newP G x) (G 64 7).toNat 0 = none := by rw [h13_2, show (G 64 7).toNat - i = 0 by omega]; rfl
          refine z_iconst F dX8_prevotes_135 ?_
          refine z_istore_n (lv' := [(2, .int (zI (0))), (0, .ref (w.2.1 + (64))), (1, .int (zI (x)))]) F dX8_prevotes_136 rfl hl (by decide) rfl (fun ls hl => ?_)
          have L_137 : ∀ (nf : Nat) (i : Nat), ((G 64 7).toNat + 1 ≤ i + nf) → (i ≤ (G 64 7).toNat) → (fstB (oldP G x) (G 64 7).toNat 0 = fstB (oldP G x) ((G 64 7).toNat - i) i) →  ∀ (H : Heap) (locs : List Loc) (ls : Array Slot), Zs w dom A s.heap sz G H locs → lv_has ls 6 [(0, .ref (w.2.1 + (64))), (1, .int (zI (x))), (2, .int (zI ((i : Int))))] → W p l e (headSpec wsX8_prevotes { frames := 2, cells := 0, slots := 0, locals := 52 }).room s m ([.ref (w.2.1 + (64)), .int (zI (x))] : List Value).toArray below meth c H locs (0 + 0) (0 + 0) (MQ below (zQi w dom sz (bI ((prevotesM G x).isSome = true)) (fun C => C = (prevotesM G x).getD G) A) ([.ref (w.2.1 + (64)), .int (zI (x))] : List Value).toArray s (0) (0) A) (F0 m 137 ls []) := by
            intro nf
            induction nf with
            | zero => intro i  h137_0 h137_1 h137_2; exact absurd h137_0 (by omega)
            | succ nf ih_137 =>
              intro i  h137_0 h137_1 h137_2 H locs ls hZ hl
              refine z_iload_n F dX8_prevotes_137 rfl (lv_at hl 2 rfl) ?_
              refine z_aload_n F dX8_prevotes_138 rfl (lv_at hl 0 rfl) ?_
              refine z_get F hK hZ (64) (hd _ (by omega)) rfl (by decide) rfl hin8 7 (by decide) mX8_prevotes_44 rfl rfl dX8_prevotes_139 ?_
              have r_3 := hZ.2.1.1 (64) (7)
              refine z_icmp_ge (tgt := 309) F (by omega) (by omega) dX8_prevotes_142 (by decide) (fun c_142 => ?_) (fun c_142 => ?_)
              · skip
                have e : prevotesM G x = none := by rw [prevotesM, if_neg (by omega), hno]; show prevOldM G x = _; rw [prevOldM, h137_2, show (G 64 7).toNat - i = 0 by omega]; rfl
                refine z_iconst F dX8_prevotes_309 ?_
                exact z_zret F hr hlocks hZ (bI_0 (by rw [e]; exact fun q => by cases q)) (by omega) (by rw [e]; rfl) dX8_prevotes_310 (by omega) (by omega)
              · skip
                have iL := let_rng hI (l := (i : Int)) (by omega)
                refine z_aload_n F dX8_prevotes_145 rfl (lv_at hl 0 rfl) ?_
                refine z_get F hK hZ (64) (hd _ (by omega)) rfl (by decide) rfl hin8 8 (by decide) mX8_prevotes_23 rfl rfl dX8_prevotes_146 ?_
                refine z_bipush F (by decide) dX8_prevotes_149 ?_
                refine z_iload_n F dX8_prevotes_151 rfl (lv_at hl 2 rfl) ?_
                refine z_imul F dX8_prevotes_152 ?_
                refine z_iconst F dX8_prevotes_153 ?_
                refine z_iadd F dX8_prevotes_154 ?_
                refine z_iald F hK hZ (69) (hd _ (by omega)) rfl (by decide) (by omega) (by omega) dX8_prevotes_155 ?_
                have r_4 := hZ.2.1.1 (69) (6 * ((i : Int)) + 5)
                refine z_istore_n (lv' := [(3, .int (zI (G (69) (6 * ((i : Int)) + 5)))), (0, .ref (w.2.1 + (64))), (1, .int (zI (x))), (2, .int (zI ((i : Int))))]) F dX8_prevotes_156 rfl hl (by decide) rfl (fun ls hl => ?_)
                refine z_aload_n F dX8_prevotes_157 rfl (lv_at hl 1 rfl) ?_
                refine z_get F hK hZ (64) (hd _ (by omega)) rfl (by decide) rfl hin8 8 (by decide) mX8_prevotes_23 rfl rfl dX8_prevotes_158 ?_
                refine z_bipush F (by decide) dX8_prevotes_161 ?_
                refine z_iload_n F dX8_prevotes_163 rfl (lv_at hl 3 rfl) ?_
                refine z_imul F dX8_prevotes_164 ?_
                refine z_iconst F dX8_prevotes_165 ?_
                refine z_iadd F dX8_prevotes_166 ?_
                refine z_iald F hK hZ (69) (hd _ (by omega)) rfl (by decide) (by omega) (by omega) dX8_prevotes_167 ?_
                have r_5 := hZ.2.1.1 (69) (6 * ((i : Int)) + 4)
                refine z_istore (lv' := [(4, .int (zI (G (69) (6 * ((i : Int)) + 4)))), (3, .int (zI (G (69) (6 * ((i : Int)) + 5)))), (0, .ref (w.2.1 + (64))), (1, .int (zI (x))), (2, .int (zI ((i : Int))))]) F dX8_prevotes_168 hl (by decide) rfl (fun ls hl => ?_)
                refine z_aload_n F dX8_prevotes_170 rfl (lv_at hl 2 rfl) ?_
                refine z_iload_n F dX8_prevotes_171 rfl (lv_at hl 3 rfl) ?_
                refine z_iload_n F dX8_prevotes_172 rfl (lv_at hl 4 rfl) ?_
                refine z_bxi hZ (va_runV (As := [.int (zI (x)), .int (zI ((i : Int)))]) (rest := []) F (k_X8_proposes l w dom A hDA sz G hd (by omega) x i (by omega) (by omega) (by omega) (by omega)) (cwV 2 F.2.2.2.2 gX8_prevotes_X8_proposes rfl rfl rfl (by decide +kernel) ⟨Nat.le_of_ble_eq_true rfl, Nat.le_of_ble_eq_true rfl⟩) (z_preV hK hZ (64) (hd _ (by omega)) rfl (by decide) rfl _) rfl rfl hl.1 rfl (lv_room (Nat.le_of_ble_eq_true rfl)) dX8_prevotes_173 ⟨Nat.le_of_ble_eq_true rfl, Nat.le_of_ble_eq_true rfl⟩) (fun H locs hZ => ?_)
                refine z_ifB_eq (tgt := 303) F dX8_prevotes_176 (by decide) (fun c_176 => ?_) (fun c_176 => ?_)
                · skip
                  refine z_iinc (k := 4) (z := (i : Int)) (lv' := [(2, .int (zI ((i : Int) + 1))), (4, .int (zI (G (69) (6 * ((i : Int)) + 4)))), (3, .int (zI (G (69) (6 * ((i : Int)) + 5)))), (0, .ref (w.2.1 + (64))), (1, .int (zI (x)))]) F dX8_prevotes_303 hl rfl (by decide) rfl (fun ls hl => ?_)
                  refine lv_goto (tgt := 137) F.1 F.2.1 dX8_prevotes_306 (by decide) ?_
                  exact ih_137 (i + 1) (by omega) (by omega) (by rw [h137_2, fstB_f (by omega) (fun q => by simp only [oldP, Bool.and_eq_true, decide_eq_true_eq] at q; unfold manyN at q; first | exact c_176 q.1.1.1 | (have q1 := q.1.1.2; have q2 := q.1.2; have q3 := q.2; omega)), show (G 64 7).toNat - i - 1 = (G 64 7).toNat - (i + 1) by omega]) _ _ _ hZ (lv_sub hl [3, 4, 0] rfl)
                · skip
                  refine z_aload_n F dX8_prevotes_179 rfl (lv_at hl 2 rfl) ?_
                  refine z_get F hK hZ (64) (hd _ (by omega)) rfl (by decide) rfl hin8 8 (by decide) mX8_prevotes_23 rfl rfl dX8_prevotes_180 ?_
                  refine z_bipush F (by decide) dX8_prevotes_183 ?_
                  refine z_iload_n F dX8_prevotes_185 rfl (lv_at hl 4 rfl) ?_
                  refine z_imul F dX8_prevotes_186 ?_
                  refine z_iconst F dX8_prevotes_187 ?_
                  refine z_iadd F dX8_prevotes_188 ?_
                  refine z_iald F hK hZ (69) (hd _ (by omega)) rfl (by decide) (by omega) (by omega) dX8_prevotes_189 ?_
                  have r_6 := hZ.2.1.1 (69) (6 * ((i : Int)) + 3)
                  refine z_aload_n F dX8_prevotes_190 rfl (lv_at hl 2 rfl) ?_
                  refine z_iload_n F dX8_prevotes_191 rfl (lv_at hl 3 rfl) ?_
                  refine z_iconst F dX8_prevotes_192 ?_
                  refine z_bxi hZ (va_runV (As := [.int (zI (x)), .int (zI (1))]) (rest := [.int (zI (G (69) (6 * ((i : Int)) + 3)))]) F (k_X8_get l w dom A hDA sz G hd x 1 (by omega)) (cwV 2 F.2.2.2.2 gX8_prevotes_X8_get rfl rfl rfl (by decide +kernel) ⟨Nat.le_of_ble_eq_true rfl, Nat.le_of_ble_eq_true rfl⟩) (z_preV hK hZ (64) (hd _ (by omega)) rfl (by decide) rfl _) rfl rfl hl.1 rfl (lv_room (Nat.le_of_ble_eq_true rfl)) dX8_prevotes_193 ⟨Nat.le_of_ble_eq_true rfl, Nat.le_of_ble_eq_true rfl⟩) (fun H locs hZ => ?_)
                  have r_7 := hZ.2.1.1 (67) (20 * x + 1)
                  refine z_icmp_ne (tgt := 303) F (by omega) (by omega) dX8_prevotes_196 (by decide) (fun c_196 => ?_) (fun c_196 => ?_)
                  · skip
                    refine z_iinc (k := 4) (z := (i : Int)) (lv' := [(2, .int (zI ((i : Int) + 1))), (4, .int (zI (G (69) (6 * ((i : Int)) + 4)))), (3, .int (zI (G (69) (6 * ((i : Int)) + 5)))), (0, .ref (w.2.1 + (64))), (1, .int (zI (x)))]) F dX8_prevotes_303 hl rfl (by decide) rfl (fun ls hl => ?_)
                    refine lv_goto (tgt := 137) F.1 F.2.1 dX8_prevotes_306 (by decide) ?_
                    exact ih_137 (i + 1) (by omega) (by omega) (by rw [h137_2, fstB_f (by omega) (fun q => by simp only [oldP, Bool.and_eq_true, decide_eq_true_eq] at q; unfold manyN at q; first | exact c_176 q.1.1.1 | (have q1 := q.1.1.2; have q2 := q.1.2; have q3 := q.2; omega)), show (G 64 7).toNat - i - 1 = (G 64 7).toNat - (i + 1) by omega]) _ _ _ hZ (lv_sub hl [3, 4, 0] rfl)
                  · skip
                    refine z_iload_n F dX8_prevotes_199 rfl (lv_at hl 1 rfl) ?_
                    refine z_iconst F dX8_prevotes_200 ?_
                    refine z_aload_n F dX8_prevotes_201 rfl (lv_at hl 2 rfl) ?_
                    refine z_iload_n F dX8_prevotes_202 rfl (lv_at hl 3 rfl) ?_
                    refine z_iconst F dX8_prevotes_203 ?_
                    refine z_bxi hZ (va_runV (As := [.int (zI (x)), .int (zI (1))]) (rest := [.int (zI (0)), .int (zI (G (69) (6 * ((i : Int)) + 5)))]) F (k_X8_get l w dom A hDA sz G hd x 1 (by omega)) (cwV 2 F.2.2.2.2 gX8_prevotes_X8_get rfl rfl rfl (by decide +kernel) ⟨Nat.le_of_ble_eq_true rfl, Nat.le_of_ble_eq_true rfl⟩) (z_preV hK hZ (64) (hd _ (by omega)) rfl (by decide) rfl _) rfl rfl hl.1 rfl (lv_room (Nat.le_of_ble_eq_true rfl)) dX8_prevotes_204 ⟨Nat.le_of_ble_eq_true rfl, Nat.le_of_ble_eq_true rfl⟩) (fun H locs hZ => ?_)
                    have r_8 := hZ.2.1.1 (67) (20 * x + 1)
                    refine z_iconst F dX8_prevotes_207 ?_
                    refine z_isub F dX8_prevotes_208 ?_
                    refine z_bxi hZ (va_runS (As := [.int (zI (G (69) (6 * ((i : Int)) + 5))), .int (zI (0)), .int (zI ((G 67 (20 * x + 1)) - 1))]) (rest := []) F (k_X8_in l w dom A hDA sz G (G (69) (6 * ((i : Int)) + 5)) 0 ((G 67 (20 * x + 1)) - 1) (by omega) (by omega) (by omega)) (va_cwS 3 F.2.2.2.2 gX8_prevotes_X8_in rfl rfl rfl (by decide +kernel) ⟨Nat.le_of_ble_eq_true rfl, Nat.le_of_ble_eq_true rfl⟩) (z_preS hK hZ _) rfl rfl hl.1 rfl (lv_room (Nat.le_of_ble_eq_true rfl)) dX8_prevotes_209 ⟨Nat.le_of_ble_eq_true rfl, Nat.le_of_ble_eq_true rfl⟩) (fun H locs hZ => ?_)
                    refine z_ifB_eq (tgt := 303) F dX8_prevotes_212 (by decide) (fun c_212 => ?_) (fun c_212 => ?_)
                    · skip
                      refine z_iinc (k := 4) (z := (i : Int)) (lv' := [(2, .int (zI ((i : Int) + 1))), (4, .int (zI (G (69) (6 * ((i : Int)) + 4)))), (3, .int (zI (G (69) (6 * ((i : Int)) + 5)))), (0, .ref (w.2.1 + (64))), (1, .int (zI (x)))]) F dX8_prevotes_303 hl rfl (by decide) rfl (fun ls hl => ?_)
                      refine lv_goto (tgt := 137) F.1 F.2.1 dX8_prevotes_306 (by decide) ?_
                      exact ih_137 (i + 1) (by omega) (by omega) (by rw [h137_2, fstB_f (by omega) (fun q => by simp only [oldP, Bool.and_eq_true, decide_eq_true_eq] at q; unfold manyN at q; first | exact c_176 q.1.1.1 | (have q1 := q.1.1.2; have q2 := q.1.2; have q3 := q.2; omega)), show (G 64 7).toNat - i - 1 = (G 64 7).toNat - (i + 1) by omega]) _ _ _ hZ (lv_sub hl [3, 4, 0] rfl)
                    · skip
                      refine z_aload_n F dX8_prevotes_215 rfl (lv_at hl 2 rfl) ?_
                      refine z_iload_n F dX8_prevotes_216 rfl (lv_at hl 3 rfl) ?_
                      refine z_iconst F dX8_prevotes_217 ?_
                      refine z_aload_n F dX8_prevotes_218 rfl (lv_at hl 2 rfl) ?_
                      refine z_iload_n F dX8_prevotes_219 rfl (lv_at hl 3 rfl) ?_
                      refine z_iconst F dX8_prevotes_220 ?_
                      refine z_bxi hZ (va_runV (As := [.int (zI (x)), .int (zI (0))]) (rest := [.int (zI (1)), .int (zI (x)), .ref (w.2.1 + (64))]) F (k_X8_get l w dom A hDA sz G hd x 0 (by omega)) (cwV 2 F.2.2.2.2 gX8_prevotes_X8_get rfl rfl rfl (by decide +kernel) ⟨Nat.le_of_ble_eq_true rfl, Nat.le_of_ble_eq_true rfl⟩) (z_preV hK hZ (64) (hd _ (by omega)) rfl (by decide) rfl _) rfl rfl hl.1 rfl (lv_room (Nat.le_of_ble_eq_true rfl)) dX8_prevotes_221 ⟨Nat.le_of_ble_eq_true rfl, Nat.le_of_ble_eq_true rfl⟩) (fun H locs hZ => ?_)
                      have r_9 := hZ.2.1.1 (67) (20 * x + 0)
                      refine z_iload_n F dX8_prevotes_224 rfl (lv_at hl 1 rfl) ?_
                      refine z_iload F dX8_prevotes_225 (lv_at hl 0 rfl) ?_
                      refine z_bxi hZ (va_runV (As := [.int (zI (x)), .int (zI (1)), .int (zI (G 67 (20 * x + 0))), .int (zI (G (69) (6 * ((i : Int)) + 5))), .int (zI (G (69) (6 * ((i : Int)) + 4)))]) (rest := []) F (k_X8_voted l w dom A hDA sz G hd (by omega) x 1 (G 67 (20 * x + 0)) (G (69) (6 * ((i : Int)) + 5)) (G (69) (6 * ((i : Int)) + 4)) (by omega) (by omega) (by omega) (by omega) (by omega) (by omega)) (cwV 5 F.2.2.2.2 gX8_prevotes_X8_voted rfl rfl rfl (by decide +kernel) ⟨Nat.le_of_ble_eq_true rfl, Nat.le_of_ble_eq_true rfl⟩) (z_preV hK hZ (64) (hd _ (by omega)) rfl (by decide) rfl _) rfl rfl hl.1 rfl (lv_room (Nat.le_of_ble_eq_true rfl)) dX8_prevotes_227 ⟨Nat.le_of_ble_eq_true rfl, Nat.le_of_ble_eq_true rfl⟩) (fun H locs hZ => ?_)
                      have r_10 := voteN_rng G x 1 (G 67 (20 * x + 0)) (G (69) (6 * ((i : Int)) + 5)) (G (69) (6 * ((i : Int)) + 4))
                      refine z_aload_n F dX8_prevotes_230 rfl (lv_at hl 2 rfl) ?_
                      refine z_bxi hZ (va_runV (As := []) (rest := [.int (zI (voteN G x 1 (G 67 (20 * x + 0)) (G (69) (6 * ((i : Int)) + 5)) (G (69) (6 * ((i : Int)) + 4))))]) F (k_X8_many l w dom A hDA sz G hd (by omega)) (cwV 0 F.2.2.2.2 gX8_prevotes_X8_many rfl rfl rfl (by decide +kernel) ⟨Nat.le_of_ble_eq_true rfl, Nat.le_of_ble_eq_true rfl⟩) (z_preV hK hZ (64) (hd _ (by omega)) rfl (by decide) rfl _) rfl rfl hl.1 rfl (lv_room (Nat.le_of_ble_eq_true rfl)) dX8_prevotes_231 ⟨Nat.le_of_ble_eq_true rfl, Nat.le_of_ble_eq_true rfl⟩) (fun H locs hZ => ?_)
                      refine z_icmp_lt (tgt := 303) F (by omega) (by omega) dX8_prevotes_234 (by decide) (fun c_234 => ?_) (fun c_234 => ?_)
                      · skip
                        refine z_iinc (k := 4) (z := (i : Int)) (lv' := [(2, .int (zI ((i : Int) + 1))), (4, .int (zI (G (69) (6 * ((i : Int)) + 4)))), (3, .int (zI (G (69) (6 * ((i : Int)) + 5)))), (0, .ref (w.2.1 + (64))), (1, .int (zI (x)))]) F dX8_prevotes_303 hl rfl (by decide) rfl (fun ls hl => ?_)
                        refine lv_goto (tgt := 137) F.1 F.2.1 dX8_prevotes_306 (by decide) ?_
                        exact ih_137 (i + 1) (by omega) (by omega) (by rw [h137_2, fstB_f (by omega) (fun q => by simp only [oldP, Bool.and_eq_true, decide_eq_true_eq] at q; unfold manyN at q; first | exact c_176 q.1.1.1 | (have q1 := q.1.1.2; have q2 := q.1.2; have q3 := q.2; omega)), show (G 64 7).toNat - i - 1 = (G 64 7).toNat - (i + 1) by omega]) _ _ _ hZ (lv_sub hl [3, 4, 0] rfl)
                      · skip
                        refine z_aload_n F dX8_prevotes_237 rfl (lv_at hl 2 rfl) ?_
                        refine z_iload_n F dX8_prevotes_238 rfl (lv_at hl 3 rfl) ?_
                        refine z_iload F dX8_prevotes_239 (lv_at hl 0 rfl) ?_
                        refine z_bxi hZ (va_runV (As := [.int (zI (x)), .int (zI (G (69) (6 * ((i : Int)) + 4)))]) (rest := []) F (k_X8_isRight l w dom A hDA sz G hd x (G (69) (6 * ((i : Int)) + 4)) (by omega) (by omega)) (cwV 2 F.2.2.2.2 gX8_prevotes_X8_isRight rfl rfl rfl (by decide +kernel) ⟨Nat.le_of_ble_eq_true rfl, Nat.le_of_ble_eq_true rfl⟩) (z_preV hK hZ (64) (hd _ (by omega)) rfl (by decide) rfl _) rfl rfl hl.1 rfl (lv_room (Nat.le_of_ble_eq_true rfl)) dX8_prevotes_241 ⟨Nat.le_of_ble_eq_true rfl, Nat.le_of_ble_eq_true rfl⟩) (fun H locs hZ => ?_)
                        refine z_ifB_eq (tgt := 281) F dX8_prevotes_244 (by decide) (fun c_244 => ?_) (fun c_244 => ?_)
                        · skip
                          refine z_iconst F dX8_prevotes_281 ?_
                          refine z_istore (lv' := [(5, .int (zI (0))), (4, .int (zI (G (69) (6 * ((i : Int)) + 4)))), (3, .int (zI (G (69) (6 * ((i : Int)) + 5)))), (0, .ref (w.2.1 + (64))), (1, .int (zI (x))), (2, .int (zI ((i : Int))))]) F dX8_prevotes_282 hl (by decide) rfl (fun ls hl => ?_)
                          refine z_aload_n F dX8_prevotes_284 rfl (lv_at hl 3 rfl) ?_
                          refine z_iload_n F dX8_prevotes_285 rfl (lv_at hl 4 rfl) ?_
                          refine z_iconst F dX8_prevotes_286 ?_
                          refine z_iload F dX8_prevotes_287 (lv_at hl 0 rfl) ?_
                          refine z_if_eq (tgt := 297) F (by omega) dX8_prevotes_289 (by decide) (fun c_289 => ?_) (fun c_289 => ?_)
                          · skip
                            refine z_iconst F dX8_prevotes_297 ?_
                            refine z_bxv hZ (va_runV (As := [.int (zI (x)), .int (zI (1)), .int (zI (-1))]) (rest := []) F (k_X8_casts l w dom A hDA sz G hd x 1 (-1) (by omega) (by omega) (by omega) (by omega)) (cwV 3 F.2.2.2.2 gX8_prevotes_X8_casts rfl rfl rfl (by decide +kernel) ⟨Nat.le_of_ble_eq_true rfl, Nat.le_of_ble_eq_true rfl⟩) (z_preV hK hZ (64) (hd _ (by omega)) rfl (by decide) rfl _) rfl rfl hl.1 rfl (lv_room (Nat.le_of_ble_eq_true rfl)) dX8_prevotes_298 ⟨Nat.le_of_ble_eq_true rfl, Nat.le_of_ble_eq_true rfl⟩) (fun H locs hZ => ?_)
                            have e : prevotesM G x = some (castsM G x 1 (-1)) := by rw [prevotesM, if_neg (by omega), hno]; show prevOldM G x = _; rw [prevOldM, h137_2, fstB_t (by omega) (by simp only [oldP, Bool.and_eq_true, decide_eq_true_eq]; unfold manyN; exact ⟨⟨⟨c_176, by omega⟩, c_212⟩, by omega⟩)]; simp only [oldV]; split <;> first | rfl | (rename_i hq; exact absurd hq.1 c_244) | (rename_i hq; have hq2 := hq.2; exfalso; omega) | (rename_i hq; exact absurd ⟨c_244, by omega⟩ hq)
                            refine z_iconst F dX8_prevotes_301 ?_
                            exact z_zret F hr hlocks hZ (bI_1 (by rw [e]; rfl)) (by omega) (by rw [e]; rfl) dX8_prevotes_302 (by omega) (by omega)
                          · skip
                            exfalso; omega
                        · skip
                          refine z_aload_n F dX8_prevotes_247 rfl (lv_at hl 2 rfl) ?_
                          refine z_iload_n F dX8_prevotes_248 rfl (lv_at hl 3 rfl) ?_
                          refine z_iconst F dX8_prevotes_249 ?_
                          refine z_bxi hZ (va_runV (As := [.int (zI (x)), .int (zI (3))]) (rest := []) F (k_X8_get l w dom A hDA sz G hd x 3 (by omega)) (cwV 2 F.2.2.2.2 gX8_prevotes_X8_get rfl rfl rfl (by decide +kernel) ⟨Nat.le_of_ble_eq_true rfl, Nat.le_of_ble_eq_true rfl⟩) (z_preV hK hZ (64) (hd _ (by omega)) rfl (by decide) rfl _) rfl rfl hl.1 rfl (lv_room (Nat.le_of_ble_eq_true rfl)) dX8_prevotes_250 ⟨Nat.le_of_ble_eq_true rfl, Nat.le_of_ble_eq_true rfl⟩) (fun H locs hZ => ?_)
                          have r_11 := hZ.2.1.1 (67) (20 * x + 3)
                          refine z_if_lt (tgt := 277) F (by omega) dX8_prevotes_253 (by decide) (fun c_253 => ?_) (fun c_253 => ?_)
                          · skip
                            refine z_iconst F dX8_prevotes_277 ?_
                            refine lv_goto (tgt := 282) F.1 F.2.1 dX8_prevotes_278 (by decide) ?_
                            refine z_istore (lv' := [(5, .int (zI (1))), (4, .int (zI (G (69) (6 * ((i : Int)) + 4)))), (3, .int (zI (G (69) (6 * ((i : Int)) + 5)))), (0, .ref (w.2.1 + (64))), (1, .int (zI (x))), (2, .int (zI ((i : Int))))]) F dX8_prevotes_282 hl (by decide) rfl (fun ls hl => ?_)
                            refine z_aload_n F dX8_prevotes_284 rfl (lv_at hl 3 rfl) ?_
                            refine z_iload_n F dX8_prevotes_285 rfl (lv_at hl 4 rfl) ?_
                            refine z_iconst F dX8_prevotes_286 ?_
                            refine z_iload F dX8_prevotes_287 (lv_at hl 0 rfl) ?_
                            refine z_if_eq (tgt := 297) F (by omega) dX8_prevotes_289 (by decide) (fun c_289 => ?_) (fun c_289 => ?_)
                            · skip
                              exfalso; omega
                            · skip
                              refine z_iload F dX8_prevotes_292 (lv_at hl 1 rfl) ?_
                              refine lv_goto (tgt := 298) F.1 F.2.1 dX8_prevotes_294 (by decide) ?_
                              refine z_bxv hZ (va_runV (As := [.int (zI (x)), .int (zI (1)), .int (zI (G (69) (6 * ((i : Int)) + 4)))]) (rest := []) F (k_X8_casts l w dom A hDA sz G hd x 1 (G (69) (6 * ((i : Int)) + 4)) (by omega) (by omega) (by omega) (by omega)) (cwV 3 F.2.2.2.2 gX8_prevotes_X8_casts rfl rfl rfl (by decide +kernel) ⟨Nat.le_of_ble_eq_true rfl, Nat.le_of_ble_eq_true rfl⟩) (z_preV hK hZ (64) (hd _ (by omega)) rfl (by decide) rfl _) rfl rfl hl.1 rfl (lv_room (Nat.le_of_ble_eq_true rfl)) dX8_prevotes_298 ⟨Nat.le_of_ble_eq_true rfl, Nat.le_of_ble_eq_true rfl⟩) (fun H locs hZ => ?_)
                              have e : prevotesM G x = some (castsM G x 1 (G (69) (6 * ((i : Int)) + 4))) := by rw [prevotesM, if_neg (by omega), hno]; show prevOldM G x = _; rw [prevOldM, h137_2, fstB_t (by omega) (by simp only [oldP, Bool.and_eq_true, decide_eq_true_eq]; unfold manyN; exact ⟨⟨⟨c_176, by omega⟩, c_212⟩, by omega⟩)]; simp only [oldV]; split <;> first | rfl | (rename_i hq; exact absurd hq.1 c_244) | (rename_i hq; have hq2 := hq.2; exfalso; omega) | (rename_i hq; exact absurd ⟨c_244, by omega⟩ hq)
                              refine z_iconst F dX8_prevotes_301 ?_
                              exact z_zret F hr hlocks hZ (bI_1 (by rw [e]; rfl)) (by omega) (by rw [e]; rfl) dX8_prevotes_302 (by omega) (by omega)
                          · skip
                            refine z_aload_n F dX8_prevotes_256 rfl (lv_at hl 2 rfl) ?_
                            refine z_iload_n F dX8_prevotes_257 rfl (lv_at hl 3 rfl) ?_
                            refine z_iconst F dX8_prevotes_258 ?_
                            refine z_bxi hZ (va_runV (As := [.int (zI (x)), .int (zI (4))]) (rest := []) F (k_X8_get l w dom A hDA sz G hd x 4 (by omega)) (cwV 2 F.2.2.2.2 gX8_prevotes_X8_get rfl rfl rfl (by decide +kernel) ⟨Nat.le_of_ble_eq_true rfl, Nat.le_of_ble_eq_true rfl⟩) (z_preV hK hZ (64) (hd _ (by omega)) rfl (by decide) rfl _) rfl rfl hl.1 rfl (lv_room (Nat.le_of_ble_eq_true rfl)) dX8_prevotes_259 ⟨Nat.le_of_ble_eq_true rfl, Nat.le_of_ble_eq_true rfl⟩) (fun H locs hZ => ?_)
                            have r_12 := hZ.2.1.1 (67) (20 * x + 4)
                            refine z_iload_n F dX8_prevotes_262 rfl (lv_at hl 1 rfl) ?_
                            refine z_icmp_le (tgt := 277) F (by omega) (by omega) dX8_prevotes_263 (by decide) (fun c_263 => ?_) (fun c_263 => ?_)
                            · skip
                              refine z_iconst F dX8_prevotes_277 ?_
                              refine lv_goto (tgt := 282) F.1 F.2.1 dX8_prevotes_278 (by decide) ?_
                              refine z_istore (lv' := [(5, .int (zI (1))), (4, .int (zI (G (69) (6 * ((i : Int)) + 4)))), (3, .int (zI (G (69) (6 * ((i : Int)) + 5)))), (0, .ref (w.2.1 + (64))), (1, .int (zI (x))), (2, .int (zI ((i : Int))))]) F dX8_prevotes_282 hl (by decide) rfl (fun ls hl => ?_)
                              refine z_aload_n F dX8_prevotes_284 rfl (lv_at hl 3 rfl) ?_
                              refine z_iload_n F dX8_prevotes_285 rfl (lv_at hl 4 rfl) ?_
                              refine z_iconst F dX8_prevotes_286 ?_
                              refine z_iload F dX8_prevotes_287 (lv_at hl 0 rfl) ?_
                              refine z_if_eq (tgt := 297) F (by omega) dX8_prevotes_289 (by decide) (fun c_289 => ?_) (fun c_289 => ?_)
                              · skip
                                exfalso; omega
                              · skip
                                refine z_iload F dX8_prevotes_292 (lv_at hl 1 rfl) ?_
                                refine lv_goto (tgt := 298) F.1 F.2.1 dX8_prevotes_294 (by decide) ?_
                                refine z_bxv hZ (va_runV (As := [.int (zI (x)), .int (zI (1)), .int (zI (G (69) (6 * ((i : Int)) + 4)))]) (rest := []) F (k_X8_casts l w dom A hDA sz G hd x 1 (G (69) (6 * ((i : Int)) + 4)) (by omega) (by omega) (by omega) (by omega)) (cwV 3 F.2.2.2.2 gX8_prevotes_X8_casts rfl rfl rfl (by decide +kernel) ⟨Nat.le_of_ble_eq_true rfl, Nat.le_of_ble_eq_true rfl⟩) (z_preV hK hZ (64) (hd _ (by omega)) rfl (by decide) rfl _) rfl rfl hl.1 rfl (lv_room (Nat.le_of_ble_eq_true rfl)) dX8_prevotes_298 ⟨Nat.le_of_ble_eq_true rfl, Nat.le_of_ble_eq_true rfl⟩) (fun H locs hZ => ?_)
                                have e : prevotesM G x = some (castsM G x 1 (G (69) (6 * ((i : Int)) + 4))) := by rw [prevotesM, if_neg (by omega), hno]; show prevOldM G x = _; rw [prevOldM, h137_2, fstB_t (by omega) (by simp only [oldP, Bool.and_eq_true, decide_eq_true_eq]; unfold manyN; exact ⟨⟨⟨c_176, by omega⟩, c_212⟩, by omega⟩)]; simp only [oldV]; split <;> first | rfl | (rename_i hq; exact absurd hq.1 c_244) | (rename_i hq; have hq2 := hq.2; exfalso; omega) | (rename_i hq; exact absurd ⟨c_244, by omega⟩ hq)
                                refine z_iconst F dX8_prevotes_301 ?_
                                exact z_zret F hr hlocks hZ (bI_1 (by rw [e]; rfl)) (by omega) (by rw [e]; rfl) dX8_prevotes_302 (by omega) (by omega)
                            · skip
                              refine z_aload_n F dX8_prevotes_266 rfl (lv_at hl 2 rfl) ?_
                              refine z_iload_n F dX8_prevotes_267 rfl (lv_at hl 3 rfl) ?_
                              refine z_iconst F dX8_prevotes_268 ?_
                              refine z_bxi hZ (va_runV (As := [.int (zI (x)), .int (zI (3))]) (rest := []) F (k_X8_get l w dom A hDA sz G hd x 3 (by omega)) (cwV 2 F.2.2.2.2 gX8_prevotes_X8_get rfl rfl rfl (by decide +kernel) ⟨Nat.le_of_ble_eq_true rfl, Nat.le_of_ble_eq_true rfl⟩) (z_preV hK hZ (64) (hd _ (by omega)) rfl (by decide) rfl _) rfl rfl hl.1 rfl (lv_room (Nat.le_of_ble_eq_true rfl)) dX8_prevotes_269 ⟨Nat.le_of_ble_eq_true rfl, Nat.le_of_ble_eq_true rfl⟩) (fun H locs hZ => ?_)
                              have r_13 := hZ.2.1.1 (67) (20 * x + 3)
                              refine z_iload F dX8_prevotes_272 (lv_at hl 0 rfl) ?_
                              refine z_icmp_ne (tgt := 281) F (by omega) (by omega) dX8_prevotes_274 (by decide) (fun c_274 => ?_) (fun c_274 => ?_)
                              · skip
                                refine z_iconst F dX8_prevotes_281 ?_
                                refine z_istore (lv' := [(5, .int (zI (0))), (4, .int (zI (G (69) (6 * ((i : Int)) + 4)))), (3, .int (zI (G (69) (6 * ((i : Int)) + 5)))), (0, .ref (w.2.1 + (64))), (1, .int (zI (x))), (2, .int (zI ((i : Int))))]) F dX8_prevotes_282 hl (by decide) rfl (fun ls hl => ?_)
                                refine z_aload_n F dX8_prevotes_284 rfl (lv_at hl 3 rfl) ?_
                                refine z_iload_n F dX8_prevotes_285 rfl (lv_at hl 4 rfl) ?_
                                refine z_iconst F dX8_prevotes_286 ?_
                                refine z_iload F dX8_prevotes_287 (lv_at hl 0 rfl) ?_
                                refine z_if_eq (tgt := 297) F (by omega) dX8_prevotes_289 (by decide) (fun c_289 => ?_) (fun c_289 => ?_)
                                · skip
                                  refine z_iconst F dX8_prevotes_297 ?_
                                  refine z_bxv hZ (va_runV (As := [.int (zI (x)), .int (zI (1)), .int (zI (-1))]) (rest := []) F (k_X8_casts l w dom A hDA sz G hd x 1 (-1) (by omega) (by omega) (by omega) (by omega)) (cwV 3 F.2.2.2.2 gX8_prevotes_X8_casts rfl rfl rfl (by decide +kernel) ⟨Nat.le_of_ble_eq_true rfl, Nat.le_of_ble_eq_true rfl⟩) (z_preV hK hZ (64) (hd _ (by omega)) rfl (by decide) rfl _) rfl rfl hl.1 rfl (lv_room (Nat.le_of_ble_eq_true rfl)) dX8_prevotes_298 ⟨Nat.le_of_ble_eq_true rfl, Nat.le_of_ble_eq_true rfl⟩) (fun H locs hZ => ?_)
                                  have e : prevotesM G x = some (castsM G x 1 (-1)) := by rw [prevotesM, if_neg (by omega), hno]; show prevOldM G x = _; rw [prevOldM, h137_2, fstB_t (by omega) (by simp only [oldP, Bool.and_eq_true, decide_eq_true_eq]; unfold manyN; exact ⟨⟨⟨c_176, by omega⟩, c_212⟩, by omega⟩)]; simp only [oldV]; split <;> first | rfl | (rename_i hq; exact absurd hq.1 c_244) | (rename_i hq; have hq2 := hq.2; exfalso; omega) | (rename_i hq; exact absurd ⟨c_244, by omega⟩ hq)
                                  refine z_iconst F dX8_prevotes_301 ?_
                                  exact z_zret F hr hlocks hZ (bI_1 (by rw [e]; rfl)) (by omega) (by rw [e]; rfl) dX8_prevotes_302 (by omega) (by omega)
                                · skip
                                  exfalso; omega
                              · skip
                                refine z_iconst F dX8_prevotes_277 ?_
                                refine lv_goto (tgt := 282) F.1 F.2.1 dX8_prevotes_278 (by decide) ?_
                                refine z_istore (lv' := [(5, .int (zI (1))), (4, .int (zI (G (69) (6 * ((i : Int)) + 4)))), (3, .int (zI (G (69) (6 * ((i : Int)) + 5)))), (0, .ref (w.2.1 + (64))), (1, .int (zI (x))), (2, .int (zI ((i : Int))))]) F dX8_prevotes_282 hl (by decide) rfl (fun ls hl => ?_)
                                refine z_aload_n F dX8_prevotes_284 rfl (lv_at hl 3 rfl) ?_
                                refine z_iload_n F dX8_prevotes_285 rfl (lv_at hl 4 rfl) ?_
                                refine z_iconst F dX8_prevotes_286 ?_
                                refine z_iload F dX8_prevotes_287 (lv_at hl 0 rfl) ?_
                                refine z_if_eq (tgt := 297) F (by omega) dX8_prevotes_289 (by decide) (fun c_289 => ?_) (fun c_289 => ?_)
                                · skip
                                  exfalso; omega
                                · skip
                                  refine z_iload F dX8_prevotes_292 (lv_at hl 1 rfl) ?_
                                  refine lv_goto (tgt := 298) F.1 F.2.1 dX8_prevotes_294 (by decide) ?_
                                  refine z_bxv hZ (va_runV (As := [.int (zI (x)), .int (zI (1)), .int (zI (G (69) (6 * ((i : Int)) + 4)))]) (rest := []) F (k_X8_casts l w dom A hDA sz G hd x 1 (G (69) (6 * ((i : Int)) + 4)) (by omega) (by omega) (by omega) (by omega)) (cwV 3 F.2.2.2.2 gX8_prevotes_X8_casts rfl rfl rfl (by decide +kernel) ⟨Nat.le_of_ble_eq_true rfl, Nat.le_of_ble_eq_true rfl⟩) (z_preV hK hZ (64) (hd _ (by omega)) rfl (by decide) rfl _) rfl rfl hl.1 rfl (lv_room (Nat.le_of_ble_eq_true rfl)) dX8_prevotes_298 ⟨Nat.le_of_ble_eq_true rfl, Nat.le_of_ble_eq_true rfl⟩) (fun H locs hZ => ?_)
                                  have e : prevotesM G x = some (castsM G x 1 (G (69) (6 * ((i : Int)) + 4))) := by rw [prevotesM, if_neg (by omega), hno]; show prevOldM G x = _; rw [prevOldM, h137_2, fstB_t (by omega) (by simp only [oldP, Bool.and_eq_true, decide_eq_true_eq]; unfold manyN; exact ⟨⟨⟨c_176, by omega⟩, c_212⟩, by omega⟩)]; simp only [oldV]; split <;> first | rfl | (rename_i hq; exact absurd hq.1 c_244) | (rename_i hq; have hq2 := hq.2; exfalso; omega) | (rename_i hq; exact absurd ⟨c_244, by omega⟩ hq)
                                  refine z_iconst F dX8_prevotes_301 ?_
                                  exact z_zret F hr hlocks hZ (bI_1 (by rw [e]; rfl)) (by omega) (by rw [e]; rfl) dX8_prevotes_302 (by omega) (by omega)
          exact L_137 ((G 64 7).toNat + 1) 0 (by omega) (by omega) rfl _ _ _ hZ (lv_sub hl [1, 2, 0] rfl)
        · skip
          have iL := let_rng hI (l := (i : Int)) (by omega)
          refine z_aload_n F dX8_prevotes_21 rfl (lv_at hl 0 rfl) ?_
          refine z_iload_n F dX8_prevotes_22 rfl (lv_at hl 1 rfl) ?_
          refine z_iload_n F dX8_prevotes_23 rfl (lv_at hl 2 rfl) ?_
          refine z_bxi hZ (va_runV (As := [.int (zI (x)), .int (zI ((i : Int)))]) (rest := []) F (k_X8_proposes l w dom A hDA sz G hd (by omega) x i (by omega) (by omega) (by omega) (by omega)) (cwV 2 F.2.2.2.2 gX8_prevotes_X8_proposes rfl rfl rfl (by decide +kernel) ⟨Nat.le_of_ble_eq_true rfl, Nat.le_of_ble_eq_true rfl⟩) (z_preV hK hZ (64) (hd _ (by omega)) rfl (by decide) rfl _) rfl rfl hl.1 rfl (lv_room (Nat.le_of_ble_eq_true rfl)) dX8_prevotes_24 ⟨Nat.le_of_ble_eq_true rfl, Nat.le_of_ble_eq_true rfl⟩) (fun H locs hZ => ?_)
          refine z_ifB_eq (tgt := 129) F dX8_prevotes_27 (by decide) (fun c_27 => ?_) (fun c_27 => ?_)
          · skip
            refine z_iinc (k := 2) (z := (i : Int)) (lv' := [(2, .int (zI ((i : Int) + 1))), (0, .ref (w.2.1 + (64))), (1, .int (zI (x)))]) F dX8_prevotes_129 hl rfl (by decide) rfl (fun ls hl => ?_)
            refine lv_goto (tgt := 13) F.1 F.2.1 dX8_prevotes_132 (by decide) ?_
            exact ih_13 (i + 1) (by omega) (by omega) (by rw [h13_2, fstB_f (by omega) (fun q => by simp only [newP, Bool.and_eq_true, decide_eq_true_eq] at q; first | exact c_27 q.1 | (have := q.2; omega)), show (G 64 7).toNat - i - 1 = (G 64 7).toNat - (i + 1) by omega]) _ _ _ hZ (lv_sub hl [1, 2, 0] rfl)
          · skip
            refine z_aload_n F dX8_prevotes_30 rfl (lv_at hl 0 rfl) ?_
            refine z_get F hK hZ (64) (hd _ (by omega)) rfl (by decide) rfl hin8 8 (by decide) mX8_prevotes_23 rfl rfl dX8_prevotes_31 ?_
            refine z_bipush F (by decide) dX8_prevotes_34 ?_
            refine z_iload_n F dX8_prevotes_36 rfl (lv_at hl 2 rfl) ?_
            refine z_imul F dX8_prevotes_37 ?_
            refine z_iconst F dX8_prevotes_38 ?_
            refine z_iadd F dX8_prevotes_39 ?_
            refine z_iald F hK hZ (69) (hd _ (by omega)) rfl (by decide) (by omega) (by omega) dX8_prevotes_40 ?_
            have r_14 := hZ.2.1.1 (69) (6 * ((i : Int)) + 3)
            refine z_aload_n F dX8_prevotes_41 rfl (lv_at hl 0 rfl) ?_
            refine z_iload_n F dX8_prevotes_42 rfl (lv_at hl 1 rfl) ?_
            refine z_iconst F dX8_prevotes_43 ?_
            refine z_bxi hZ (va_runV (As := [.int (zI (x)), .int (zI (1))]) (rest := [.int (zI (G (69) (6 * ((i : Int)) + 3)))]) F (k_X8_get l w dom A hDA sz G hd x 1 (by omega)) (cwV 2 F.2.2.2.2 gX8_prevotes_X8_get rfl rfl rfl (by decide +kernel) ⟨Nat.le_of_ble_eq_true rfl, Nat.le_of_ble_eq_true rfl⟩) (z_preV hK hZ (64) (hd _ (by omega)) rfl (by decide) rfl _) rfl rfl hl.1 rfl (lv_room (Nat.le_of_ble_eq_true rfl)) dX8_prevotes_44 ⟨Nat.le_of_ble_eq_true rfl, Nat.le_of_ble_eq_true rfl⟩) (fun H locs hZ => ?_)
            have r_15 := hZ.2.1.1 (67) (20 * x + 1)
            refine z_icmp_ne (tgt := 129) F (by omega) (by omega) dX8_prevotes_47 (by decide) (fun c_47 => ?_) (fun c_47 => ?_)
            · skip
              refine z_iinc (k := 2) (z := (i : Int)) (lv' := [(2, .int (zI ((i : Int) + 1))), (0, .ref (w.2.1 + (64))), (1, .int (zI (x)))]) F dX8_prevotes_129 hl rfl (by decide) rfl (fun ls hl => ?_)
              refine lv_goto (tgt := 13) F.1 F.2.1 dX8_prevotes_132 (by decide) ?_
              exact ih_13 (i + 1) (by omega) (by omega) (by rw [h13_2, fstB_f (by omega) (fun q => by simp only [newP, Bool.and_eq_true, decide_eq_true_eq] at q; first | exact c_27 q.1 | (have := q.2; omega)), show (G 64 7).toNat - i - 1 = (G 64 7).toNat - (i + 1) by omega]) _ _ _ hZ (lv_sub hl [1, 2, 0] rfl)
            · skip
              refine z_aload_n F dX8_prevotes_50 rfl (lv_at hl 0 rfl) ?_
              refine z_get F hK hZ (64) (hd _ (by omega)) rfl (by decide) rfl hin8 8 (by decide) mX8_prevotes_23 rfl rfl dX8_prevotes_51 ?_
              refine z_bipush F (by decide) dX8_prevotes_54 ?_
              refine z_iload_n F dX8_prevotes_56 rfl (lv_at hl 2 rfl) ?_
              refine z_imul F dX8_prevotes_57 ?_
              refine z_iconst F dX8_prevotes_58 ?_
              refine z_iadd F dX8_prevotes_59 ?_
              refine z_iald F hK hZ (69) (hd _ (by omega)) rfl (by decide) (by omega) (by omega) dX8_prevotes_60 ?_
              have r_16 := hZ.2.1.1 (69) (6 * ((i : Int)) + 5)
              refine z_if_ge (tgt := 129) F (by omega) dX8_prevotes_61 (by decide) (fun c_61 => ?_) (fun c_61 => ?_)
              · skip
                refine z_iinc (k := 2) (z := (i : Int)) (lv' := [(2, .int (zI ((i : Int) + 1))), (0, .ref (w.2.1 + (64))), (1, .int (zI (x)))]) F dX8_prevotes_129 hl rfl (by decide) rfl (fun ls hl => ?_)
                refine lv_goto (tgt := 13) F.1 F.2.1 dX8_prevotes_132 (by decide) ?_
                exact ih_13 (i + 1) (by omega) (by omega) (by rw [h13_2, fstB_f (by omega) (fun q => by simp only [newP, Bool.and_eq_true, decide_eq_true_eq] at q; first | exact c_27 q.1 | (have := q.2; omega)), show (G 64 7).toNat - i - 1 = (G 64 7).toNat - (i + 1) by omega]) _ _ _ hZ (lv_sub hl [1, 2, 0] rfl)
              · skip
                refine z_aload_n F dX8_prevotes_64 rfl (lv_at hl 0 rfl) ?_
                refine z_get F hK hZ (64) (hd _ (by omega)) rfl (by decide) rfl hin8 8 (by decide) mX8_prevotes_23 rfl rfl dX8_prevotes_65 ?_
                refine z_bipush F (by decide) dX8_prevotes_68 ?_
                refine z_iload_n F dX8_prevotes_70 rfl (lv_at hl 2 rfl) ?_
                refine z_imul F dX8_prevotes_71 ?_
                refine z_iconst F dX8_prevotes_72 ?_
                refine z_iadd F dX8_prevotes_73 ?_
                refine z_iald F hK hZ (69) (hd _ (by omega)) rfl (by decide) (by omega) (by omega) dX8_prevotes_74 ?_
                have r_17 := hZ.2.1.1 (69) (6 * ((i : Int)) + 4)
                refine z_istore_n (lv' := [(3, .int (zI (G (69) (6 * ((i : Int)) + 4)))), (0, .ref (w.2.1 + (64))), (1, .int (zI (x))), (2, .int (zI ((i : Int))))]) F dX8_prevotes_75 rfl hl (by decide) rfl (fun ls hl => ?_)
                refine z_aload_n F dX8_prevotes_76 rfl (lv_at hl 1 rfl) ?_
                refine z_iload_n F dX8_prevotes_77 rfl (lv_at hl 2 rfl) ?_
                refine z_iload_n F dX8_prevotes_78 rfl (lv_at hl 0 rfl) ?_
                refine z_bxi hZ (va_runV (As := [.int (zI (x)), .int (zI (G (69) (6 * ((i : Int)) + 4)))]) (rest := []) F (k_X8_isRight l w dom A hDA sz G hd x (G (69) (6 * ((i : Int)) + 4)) (by omega) (by omega)) (cwV 2 F.2.2.2.2 gX8_prevotes_X8_isRight rfl rfl rfl (by decide +kernel) ⟨Nat.le_of_ble_eq_true rfl, Nat.le_of_ble_eq_true rfl⟩) (z_preV hK hZ (64) (hd _ (by omega)) rfl (by decide) rfl _) rfl rfl hl.1 rfl (lv_room (Nat.le_of_ble_eq_true rfl)) dX8_prevotes_79 ⟨Nat.le_of_ble_eq_true rfl, Nat.le_of_ble_eq_true rfl⟩) (fun H locs hZ => ?_)
                refine z_ifB_eq (tgt := 108) F dX8_prevotes_82 (by decide) (fun c_82 => ?_) (fun c_82 => ?_)
                · skip
                  refine z_iconst F dX8_prevotes_108 ?_
                  refine z_istore (lv' := [(4, .int (zI (0))), (3, .int (zI (G (69) (6 * ((i : Int)) + 4)))), (0, .ref (w.2.1 + (64))), (1, .int (zI (x))), (2, .int (zI ((i : Int))))]) F dX8_prevotes_109 hl (by decide) rfl (fun ls hl => ?_)
                  refine z_aload_n F dX8_prevotes_111 rfl (lv_at hl 2 rfl) ?_
                  refine z_iload_n F dX8_prevotes_112 rfl (lv_at hl 3 rfl) ?_
                  refine z_iconst F dX8_prevotes_113 ?_
                  refine z_iload F dX8_prevotes_114 (lv_at hl 0 rfl) ?_
                  refine z_if_eq (tgt := 123) F (by omega) dX8_prevotes_116 (by decide) (fun c_116 => ?_) (fun c_116 => ?_)
                  · skip
                    refine z_iconst F dX8_prevotes_123 ?_
                    refine z_bxv hZ (va_runV (As := [.int (zI (x)), .int (zI (1)), .int (zI (-1))]) (rest := []) F (k_X8_casts l w dom A hDA sz G hd x 1 (-1) (by omega) (by omega) (by omega) (by omega)) (cwV 3 F.2.2.2.2 gX8_prevotes_X8_casts rfl rfl rfl (by decide +kernel) ⟨Nat.le_of_ble_eq_true rfl, Nat.le_of_ble_eq_true rfl⟩) (z_preV hK hZ (64) (hd _ (by omega)) rfl (by decide) rfl _) rfl rfl hl.1 rfl (lv_room (Nat.le_of_ble_eq_true rfl)) dX8_prevotes_124 ⟨Nat.le_of_ble_eq_true rfl, Nat.le_of_ble_eq_true rfl⟩) (fun H locs hZ => ?_)
                    have e : prevotesM G x = some (castsM G x 1 (-1)) := by rw [prevotesM, if_neg (by omega), h13_2, fstB_t (by omega) (by simp only [newP, Bool.and_eq_true, decide_eq_true_eq]; exact ⟨c_27, by omega, by omega⟩)]; simp only [newV]; split <;> first | rfl | (rename_i hq; exact absurd hq.1 c_82) | (rename_i hq; have hq2 := hq.2; exfalso; omega) | (rename_i hq; exact absurd ⟨c_82, by omega⟩ hq)
                    refine z_iconst F dX8_prevotes_127 ?_
                    exact z_zret F hr hlocks hZ (bI_1 (by rw [e]; rfl)) (by omega) (by rw [e]; rfl) dX8_prevotes_128 (by omega) (by omega)
                  · skip
                    exfalso; omega
                · skip
                  refine z_aload_n F dX8_prevotes_85 rfl (lv_at hl 1 rfl) ?_
                  refine z_iload_n F dX8_prevotes_86 rfl (lv_at hl 2 rfl) ?_
                  refine z_iconst F dX8_prevotes_87 ?_
                  refine z_bxi hZ (va_runV (As := [.int (zI (x)), .int (zI (3))]) (rest := []) F (k_X8_get l w dom A hDA sz G hd x 3 (by omega)) (cwV 2 F.2.2.2.2 gX8_prevotes_X8_get rfl rfl rfl (by decide +kernel) ⟨Nat.le_of_ble_eq_true rfl, Nat.le_of_ble_eq_true rfl⟩) (z_preV hK hZ (64) (hd _ (by omega)) rfl (by decide) rfl _) rfl rfl hl.1 rfl (lv_room (Nat.le_of_ble_eq_true rfl)) dX8_prevotes_88 ⟨Nat.le_of_ble_eq_true rfl, Nat.le_of_ble_eq_true rfl⟩) (fun H locs hZ => ?_)
                  have r_18 := hZ.2.1.1 (67) (20 * x + 3)
                  refine z_if_lt (tgt := 104) F (by omega) dX8_prevotes_91 (by decide) (fun c_91 => ?_) (fun c_91 => ?_)
                  · skip
                    refine z_iconst F dX8_prevotes_104 ?_
                    refine lv_goto (tgt := 109) F.1 F.2.1 dX8_prevotes_105 (by decide) ?_
                    refine z_istore (lv' := [(4, .int (zI (1))), (3, .int (zI (G (69) (6 * ((i : Int)) + 4)))), (0, .ref (w.2.1 + (64))), (1, .int (zI (x))), (2, .int (zI ((i : Int))))]) F dX8_prevotes_109 hl (by decide) rfl (fun ls hl => ?_)
                    refine z_aload_n F dX8_prevotes_111 rfl (lv_at hl 2 rfl) ?_
                    refine z_iload_n F dX8_prevotes_112 rfl (lv_at hl 3 rfl) ?_
                    refine z_iconst F dX8_prevotes_113 ?_
                    refine z_iload F dX8_prevotes_114 (lv_at hl 0 rfl) ?_
                    refine z_if_eq (tgt := 123) F (by omega) dX8_prevotes_116 (by decide) (fun c_116 => ?_) (fun c_116 => ?_)
                    · skip
                      exfalso; omega
                    · skip
                      refine z_iload_n F dX8_prevotes_119 rfl (lv_at hl 1 rfl) ?_
                      refine lv_goto (tgt := 124) F.1 F.2.1 dX8_prevotes_120 (by decide) ?_
                      refine z_bxv hZ (va_runV (As := [.int (zI (x)), .int (zI (1)), .int (zI (G (69) (6 * ((i : Int)) + 4)))]) (rest := []) F (k_X8_casts l w dom A hDA sz G hd x 1 (G (69) (6 * ((i : Int)) + 4)) (by omega) (by omega) (by omega) (by omega)) (cwV 3 F.2.2.2.2 gX8_prevotes_X8_casts rfl rfl rfl (by decide +kernel) ⟨Nat.le_of_ble_eq_true rfl, Nat.le_of_ble_eq_true rfl⟩) (z_preV hK hZ (64) (hd _ (by omega)) rfl (by decide) rfl _) rfl rfl hl.1 rfl (lv_room (Nat.le_of_ble_eq_true rfl)) dX8_prevotes_124 ⟨Nat.le_of_ble_eq_true rfl, Nat.le_of_ble_eq_true rfl⟩) (fun H locs hZ => ?_)
                      have e : prevotesM G x = some (castsM G x 1 (G (69) (6 * ((i : Int)) + 4))) := by rw [prevotesM, if_neg (by omega), h13_2, fstB_t (by omega) (by simp only [newP, Bool.and_eq_true, decide_eq_true_eq]; exact ⟨c_27, by omega, by omega⟩)]; simp only [newV]; split <;> first | rfl | (rename_i hq; exact absurd hq.1 c_82) | (rename_i hq; have hq2 := hq.2; exfalso; omega) | (rename_i hq; exact absurd ⟨c_82, by omega⟩ hq)
                      refine z_iconst F dX8_prevotes_127 ?_
                      exact z_zret F hr hlocks hZ (bI_1 (by rw [e]; rfl)) (by omega) (by rw [e]; rfl) dX8_prevotes_128 (by omega) (by omega)
                  · skip
                    refine z_aload_n F dX8_prevotes_94 rfl (lv_at hl 1 rfl) ?_
                    refine z_iload_n F dX8_prevotes_95 rfl (lv_at hl 2 rfl) ?_
                    refine z_iconst F dX8_prevotes_96 ?_
                    refine z_bxi hZ (va_runV (As := [.int (zI (x)), .int (zI (3))]) (rest := []) F (k_X8_get l w dom A hDA sz G hd x 3 (by omega)) (cwV 2 F.2.2.2.2 gX8_prevotes_X8_get rfl rfl rfl (by decide +kernel) ⟨Nat.le_of_ble_eq_true rfl, Nat.le_of_ble_eq_true rfl⟩) (z_preV hK hZ (64) (hd _ (by omega)) rfl (by decide) rfl _) rfl rfl hl.1 rfl (lv_room (Nat.le_of_ble_eq_true rfl)) dX8_prevotes_97 ⟨Nat.le_of_ble_eq_true rfl, Nat.le_of_ble_eq_true rfl⟩) (fun H locs hZ => ?_)
                    have r_19 := hZ.2.1.1 (67) (20 * x + 3)
                    refine z_iload_n F dX8_prevotes_100 rfl (lv_at hl 0 rfl) ?_
                    refine z_icmp_ne (tgt := 108) F (by omega) (by omega) dX8_prevotes_101 (by decide) (fun c_101 => ?_) (fun c_101 => ?_)
                    · skip
                      refine z_iconst F dX8_prevotes_108 ?_
                      refine z_istore (lv' := [(4, .int (zI (0))), (3, .int (zI (G (69) (6 * ((i : Int)) + 4)))), (0, .ref (w.2.1 + (64))), (1, .int (zI (x))), (2, .int (zI ((i : Int))))]) F dX8_prevotes_109 hl (by decide) rfl (fun ls hl => ?_)
                      refine z_aload_n F dX8_prevotes_111 rfl (lv_at hl 2 rfl) ?_
                      refine z_iload_n F dX8_prevotes_112 rfl (lv_at hl 3 rfl) ?_
                      refine z_iconst F dX8_prevotes_113 ?_
                      refine z_iload F dX8_prevotes_114 (lv_at hl 0 rfl) ?_
                      refine z_if_eq (tgt := 123) F (by omega) dX8_prevotes_116 (by decide) (fun c_116 => ?_) (fun c_116 => ?_)
                      · skip
                        refine z_iconst F dX8_prevotes_123 ?_
                        refine z_bxv hZ (va_runV (As := [.int (zI (x)), .int (zI (1)), .int (zI (-1))]) (rest := []) F (k_X8_casts l w dom A hDA sz G hd x 1 (-1) (by omega) (by omega) (by omega) (by omega)) (cwV 3 F.2.2.2.2 gX8_prevotes_X8_casts rfl rfl rfl (by decide +kernel) ⟨Nat.le_of_ble_eq_true rfl, Nat.le_of_ble_eq_true rfl⟩) (z_preV hK hZ (64) (hd _ (by omega)) rfl (by decide) rfl _) rfl rfl hl.1 rfl (lv_room (Nat.le_of_ble_eq_true rfl)) dX8_prevotes_124 ⟨Nat.le_of_ble_eq_true rfl, Nat.le_of_ble_eq_true rfl⟩) (fun H locs hZ => ?_)
                        have e : prevotesM G x = some (castsM G x 1 (-1)) := by rw [prevotesM, if_neg (by omega), h13_2, fstB_t (by omega) (by simp only [newP, Bool.and_eq_true, decide_eq_true_eq]; exact ⟨c_27, by omega, by omega⟩)]; simp only [newV]; split <;> first | rfl | (rename_i hq; exact absurd hq.1 c_82) | (rename_i hq; have hq2 := hq.2; exfalso; omega) | (rename_i hq; exact absurd ⟨c_82, by omega⟩ hq)
                        refine z_iconst F dX8_prevotes_127 ?_
                        exact z_zret F hr hlocks hZ (bI_1 (by rw [e]; rfl)) (by omega) (by rw [e]; rfl) dX8_prevotes_128 (by omega) (by omega)
                      · skip
                        exfalso; omega
                    · skip
                      refine z_iconst F dX8_prevotes_104 ?_
                      refine lv_goto (tgt := 109) F.1 F.2.1 dX8_prevotes_105 (by decide) ?_
                      refine z_istore (lv' := [(4, .int (zI (1))), (3, .int (zI (G (69) (6 * ((i : Int)) + 4)))), (0, .ref (w.2.1 + (64))), (1, .int (zI (x))), (2, .int (zI ((i : Int))))]) F dX8_prevotes_109 hl (by decide) rfl (fun ls hl => ?_)
                      refine z_aload_n F dX8_prevotes_111 rfl (lv_at hl 2 rfl) ?_
                      refine z_iload_n F dX8_prevotes_112 rfl (lv_at hl 3 rfl) ?_
                      refine z_iconst F dX8_prevotes_113 ?_
                      refine z_iload F dX8_prevotes_114 (lv_at hl 0 rfl) ?_
                      refine z_if_eq (tgt := 123) F (by omega) dX8_prevotes_116 (by decide) (fun c_116 => ?_) (fun c_116 => ?_)
                      · skip
                        exfalso; omega
                      · skip
                        refine z_iload_n F dX8_prevotes_119 rfl (lv_at hl 1 rfl) ?_
                        refine lv_goto (tgt := 124) F.1 F.2.1 dX8_prevotes_120 (by decide) ?_
                        refine z_bxv hZ (va_runV (As := [.int (zI (x)), .int (zI (1)), .int (zI (G (69) (6 * ((i : Int)) + 4)))]) (rest := []) F (k_X8_casts l w dom A hDA sz G hd x 1 (G (69) (6 * ((i : Int)) + 4)) (by omega) (by omega) (by omega) (by omega)) (cwV 3 F.2.2.2.2 gX8_prevotes_X8_casts rfl rfl rfl (by decide +kernel) ⟨Nat.le_of_ble_eq_true rfl, Nat.le_of_ble_eq_true rfl⟩) (z_preV hK hZ (64) (hd _ (by omega)) rfl (by decide) rfl _) rfl rfl hl.1 rfl (lv_room (Nat.le_of_ble_eq_true rfl)) dX8_prevotes_124 ⟨Nat.le_of_ble_eq_true rfl, Nat.le_of_ble_eq_true rfl⟩) (fun H locs hZ => ?_)
                        have e : prevotesM G x = some (castsM G x 1 (G (69) (6 * ((i : Int)) + 4))) := by rw [prevotesM, if_neg (by omega), h13_2, fstB_t (by omega) (by simp only [newP, Bool.and_eq_true, decide_eq_true_eq]; exact ⟨c_27, by omega, by omega⟩)]; simp only [newV]; split <;> first | rfl | (rename_i hq; exact absurd hq.1 c_82) | (rename_i hq; have hq2 := hq.2; exfalso; omega) | (rename_i hq; exact absurd ⟨c_82, by omega⟩ hq)
                        refine z_iconst F dX8_prevotes_127 ?_
                        exact z_zret F hr hlocks hZ (bI_1 (by rw [e]; rfl)) (by omega) (by rw [e]; rfl) dX8_prevotes_128 (by omega) (by omega)
    exact L_13 ((G 64 7).toNat + 1) 0 (by omega) (by omega) rfl _ _ _ hZ (lv_sub hl [1, 2, 0] rfl)
  · skip
    have e : prevotesM G x = none := by rw [prevotesM, if_pos c_6]
    refine z_iconst F dX8_prevotes_9 ?_
    exact z_zret F hr hlocks hZ (bI_0 (by rw [e]; exact fun q => by cases q)) (by omega) (by rw [e]; rfl) dX8_prevotes_10 (by omega) (by omega)

theorem mX8_locks_23 : Cond.fieldLink RX8 23 "LockedChainModel" "letter" "[I" ∈ wsX8_locks := by decide +kernel
theorem mX8_locks_44 : Cond.fieldLink RX8 44 "LockedChainModel" "letters" "I" ∈ wsX8_locks := by decide +kernel
set_option maxHeartbeats 4000000 in
set_option maxRecDepth 100000 in
theorem k_X8_locks (l : Launch) (w : zW) (dom : Nat → Prop) (A : Nat → Prop) (hDA : ∀ i, dom i → A (w.2.1 + i)) (sz : Nat) (G : zM) (hd : ∀ i, 64 ≤ i ∧ i < 71 → dom i) (hI : Inv G) (x : Int) (h0 : 0 ≤ x ∧ x < 7) : Met l yX8_locks wsX8_locks { frames := 2, cells := 0, slots := 0, locals := 52 } (zPre w dom sz G [.ref (w.2.1 + (64)), .int (zI (x))]) (zQi w dom sz (bI ((locksM G x).isSome = true)) (fun C => C = (locksM G x).getD G) A) (0) (0) A := by
  refine Met.ofW (cc := cX8_locks) (maxL := 4) (ret := (some .boolean)) (by decide) rfl ?_
  intro p e s m args below meth c s₁ B hml hv
  obtain ⟨rfl, hsz, hP, hK⟩ := hv
  have F : CallFix p m c cX8_locks 4 s _ wsX8_locks RX8 := ⟨B.exec, B.bytes, hml, findClass_of_methodNamed B.named, atoms_spec (ws := wsX8_locks) B.pre⟩
  have hr := B.returns
  have hlocks := B.notSynchronized
  have hZ : Zs w dom A s.heap sz G s.heap [] := ⟨hsz, hP, va_S.rf⟩
  have hl := lv_entry ([.ref (w.2.1 + (64)), .int (zI (x))]) (n := 4) (Nat.le_of_ble_eq_true rfl)
  rw [lg_entry_eq]
  generalize (lg_sl ([.ref (w.2.1 + (64)), .int (zI (x))]) ++ List.replicate (4 - (lg_sl ([.ref (w.2.1 + (64)), .int (zI (x))])).length) Slot.unset).toArray = ls at hl ⊢
  have hl : lv_has ls 4 [(0, .ref (w.2.1 + (64))), (1, .int (zI (x)))] := hl
  have hin8 : ∀ v ∈ u_ws RX8 TX8 10, v ∈ wsX8_locks := by decide +kernel
  have hn := hI.1
  have hL := hI.2.2.2.1
  have iS := seat_rng hI h0
  refine z_aload_n F dX8_locks_0 rfl (lv_at hl 0 rfl) ?_
  refine z_iload_n F dX8_locks_1 rfl (lv_at hl 1 rfl) ?_
  refine z_iconst F dX8_locks_2 ?_
  refine z_bxi hZ (va_runV (As := [.int (zI (x)), .int (zI (2))]) (rest := []) F (k_X8_get l w dom A hDA sz G hd x 2 (by omega)) (cwV 2 F.2.2.2.2 gX8_locks_X8_get rfl rfl rfl (by decide +kernel) ⟨Nat.le_of_ble_eq_true rfl, Nat.le_of_ble_eq_true rfl⟩) (z_preV hK hZ (64) (hd _ (by omega)) rfl (by decide) rfl _) rfl rfl hl.1 rfl (lv_room (Nat.le_of_ble_eq_true rfl)) dX8_locks_3 ⟨Nat.le_of_ble_eq_true rfl, Nat.le_of_ble_eq_true rfl⟩) (fun H locs hZ => ?_)
  have r_1 := hZ.2.1.1 (67) (20 * x + 2)
  refine z_if_eq (tgt := 20) F (by omega) dX8_locks_6 (by decide) (fun c_6 => ?_) (fun c_6 => ?_)
  · skip
    have e : locksM G x = none := by rw [locksM, if_pos (by omega)]
    refine z_iconst F dX8_locks_20 ?_
    exact z_zret F hr hlocks hZ (bI_0 (by rw [e]; exact fun q => by cases q)) (by omega) (by rw [e]; rfl) dX8_locks_21 (by omega) (by omega)
  · skip
    refine z_aload_n F dX8_locks_9 rfl (lv_at hl 0 rfl) ?_
    refine z_iload_n F dX8_locks_10 rfl (lv_at hl 1 rfl) ?_
    refine z_bipush F (by decide) dX8_locks_11 ?_
    refine z_bxi hZ (va_runV (As := [.int (zI (x)), .int (zI (8))]) (rest := []) F (k_X8_get l w dom A hDA sz G hd x 8 (by omega)) (cwV 2 F.2.2.2.2 gX8_locks_X8_get rfl rfl rfl (by decide +kernel) ⟨Nat.le_of_ble_eq_true rfl, Nat.le_of_ble_eq_true rfl⟩) (z_preV hK hZ (64) (hd _ (by omega)) rfl (by decide) rfl _) rfl rfl hl.1 rfl (lv_room (Nat.le_of_ble_eq_true rfl)) dX8_locks_13 ⟨Nat.le_of_ble_eq_true rfl, Nat.le_of_ble_eq_true rfl⟩) (fun H locs hZ => ?_)
    have r_2 := hZ.2.1.1 (67) (20 * x + 8)
    refine z_iconst F dX8_locks_16 ?_
    refine z_icmp_ne (tgt := 22) F (by omega) (by omega) dX8_locks_17 (by decide) (fun c_17 => ?_) (fun c_17 => ?_)
    · skip
      refine z_iconst F dX8_locks_22 ?_
      refine z_istore_n (lv' := [(2, .int (zI (0))), (0, .ref (w.2.1 + (64))), (1, .int (zI (x)))]) F dX8_locks_23 rfl hl (by decide) rfl (fun ls hl => ?_)
      have L_24 : ∀ (nf : Nat) (i : Nat), ((G 64 7).toNat + 1 ≤ i + nf) → (i ≤ (G 64 7).toNat) → (fstB (supP G x (G 67 (20 * x + 1)) 1) (G 64 7).toNat 0 = fstB (supP G x (G 67 (20 * x + 1)) 1) ((G 64 7).toNat - i) i) →  ∀ (H : Heap) (locs : List Loc) (ls : Array Slot), Zs w dom A s.heap sz G H locs → lv_has ls 4 [(0, .ref (w.2.1 + (64))), (1, .int (zI (x))), (2, .int (zI ((i : Int))))] → W p l e (headSpec wsX8_locks { frames := 2, cells := 0, slots := 0, locals := 52 }).room s m ([.ref (w.2.1 + (64)), .int (zI (x))] : List Value).toArray below meth c H locs (0 + 0 + 0) (0 + 0 + 0) (MQ below (zQi w dom sz (bI ((locksM G x).isSome = true)) (fun C => C = (locksM G x).getD G) A) ([.ref (w.2.1 + (64)), .int (zI (x))] : List Value).toArray s (0) (0) A) (F0 m 24 ls []) := by
        intro nf
        induction nf with
        | zero => intro i  h24_0 h24_1 h24_2; exact absurd h24_0 (by omega)
        | succ nf ih_24 =>
          intro i  h24_0 h24_1 h24_2 H locs ls hZ hl
          refine z_iload_n F dX8_locks_24 rfl (lv_at hl 2 rfl) ?_
          refine z_aload_n F dX8_locks_25 rfl (lv_at hl 0 rfl) ?_
          refine z_get F hK hZ (64) (hd _ (by omega)) rfl (by decide) rfl hin8 7 (by decide) mX8_locks_44 rfl rfl dX8_locks_26 ?_
          have r_3 := hZ.2.1.1 (64) (7)
          refine z_icmp_ge (tgt := 180) F (by omega) (by omega) dX8_locks_29 (by decide) (fun c_29 => ?_) (fun c_29 => ?_)
          · skip
            have e : locksM G x = none := by rw [locksM, if_neg (by omega), h24_2, show (G 64 7).toNat - i = 0 by omega]; rfl
            refine z_iconst F dX8_locks_180 ?_
            exact z_zret F hr hlocks hZ (bI_0 (by rw [e]; exact fun q => by cases q)) (by omega) (by rw [e]; rfl) dX8_locks_181 (by omega) (by omega)
          · skip
            have iL := let_rng hI (l := (i : Int)) (by omega)
            refine z_aload_n F dX8_locks_32 rfl (lv_at hl 0 rfl) ?_
            refine z_get F hK hZ (64) (hd _ (by omega)) rfl (by decide) rfl hin8 8 (by decide) mX8_locks_23 rfl rfl dX8_locks_33 ?_
            refine z_bipush F (by decide) dX8_locks_36 ?_
            refine z_iload_n F dX8_locks_38 rfl (lv_at hl 2 rfl) ?_
            refine z_imul F dX8_locks_39 ?_
            refine z_iconst F dX8_locks_40 ?_
            refine z_iadd F dX8_locks_41 ?_
            refine z_iald F hK hZ (69) (hd _ (by omega)) rfl (by decide) (by omega) (by omega) dX8_locks_42 ?_
            have r_4 := hZ.2.1.1 (69) (6 * ((i : Int)) + 4)
            refine z_istore_n (lv' := [(3, .int (zI (G (69) (6 * ((i : Int)) + 4)))), (0, .ref (w.2.1 + (64))), (1, .int (zI (x))), (2, .int (zI ((i : Int))))]) F dX8_locks_43 rfl hl (by decide) rfl (fun ls hl => ?_)
            refine z_aload_n F dX8_locks_44 rfl (lv_at hl 1 rfl) ?_
            refine z_iload_n F dX8_locks_45 rfl (lv_at hl 2 rfl) ?_
            refine z_iload_n F dX8_locks_46 rfl (lv_at hl 3 rfl) ?_
            refine z_bxi hZ (va_runV (As := [.int (zI (x)), .int (zI ((i : Int)))]) (rest := []) F (k_X8_proposes l w dom A hDA sz G hd (by omega) x i (by omega) (by omega) (by omega) (by omega)) (cwV 2 F.2.2.2.2 gX8_locks_X8_proposes rfl rfl rfl (by decide +kernel) ⟨Nat.le_of_ble_eq_true rfl, Nat.le_of_ble_eq_true rfl⟩) (z_preV hK hZ (64) (hd _ (by omega)) rfl (by decide) rfl _) rfl rfl hl.1 rfl (lv_room (Nat.le_of_ble_eq_true rfl)) dX8_locks_47 ⟨Nat.le_of_ble_eq_true rfl, Nat.le_of_ble_eq_true rfl⟩) (fun H locs hZ => ?_)
            refine z_ifB_eq (tgt := 174) F dX8_locks_50 (by decide) (fun c_50 => ?_) (fun c_50 => ?_)
            · skip
              refine z_iinc (k := 3) (z := (i : Int)) (lv' := [(2, .int (zI ((i : Int) + 1))), (3, .int (zI (G (69) (6 * ((i : Int)) + 4)))), (0, .ref (w.2.1 + (64))), (1, .int (zI (x)))]) F dX8_locks_174 hl rfl (by decide) rfl (fun ls hl => ?_)
              refine lv_goto (tgt := 24) F.1 F.2.1 dX8_locks_177 (by decide) ?_
              exact ih_24 (i + 1) (by omega) (by omega) (by rw [h24_2, fstB_f (by omega) (fun q => by simp only [supP, Bool.and_eq_true, decide_eq_true_eq] at q; unfold manyN at q; first | exact c_50 q.1.1.1 | exact c_79 q.1.2 | (have q1 := q.1.1.2; have q3 := q.2; omega)), show (G 64 7).toNat - i - 1 = (G 64 7).toNat - (i + 1) by omega]) _ _ _ hZ (lv_sub hl [2, 3, 0] rfl)
            · skip
              refine z_aload_n F dX8_locks_53 rfl (lv_at hl 1 rfl) ?_
              refine z_get F hK hZ (64) (hd _ (by omega)) rfl (by decide) rfl hin8 8 (by decide) mX8_locks_23 rfl rfl dX8_locks_54 ?_
              refine z_bipush F (by decide) dX8_locks_57 ?_
              refine z_iload_n F dX8_locks_59 rfl (lv_at hl 3 rfl) ?_
              refine z_imul F dX8_locks_60 ?_
              refine z_iconst F dX8_locks_61 ?_
              refine z_iadd F dX8_locks_62 ?_
              refine z_iald F hK hZ (69) (hd _ (by omega)) rfl (by decide) (by omega) (by omega) dX8_locks_63 ?_
              have r_5 := hZ.2.1.1 (69) (6 * ((i : Int)) + 3)
              refine z_aload_n F dX8_locks_64 rfl (lv_at hl 1 rfl) ?_
              refine z_iload_n F dX8_locks_65 rfl (lv_at hl 2 rfl) ?_
              refine z_iconst F dX8_locks_66 ?_
              refine z_bxi hZ (va_runV (As := [.int (zI (x)), .int (zI (1))]) (rest := [.int (zI (G (69) (6 * ((i : Int)) + 3)))]) F (k_X8_get l w dom A hDA sz G hd x 1 (by omega)) (cwV 2 F.2.2.2.2 gX8_locks_X8_get rfl rfl rfl (by decide +kernel) ⟨Nat.le_of_ble_eq_true rfl, Nat.le_of_ble_eq_true rfl⟩) (z_preV hK hZ (64) (hd _ (by omega)) rfl (by decide) rfl _) rfl rfl hl.1 rfl (lv_room (Nat.le_of_ble_eq_true rfl)) dX8_locks_67 ⟨Nat.le_of_ble_eq_true rfl, Nat.le_of_ble_eq_true rfl⟩) (fun H locs hZ => ?_)
              have r_6 := hZ.2.1.1 (67) (20 * x + 1)
              refine z_icmp_ne (tgt := 174) F (by omega) (by omega) dX8_locks_70 (by decide) (fun c_70 => ?_) (fun c_70 => ?_)
              · skip
                refine z_iinc (k := 3) (z := (i : Int)) (lv' := [(2, .int (zI ((i : Int) + 1))), (3, .int (zI (G (69) (6 * ((i : Int)) + 4)))), (0, .ref (w.2.1 + (64))), (1, .int (zI (x)))]) F dX8_locks_174 hl rfl (by decide) rfl (fun ls hl => ?_)
                refine lv_goto (tgt := 24) F.1 F.2.1 dX8_locks_177 (by decide) ?_
                exact ih_24 (i + 1) (by omega) (by omega) (by rw [h24_2, fstB_f (by omega) (fun q => by simp only [supP, Bool.and_eq_true, decide_eq_true_eq] at q; unfold manyN at q; first | exact c_50 q.1.1.1 | exact c_79 q.1.2 | (have q1 := q.1.1.2; have q3 := q.2; omega)), show (G 64 7).toNat - i - 1 = (G 64 7).toNat - (i + 1) by omega]) _ _ _ hZ (lv_sub hl [2, 3, 0] rfl)
              · skip
                refine z_aload_n F dX8_locks_73 rfl (lv_at hl 1 rfl) ?_
                refine z_iload_n F dX8_locks_74 rfl (lv_at hl 2 rfl) ?_
                refine z_iload_n F dX8_locks_75 rfl (lv_at hl 0 rfl) ?_
                refine z_bxi hZ (va_runV (As := [.int (zI (x)), .int (zI (G (69) (6 * ((i : Int)) + 4)))]) (rest := []) F (k_X8_isRight l w dom A hDA sz G hd x (G (69) (6 * ((i : Int)) + 4)) (by omega) (by omega)) (cwV 2 F.2.2.2.2 gX8_locks_X8_isRight rfl rfl rfl (by decide +kernel) ⟨Nat.le_of_ble_eq_true rfl, Nat.le_of_ble_eq_true rfl⟩) (z_preV hK hZ (64) (hd _ (by omega)) rfl (by decide) rfl _) rfl rfl hl.1 rfl (lv_room (Nat.le_of_ble_eq_true rfl)) dX8_locks_76 ⟨Nat.le_of_ble_eq_true rfl, Nat.le_of_ble_eq_true rfl⟩) (fun H locs hZ => ?_)
                refine z_ifB_eq (tgt := 174) F dX8_locks_79 (by decide) (fun c_79 => ?_) (fun c_79 => ?_)
                · skip
                  refine z_iinc (k := 3) (z := (i : Int)) (lv' := [(2, .int (zI ((i : Int) + 1))), (3, .int (zI (G (69) (6 * ((i : Int)) + 4)))), (0, .ref (w.2.1 + (64))), (1, .int (zI (x)))]) F dX8_locks_174 hl rfl (by decide) rfl (fun ls hl => ?_)
                  refine lv_goto (tgt := 24) F.1 F.2.1 dX8_locks_177 (by decide) ?_
                  exact ih_24 (i + 1) (by omega) (by omega) (by rw [h24_2, fstB_f (by omega) (fun q => by simp only [supP, Bool.and_eq_true, decide_eq_true_eq] at q; unfold manyN at q; first | exact c_50 q.1.1.1 | exact c_79 q.1.2 | (have q1 := q.1.1.2; have q3 := q.2; omega)), show (G 64 7).toNat - i - 1 = (G 64 7).toNat - (i + 1) by omega]) _ _ _ hZ (lv_sub hl [2, 3, 0] rfl)
                · skip
                  refine z_aload_n F dX8_locks_82 rfl (lv_at hl 1 rfl) ?_
                  refine z_iload_n F dX8_locks_83 rfl (lv_at hl 2 rfl) ?_
                  refine z_iconst F dX8_locks_84 ?_
                  refine z_aload_n F dX8_locks_85 rfl (lv_at hl 1 rfl) ?_
                  refine z_iload_n F dX8_locks_86 rfl (lv_at hl 2 rfl) ?_
                  refine z_iconst F dX8_locks_87 ?_
                  refine z_bxi hZ (va_runV (As := [.int (zI (x)), .int (zI (0))]) (rest := [.int (zI (1)), .int (zI (x)), .ref (w.2.1 + (64))]) F (k_X8_get l w dom A hDA sz G hd x 0 (by omega)) (cwV 2 F.2.2.2.2 gX8_locks_X8_get rfl rfl rfl (by decide +kernel) ⟨Nat.le_of_ble_eq_true rfl, Nat.le_of_ble_eq_true rfl⟩) (z_preV hK hZ (64) (hd _ (by omega)) rfl (by decide) rfl _) rfl rfl hl.1 rfl (lv_room (Nat.le_of_ble_eq_true rfl)) dX8_locks_88 ⟨Nat.le_of_ble_eq_true rfl, Nat.le_of_ble_eq_true rfl⟩) (fun H locs hZ => ?_)
                  have r_7 := hZ.2.1.1 (67) (20 * x + 0)
                  refine z_aload_n F dX8_locks_91 rfl (lv_at hl 1 rfl) ?_
                  refine z_iload_n F dX8_locks_92 rfl (lv_at hl 2 rfl) ?_
                  refine z_iconst F dX8_locks_93 ?_
                  refine z_bxi hZ (va_runV (As := [.int (zI (x)), .int (zI (1))]) (rest := [.int (zI (G 67 (20 * x + 0))), .int (zI (1)), .int (zI (x)), .ref (w.2.1 + (64))]) F (k_X8_get l w dom A hDA sz G hd x 1 (by omega)) (cwV 2 F.2.2.2.2 gX8_locks_X8_get rfl rfl rfl (by decide +kernel) ⟨Nat.le_of_ble_eq_true rfl, Nat.le_of_ble_eq_true rfl⟩) (z_preV hK hZ (64) (hd _ (by omega)) rfl (by decide) rfl _) rfl rfl hl.1 rfl (lv_room (Nat.le_of_ble_eq_true rfl)) dX8_locks_94 ⟨Nat.le_of_ble_eq_true rfl, Nat.le_of_ble_eq_true rfl⟩) (fun H locs hZ => ?_)
                  have r_8 := hZ.2.1.1 (67) (20 * x + 1)
                  refine z_iload_n F dX8_locks_97 rfl (lv_at hl 0 rfl) ?_
                  refine z_bxi hZ (va_runV (As := [.int (zI (x)), .int (zI (1)), .int (zI (G 67 (20 * x + 0))), .int (zI (G 67 (20 * x + 1))), .int (zI (G (69) (6 * ((i : Int)) + 4)))]) (rest := []) F (k_X8_voted l w dom A hDA sz G hd (by omega) x 1 (G 67 (20 * x + 0)) (G 67 (20 * x + 1)) (G (69) (6 * ((i : Int)) + 4)) (by omega) (by omega) (by omega) (by omega) (by omega) (by omega)) (cwV 5 F.2.2.2.2 gX8_locks_X8_voted rfl rfl rfl (by decide +kernel) ⟨Nat.le_of_ble_eq_true rfl, Nat.le_of_ble_eq_true rfl⟩) (z_preV hK hZ (64) (hd _ (by omega)) rfl (by decide) rfl _) rfl rfl hl.1 rfl (lv_room (Nat.le_of_ble_eq_true rfl)) dX8_locks_98 ⟨Nat.le_of_ble_eq_true rfl, Nat.le_of_ble_eq_true rfl⟩) (fun H locs hZ => ?_)
                  have r_9 := voteN_rng G x 1 (G 67 (20 * x + 0)) (G 67 (20 * x + 1)) (G (69) (6 * ((i : Int)) + 4))
                  refine z_aload_n F dX8_locks_101 rfl (lv_at hl 1 rfl) ?_
                  refine z_bxi hZ (va_runV (As := []) (rest := [.int (zI (voteN G x 1 (G 67 (20 * x + 0)) (G 67 (20 * x + 1)) (G (69) (6 * ((i : Int)) + 4))))]) F (k_X8_many l w dom A hDA sz G hd (by omega)) (cwV 0 F.2.2.2.2 gX8_locks_X8_many rfl rfl rfl (by decide +kernel) ⟨Nat.le_of_ble_eq_true rfl, Nat.le_of_ble_eq_true rfl⟩) (z_preV hK hZ (64) (hd _ (by omega)) rfl (by decide) rfl _) rfl rfl hl.1 rfl (lv_room (Nat.le_of_ble_eq_true rfl)) dX8_locks_102 ⟨Nat.le_of_ble_eq_true rfl, Nat.le_of_ble_eq_true rfl⟩) (fun H locs hZ => ?_)
                  refine z_icmp_lt (tgt := 174) F (by omega) (by omega) dX8_locks_105 (by decide) (fun c_105 => ?_) (fun c_105 => ?_)
                  · skip
                    refine z_iinc (k := 3) (z := (i : Int)) (lv' := [(2, .int (zI ((i : Int) + 1))), (3, .int (zI (G (69) (6 * ((i : Int)) + 4)))), (0, .ref (w.2.1 + (64))), (1, .int (zI (x)))]) F dX8_locks_174 hl rfl (by decide) rfl (fun ls hl => ?_)
                    refine lv_goto (tgt := 24) F.1 F.2.1 dX8_locks_177 (by decide) ?_
                    exact ih_24 (i + 1) (by omega) (by omega) (by rw [h24_2, fstB_f (by omega) (fun q => by simp only [supP, Bool.and_eq_true, decide_eq_true_eq] at q; unfold manyN at q; first | exact c_50 q.1.1.1 | exact c_79 q.1.2 | (have q1 := q.1.1.2; have q3 := q.2; omega)), show (G 64 7).toNat - i - 1 = (G 64 7).toNat - (i + 1) by omega]) _ _ _ hZ (lv_sub hl [2, 3, 0] rfl)
                  · skip
                    refine z_aload_n F dX8_locks_108 rfl (lv_at hl 1 rfl) ?_
                    refine z_iload_n F dX8_locks_109 rfl (lv_at hl 2 rfl) ?_
                    refine z_bipush F (by decide) dX8_locks_110 ?_
                    refine z_iconst F dX8_locks_112 ?_
                    refine z_bxv hZ (va_runV (As := [.int (zI (x)), .int (zI (8)), .int (zI (1))]) (rest := []) F (k_X8_set l w dom A hDA sz G hd x 8 1 (by omega) (by omega)) (cwV 3 F.2.2.2.2 gX8_locks_X8_set rfl rfl rfl (by decide +kernel) ⟨Nat.le_of_ble_eq_true rfl, Nat.le_of_ble_eq_true rfl⟩) (z_preV hK hZ (64) (hd _ (by omega)) rfl (by decide) rfl _) rfl rfl hl.1 rfl (lv_room (Nat.le_of_ble_eq_true rfl)) dX8_locks_113 ⟨Nat.le_of_ble_eq_true rfl, Nat.le_of_ble_eq_true rfl⟩) (fun H locs hZ => ?_)
                    refine z_aload_n F dX8_locks_116 rfl (lv_at hl 1 rfl) ?_
                    refine z_iload_n F dX8_locks_117 rfl (lv_at hl 2 rfl) ?_
                    refine z_iconst F dX8_locks_118 ?_
                    refine z_bxi hZ (va_runV (As := [.int (zI (x)), .int (zI (2))]) (rest := []) F (k_X8_get l w dom A hDA sz (setM G x 8 1) hd x 2 (by omega)) (cwV 2 F.2.2.2.2 gX8_locks_X8_get rfl rfl rfl (by decide +kernel) ⟨Nat.le_of_ble_eq_true rfl, Nat.le_of_ble_eq_true rfl⟩) (z_preV hK hZ (64) (hd _ (by omega)) rfl (by decide) rfl _) rfl rfl hl.1 rfl (lv_room (Nat.le_of_ble_eq_true rfl)) dX8_locks_119 ⟨Nat.le_of_ble_eq_true rfl, Nat.le_of_ble_eq_true rfl⟩) (fun H locs hZ => ?_)
                    have r_10 := hZ.2.1.1 (67) (20 * x + 2)
                    have e_11 : (setM G x 8 1) 67 (20 * x + 2) = G 67 (20 * x + 2) := by rw [setM_ne _ _ _ _ _ (by omega)]
                    refine z_topI e_11 ?_
                    refine z_iconst F dX8_locks_122 ?_
                    refine z_icmp_ne (tgt := 152) F (by omega) (by omega) dX8_locks_123 (by decide) (fun c_123 => ?_) (fun c_123 => ?_)
                    · skip
                      refine z_aload_n F dX8_locks_152 rfl (lv_at hl 1 rfl) ?_
                      refine z_iload_n F dX8_locks_153 rfl (lv_at hl 2 rfl) ?_
                      refine z_iconst F dX8_locks_154 ?_
                      refine z_iload_n F dX8_locks_155 rfl (lv_at hl 0 rfl) ?_
                      refine z_bxv hZ (va_runV (As := [.int (zI (x)), .int (zI (5)), .int (zI (G (69) (6 * ((i : Int)) + 4)))]) (rest := []) F (k_X8_set l w dom A hDA sz (setM G x 8 1) hd x 5 (G (69) (6 * ((i : Int)) + 4)) (by omega) (by omega)) (cwV 3 F.2.2.2.2 gX8_locks_X8_set rfl rfl rfl (by decide +kernel) ⟨Nat.le_of_ble_eq_true rfl, Nat.le_of_ble_eq_true rfl⟩) (z_preV hK hZ (64) (hd _ (by omega)) rfl (by decide) rfl _) rfl rfl hl.1 rfl (lv_room (Nat.le_of_ble_eq_true rfl)) dX8_locks_156 ⟨Nat.le_of_ble_eq_true rfl, Nat.le_of_ble_eq_true rfl⟩) (fun H locs hZ => ?_)
                      refine z_aload_n F dX8_locks_159 rfl (lv_at hl 1 rfl) ?_
                      refine z_iload_n F dX8_locks_160 rfl (lv_at hl 2 rfl) ?_
                      refine z_bipush F (by decide) dX8_locks_161 ?_
                      refine z_aload_n F dX8_locks_163 rfl (lv_at hl 1 rfl) ?_
                      refine z_iload_n F dX8_locks_164 rfl (lv_at hl 2 rfl) ?_
                      refine z_iconst F dX8_locks_165 ?_
                      refine z_bxi hZ (va_runV (As := [.int (zI (x)), .int (zI (1))]) (rest := [.int (zI (6)), .int (zI (x)), .ref (w.2.1 + (64))]) F (k_X8_get l w dom A hDA sz (setM (setM G x 8 1) x 5 (G (69) (6 * ((i : Int)) + 4))) hd x 1 (by omega)) (cwV 2 F.2.2.2.2 gX8_locks_X8_get rfl rfl rfl (by decide +kernel) ⟨Nat.le_of_ble_eq_true rfl, Nat.le_of_ble_eq_true rfl⟩) (z_preV hK hZ (64) (hd _ (by omega)) rfl (by decide) rfl _) rfl rfl hl.1 rfl (lv_room (Nat.le_of_ble_eq_true rfl)) dX8_locks_166 ⟨Nat.le_of_ble_eq_true rfl, Nat.le_of_ble_eq_true rfl⟩) (fun H locs hZ => ?_)
                      have r_12 := hZ.2.1.1 (67) (20 * x + 1)
                      have e_13 : (setM (setM G x 8 1) x 5 (G (69) (6 * ((i : Int)) + 4))) 67 (20 * x + 1) = G 67 (20 * x + 1) := by rw [setM_ne _ _ _ _ _ (by omega), setM_ne _ _ _ _ _ (by omega)]
                      refine z_topI e_13 ?_
                      refine z_bxv hZ (va_runV (As := [.int (zI (x)), .int (zI (6)), .int (zI (G 67 (20 * x + 1)))]) (rest := []) F (k_X8_set l w dom A hDA sz (setM (setM G x 8 1) x 5 (G (69) (6 * ((i : Int)) + 4))) hd x 6 (G 67 (20 * x + 1)) (by omega) (by omega)) (cwV 3 F.2.2.2.2 gX8_locks_X8_set rfl rfl rfl (by decide +kernel) ⟨Nat.le_of_ble_eq_true rfl, Nat.le_of_ble_eq_true rfl⟩) (z_preV hK hZ (64) (hd _ (by omega)) rfl (by decide) rfl _) rfl rfl hl.1 rfl (lv_room (Nat.le_of_ble_eq_true rfl)) dX8_locks_169 ⟨Nat.le_of_ble_eq_true rfl, Nat.le_of_ble_eq_true rfl⟩) (fun H locs hZ => ?_)
                      have e : locksM G x = some (setM (setM (setM G x 8 1) x 5 (G (69) (6 * ((i : Int)) + 4))) x 6 (G 67 (20 * x + 1))) := by rw [locksM, if_neg (by omega), h24_2, fstB_t (by omega) (by simp only [supP, Bool.and_eq_true, decide_eq_true_eq]; unfold manyN; exact ⟨⟨⟨c_50, by omega⟩, c_79⟩, by omega⟩)]; simp only [doLockM]; first | rw [if_pos (by omega)] | rw [if_neg (by omega)]
                      refine z_iconst F dX8_locks_172 ?_
                      exact z_zret F hr hlocks hZ (bI_1 (by rw [e]; rfl)) (by omega) (by rw [e]; rfl) dX8_locks_173 (by omega) (by omega)
                    · skip
                      refine z_aload_n F dX8_locks_126 rfl (lv_at hl 1 rfl) ?_
                      refine z_iload_n F dX8_locks_127 rfl (lv_at hl 2 rfl) ?_
                      refine z_iconst F dX8_locks_128 ?_
                      refine z_iload_n F dX8_locks_129 rfl (lv_at hl 0 rfl) ?_
                      refine z_bxv hZ (va_runV (As := [.int (zI (x)), .int (zI (3)), .int (zI (G (69) (6 * ((i : Int)) + 4)))]) (rest := []) F (k_X8_set l w dom A hDA sz (setM G x 8 1) hd x 3 (G (69) (6 * ((i : Int)) + 4)) (by omega) (by omega)) (cwV 3 F.2.2.2.2 gX8_locks_X8_set rfl rfl rfl (by decide +kernel) ⟨Nat.le_of_ble_eq_true rfl, Nat.le_of_ble_eq_true rfl⟩) (z_preV hK hZ (64) (hd _ (by omega)) rfl (by decide) rfl _) rfl rfl hl.1 rfl (lv_room (Nat.le_of_ble_eq_true rfl)) dX8_locks_130 ⟨Nat.le_of_ble_eq_true rfl, Nat.le_of_ble_eq_true rfl⟩) (fun H locs hZ => ?_)
                      refine z_aload_n F dX8_locks_133 rfl (lv_at hl 1 rfl) ?_
                      refine z_iload_n F dX8_locks_134 rfl (lv_at hl 2 rfl) ?_
                      refine z_iconst F dX8_locks_135 ?_
                      refine z_aload_n F dX8_locks_136 rfl (lv_at hl 1 rfl) ?_
                      refine z_iload_n F dX8_locks_137 rfl (lv_at hl 2 rfl) ?_
                      refine z_iconst F dX8_locks_138 ?_
                      refine z_bxi hZ (va_runV (As := [.int (zI (x)), .int (zI (1))]) (rest := [.int (zI (4)), .int (zI (x)), .ref (w.2.1 + (64))]) F (k_X8_get l w dom A hDA sz (setM (setM G x 8 1) x 3 (G (69) (6 * ((i : Int)) + 4))) hd x 1 (by omega)) (cwV 2 F.2.2.2.2 gX8_locks_X8_get rfl rfl rfl (by decide +kernel) ⟨Nat.le_of_ble_eq_true rfl, Nat.le_of_ble_eq_true rfl⟩) (z_preV hK hZ (64) (hd _ (by omega)) rfl (by decide) rfl _) rfl rfl hl.1 rfl (lv_room (Nat.le_of_ble_eq_true rfl)) dX8_locks_139 ⟨Nat.le_of_ble_eq_true rfl, Nat.le_of_ble_eq_true rfl⟩) (fun H locs hZ => ?_)
                      have r_14 := hZ.2.1.1 (67) (20 * x + 1)
                      have e_15 : (setM (setM G x 8 1) x 3 (G (69) (6 * ((i : Int)) + 4))) 67 (20 * x + 1) = G 67 (20 * x + 1) := by rw [setM_ne _ _ _ _ _ (by omega), setM_ne _ _ _ _ _ (by omega)]
                      refine z_topI e_15 ?_
                      refine z_bxv hZ (va_runV (As := [.int (zI (x)), .int (zI (4)), .int (zI (G 67 (20 * x + 1)))]) (rest := []) F (k_X8_set l w dom A hDA sz (setM (setM G x 8 1) x 3 (G (69) (6 * ((i : Int)) + 4))) hd x 4 (G 67 (20 * x + 1)) (by omega) (by omega)) (cwV 3 F.2.2.2.2 gX8_locks_X8_set rfl rfl rfl (by decide +kernel) ⟨Nat.le_of_ble_eq_true rfl, Nat.le_of_ble_eq_true rfl⟩) (z_preV hK hZ (64) (hd _ (by omega)) rfl (by decide) rfl _) rfl rfl hl.1 rfl (lv_room (Nat.le_of_ble_eq_true rfl)) dX8_locks_142 ⟨Nat.le_of_ble_eq_true rfl, Nat.le_of_ble_eq_true rfl⟩) (fun H locs hZ => ?_)
                      refine z_aload_n F dX8_locks_145 rfl (lv_at hl 1 rfl) ?_
                      refine z_iload_n F dX8_locks_146 rfl (lv_at hl 2 rfl) ?_
                      refine z_iconst F dX8_locks_147 ?_
                      refine z_iload_n F dX8_locks_148 rfl (lv_at hl 0 rfl) ?_
                      have n_16 : (setM (setM (setM G x 8 1) x 3 (G (69) (6 * ((i : Int)) + 4))) x 4 (G 67 (20 * x + 1))) 64 0 = G 64 0 := rfl
                      have n_17 : (setM (setM (setM G x 8 1) x 3 (G (69) (6 * ((i : Int)) + 4))) x 4 (G 67 (20 * x + 1))) 64 7 = G 64 7 := rfl
                      have n_18 : (setM (setM (setM G x 8 1) x 3 (G (69) (6 * ((i : Int)) + 4))) x 4 (G 67 (20 * x + 1))) 67 (20 * x + 0) = G 67 (20 * x + 0) := by rw [setM_ne _ _ _ _ _ (by omega), setM_ne _ _ _ _ _ (by omega), setM_ne _ _ _ _ _ (by omega)]
                      have n_19 : (setM (setM (setM G x 8 1) x 3 (G (69) (6 * ((i : Int)) + 4))) x 4 (G 67 (20 * x + 1))) 67 (20 * x + 1) = G 67 (20 * x + 1) := by rw [setM_ne _ _ _ _ _ (by omega), setM_ne _ _ _ _ _ (by omega), setM_ne _ _ _ _ _ (by omega)]
                      refine z_bxv hZ (va_runV (As := [.int (zI (x)), .int (zI (2)), .int (zI (G (69) (6 * ((i : Int)) + 4)))]) (rest := []) F (k_X8_casts l w dom A hDA sz (setM (setM (setM G x 8 1) x 3 (G (69) (6 * ((i : Int)) + 4))) x 4 (G 67 (20 * x + 1))) hd x 2 (G (69) (6 * ((i : Int)) + 4)) (by omega) (by omega) (by omega) (by omega)) (cwV 3 F.2.2.2.2 gX8_locks_X8_casts rfl rfl rfl (by decide +kernel) ⟨Nat.le_of_ble_eq_true rfl, Nat.le_of_ble_eq_true rfl⟩) (z_preV hK hZ (64) (hd _ (by omega)) rfl (by decide) rfl _) rfl rfl hl.1 rfl (lv_room (Nat.le_of_ble_eq_true rfl)) dX8_locks_149 ⟨Nat.le_of_ble_eq_true rfl, Nat.le_of_ble_eq_true rfl⟩) (fun H locs hZ => ?_)
                      refine z_aload_n F dX8_locks_152 rfl (lv_at hl 1 rfl) ?_
                      refine z_iload_n F dX8_locks_153 rfl (lv_at hl 2 rfl) ?_
                      refine z_iconst F dX8_locks_154 ?_
                      refine z_iload_n F dX8_locks_155 rfl (lv_at hl 0 rfl) ?_
                      refine z_bxv hZ (va_runV (As := [.int (zI (x)), .int (zI (5)), .int (zI (G (69) (6 * ((i : Int)) + 4)))]) (rest := []) F (k_X8_set l w dom A hDA sz (castsM (setM (setM (setM G x 8 1) x 3 (G (69) (6 * ((i : Int)) + 4))) x 4 (G 67 (20 * x + 1))) x 2 (G (69) (6 * ((i : Int)) + 4))) hd x 5 (G (69) (6 * ((i : Int)) + 4)) (by omega) (by omega)) (cwV 3 F.2.2.2.2 gX8_locks_X8_set rfl rfl rfl (by decide +kernel) ⟨Nat.le_of_ble_eq_true rfl, Nat.le_of_ble_eq_true rfl⟩) (z_preV hK hZ (64) (hd _ (by omega)) rfl (by decide) rfl _) rfl rfl hl.1 rfl (lv_room (Nat.le_of_ble_eq_true rfl)) dX8_locks_156 ⟨Nat.le_of_ble_eq_true rfl, Nat.le_of_ble_eq_true rfl⟩) (fun H locs hZ => ?_)
                      refine z_aload_n F dX8_locks_159 rfl (lv_at hl 1 rfl) ?_
                      refine z_iload_n F dX8_locks_160 rfl (lv_at hl 2 rfl) ?_
                      refine z_bipush F (by decide) dX8_locks_161 ?_
                      refine z_aload_n F dX8_locks_163 rfl (lv_at hl 1 rfl) ?_
                      refine z_iload_n F dX8_locks_164 rfl (lv_at hl 2 rfl) ?_
                      refine z_iconst F dX8_locks_165 ?_
                      refine z_bxi hZ (va_runV (As := [.int (zI (x)), .int (zI (1))]) (rest := [.int (zI (6)), .int (zI (x)), .ref (w.2.1 + (64))]) F (k_X8_get l w dom A hDA sz (setM (castsM (setM (setM (setM G x 8 1) x 3 (G (69) (6 * ((i : Int)) + 4))) x 4 (G 67 (20 * x + 1))) x 2 (G (69) (6 * ((i : Int)) + 4))) x 5 (G (69) (6 * ((i : Int)) + 4))) hd x 1 (by omega)) (cwV 2 F.2.2.2.2 gX8_locks_X8_get rfl rfl rfl (by decide +kernel) ⟨Nat.le_of_ble_eq_true rfl, Nat.le_of_ble_eq_true rfl⟩) (z_preV hK hZ (64) (hd _ (by omega)) rfl (by decide) rfl _) rfl rfl hl.1 rfl (lv_room (Nat.le_of_ble_eq_true rfl)) dX8_locks_166 ⟨Nat.le_of_ble_eq_true rfl, Nat.le_of_ble_eq_true rfl⟩) (fun H locs hZ => ?_)
                      have r_20 := hZ.2.1.1 (67) (20 * x + 1)
                      have e_21 : (setM (castsM (setM (setM (setM G x 8 1) x 3 (G (69) (6 * ((i : Int)) + 4))) x 4 (G 67 (20 * x + 1))) x 2 (G (69) (6 * ((i : Int)) + 4))) x 5 (G (69) (6 * ((i : Int)) + 4))) 67 (20 * x + 1) = G 67 (20 * x + 1) := by rw [setM_ne _ _ _ _ _ (by omega), castsM_ne _ _ _ _ _ (by omega), setM_ne _ _ _ _ _ (by omega), setM_ne _ _ _ _ _ (by omega), setM_ne _ _ _ _ _ (by omega)]
                      refine z_topI e_21 ?_
                      refine z_bxv hZ (va_runV (As := [.int (zI (x)), .int (zI (6)), .int (zI (G 67 (20 * x + 1)))]) (rest := []) F (k_X8_set l w dom A hDA sz (setM (castsM (setM (setM (setM G x 8 1) x 3 (G (69) (6 * ((i : Int)) + 4))) x 4 (G 67 (20 * x + 1))) x 2 (G (69) (6 * ((i : Int)) + 4))) x 5 (G (69) (6 * ((i : Int)) + 4))) hd x 6 (G 67 (20 * x + 1)) (by omega) (by omega)) (cwV 3 F.2.2.2.2 gX8_locks_X8_set rfl rfl rfl (by decide +kernel) ⟨Nat.le_of_ble_eq_true rfl, Nat.le_of_ble_eq_true rfl⟩) (z_preV hK hZ (64) (hd _ (by omega)) rfl (by decide) rfl _) rfl rfl hl.1 rfl (lv_room (Nat.le_of_ble_eq_true rfl)) dX8_locks_169 ⟨Nat.le_of_ble_eq_true rfl, Nat.le_of_ble_eq_true rfl⟩) (fun H locs hZ => ?_)
                      have e : locksM G x = some (setM (setM (castsM (setM (setM (setM G x 8 1) x 3 (G (69) (6 * ((i : Int)) + 4))) x 4 (G 67 (20 * x + 1))) x 2 (G (69) (6 * ((i : Int)) + 4))) x 5 (G (69) (6 * ((i : Int)) + 4))) x 6 (G 67 (20 * x + 1))) := by rw [locksM, if_neg (by omega), h24_2, fstB_t (by omega) (by simp only [supP, Bool.and_eq_true, decide_eq_true_eq]; unfold manyN; exact ⟨⟨⟨c_50, by omega⟩, c_79⟩, by omega⟩)]; simp only [doLockM]; first | rw [if_pos (by omega)] | rw [if_neg (by omega)]
                      refine z_iconst F dX8_locks_172 ?_
                      exact z_zret F hr hlocks hZ (bI_1 (by rw [e]; rfl)) (by omega) (by rw [e]; rfl) dX8_locks_173 (by omega) (by omega)
      exact L_24 ((G 64 7).toNat + 1) 0 (by omega) (by omega) rfl _ _ _ hZ (lv_sub hl [1, 2, 0] rfl)
    · skip
      have e : locksM G x = none := by rw [locksM, if_pos (by omega)]
      refine z_iconst F dX8_locks_20 ?_
      exact z_zret F hr hlocks hZ (bI_0 (by rw [e]; exact fun q => by cases q)) (by omega) (by rw [e]; rfl) dX8_locks_21 (by omega) (by omega)

set_option maxHeartbeats 4000000 in
set_option maxRecDepth 100000 in
theorem k_X8_precommitsNil (l : Launch) (w : zW) (dom : Nat → Prop) (A : Nat → Prop) (hDA : ∀ i, dom i → A (w.2.1 + i)) (sz : Nat) (G : zM) (hd : ∀ i, 64 ≤ i ∧ i < 71 → dom i) (hI : Inv G) (x : Int) (h0 : 0 ≤ x ∧ x < 7) : Met l yX8_precommitsNil wsX8_precommitsNil { frames := 2, cells := 0, slots := 0, locals := 52 } (zPre w dom sz G [.ref (w.2.1 + (64)), .int (zI (x))]) (zQi w dom sz (bI ((nilM G x).isSome = true)) (fun C => C = (nilM G x).getD G) A) (0) (0) A := by
  refine Met.ofW (cc := cX8_precommitsNil) (maxL := 3) (ret := (some .boolean)) (by decide) rfl ?_
  intro p e s m args below meth c s₁ B hml hv
  obtain ⟨rfl, hsz, hP, hK⟩ := hv
  have F : CallFix p m c cX8_precommitsNil 3 s _ wsX8_precommitsNil RX8 := ⟨B.exec, B.bytes, hml, findClass_of_methodNamed B.named, atoms_spec (ws := wsX8_precommitsNil) B.pre⟩
  have hr := B.returns
  have hlocks := B.notSynchronized
  have hZ : Zs w dom A s.heap sz G s.heap [] := ⟨hsz, hP, va_S.rf⟩
  have hl := lv_entry ([.ref (w.2.1 + (64)), .int (zI (x))]) (n := 3) (Nat.le_of_ble_eq_true rfl)
  rw [lg_entry_eq]
  generalize (lg_sl ([.ref (w.2.1 + (64)), .int (zI (x))]) ++ List.replicate (3 - (lg_sl ([.ref (w.2.1 + (64)), .int (zI (x))])).length) Slot.unset).toArray = ls at hl ⊢
  have hl : lv_has ls 3 [(0, .ref (w.2.1 + (64))), (1, .int (zI (x)))] := hl
  have hn := hI.1
  have hL := hI.2.2.2.1
  have iS := seat_rng hI h0
  refine z_aload_n F dX8_precommitsNil_0 rfl (lv_at hl 0 rfl) ?_
  refine z_iload_n F dX8_precommitsNil_1 rfl (lv_at hl 1 rfl) ?_
  refine z_iconst F dX8_precommitsNil_2 ?_
  refine z_bxi hZ (va_runV (As := [.int (zI (x)), .int (zI (2))]) (rest := []) F (k_X8_get l w dom A hDA sz G hd x 2 (by omega)) (cwV 2 F.2.2.2.2 gX8_precommitsNil_X8_get rfl rfl rfl (by decide +kernel) ⟨Nat.le_of_ble_eq_true rfl, Nat.le_of_ble_eq_true rfl⟩) (z_preV hK hZ (64) (hd _ (by omega)) rfl (by decide) rfl _) rfl rfl hl.1 rfl (lv_room (Nat.le_of_ble_eq_true rfl)) dX8_precommitsNil_3 ⟨Nat.le_of_ble_eq_true rfl, Nat.le_of_ble_eq_true rfl⟩) (fun H locs hZ => ?_)
  have r_1 := hZ.2.1.1 (67) (20 * x + 2)
  refine z_iconst F dX8_precommitsNil_6 ?_
  refine z_icmp_ne (tgt := 40) F (by omega) (by omega) dX8_precommitsNil_7 (by decide) (fun c_7 => ?_) (fun c_7 => ?_)
  · skip
    refine z_iconst F dX8_precommitsNil_40 ?_
    refine z_istore_n (lv' := [(2, .int (zI (0))), (0, .ref (w.2.1 + (64))), (1, .int (zI (x)))]) F dX8_precommitsNil_41 rfl hl (by decide) rfl (fun ls hl => ?_)
    refine z_iload_n F dX8_precommitsNil_42 rfl (lv_at hl 0 rfl) ?_
    refine z_if_eq (tgt := 53) F (by omega) dX8_precommitsNil_43 (by decide) (fun c_43 => ?_) (fun c_43 => ?_)
    · skip
      have e : nilM G x = none := by rw [nilM, if_neg (by simp only [manyN]; omega)]
      refine z_iload_n F dX8_precommitsNil_53 rfl (lv_at hl 0 rfl) ?_
      exact z_zret F hr hlocks hZ (bI_0 (by rw [e]; exact fun q => by cases q)) (by omega) (by rw [e]; rfl) dX8_precommitsNil_54 (by omega) (by omega)
    · skip
      exfalso; omega
  · skip
    refine z_aload_n F dX8_precommitsNil_10 rfl (lv_at hl 0 rfl) ?_
    refine z_iload_n F dX8_precommitsNil_11 rfl (lv_at hl 1 rfl) ?_
    refine z_iconst F dX8_precommitsNil_12 ?_
    refine z_aload_n F dX8_precommitsNil_13 rfl (lv_at hl 0 rfl) ?_
    refine z_iload_n F dX8_precommitsNil_14 rfl (lv_at hl 1 rfl) ?_
    refine z_iconst F dX8_precommitsNil_15 ?_
    refine z_bxi hZ (va_runV (As := [.int (zI (x)), .int (zI (0))]) (rest := [.int (zI (1)), .int (zI (x)), .ref (w.2.1 + (64))]) F (k_X8_get l w dom A hDA sz G hd x 0 (by omega)) (cwV 2 F.2.2.2.2 gX8_precommitsNil_X8_get rfl rfl rfl (by decide +kernel) ⟨Nat.le_of_ble_eq_true rfl, Nat.le_of_ble_eq_true rfl⟩) (z_preV hK hZ (64) (hd _ (by omega)) rfl (by decide) rfl _) rfl rfl hl.1 rfl (lv_room (Nat.le_of_ble_eq_true rfl)) dX8_precommitsNil_16 ⟨Nat.le_of_ble_eq_true rfl, Nat.le_of_ble_eq_true rfl⟩) (fun H locs hZ => ?_)
    have r_2 := hZ.2.1.1 (67) (20 * x + 0)
    refine z_aload_n F dX8_precommitsNil_19 rfl (lv_at hl 0 rfl) ?_
    refine z_iload_n F dX8_precommitsNil_20 rfl (lv_at hl 1 rfl) ?_
    refine z_iconst F dX8_precommitsNil_21 ?_
    refine z_bxi hZ (va_runV (As := [.int (zI (x)), .int (zI (1))]) (rest := [.int (zI (G 67 (20 * x + 0))), .int (zI (1)), .int (zI (x)), .ref (w.2.1 + (64))]) F (k_X8_get l w dom A hDA sz G hd x 1 (by omega)) (cwV 2 F.2.2.2.2 gX8_precommitsNil_X8_get rfl rfl rfl (by decide +kernel) ⟨Nat.le_of_ble_eq_true rfl, Nat.le_of_ble_eq_true rfl⟩) (z_preV hK hZ (64) (hd _ (by omega)) rfl (by decide) rfl _) rfl rfl hl.1 rfl (lv_room (Nat.le_of_ble_eq_true rfl)) dX8_precommitsNil_22 ⟨Nat.le_of_ble_eq_true rfl, Nat.le_of_ble_eq_true rfl⟩) (fun H locs hZ => ?_)
    have r_3 := hZ.2.1.1 (67) (20 * x + 1)
    refine z_iconst F dX8_precommitsNil_25 ?_
    refine z_bxi hZ (va_runV (As := [.int (zI (x)), .int (zI (1)), .int (zI (G 67 (20 * x + 0))), .int (zI (G 67 (20 * x + 1))), .int (zI (-1))]) (rest := []) F (k_X8_voted l w dom A hDA sz G hd (by omega) x 1 (G 67 (20 * x + 0)) (G 67 (20 * x + 1)) (-1) (by omega) (by omega) (by omega) (by omega) (by omega) (by omega)) (cwV 5 F.2.2.2.2 gX8_precommitsNil_X8_voted rfl rfl rfl (by decide +kernel) ⟨Nat.le_of_ble_eq_true rfl, Nat.le_of_ble_eq_true rfl⟩) (z_preV hK hZ (64) (hd _ (by omega)) rfl (by decide) rfl _) rfl rfl hl.1 rfl (lv_room (Nat.le_of_ble_eq_true rfl)) dX8_precommitsNil_26 ⟨Nat.le_of_ble_eq_true rfl, Nat.le_of_ble_eq_true rfl⟩) (fun H locs hZ => ?_)
    have r_4 := voteN_rng G x 1 (G 67 (20 * x + 0)) (G 67 (20 * x + 1)) (-1)
    refine z_aload_n F dX8_precommitsNil_29 rfl (lv_at hl 0 rfl) ?_
    refine z_bxi hZ (va_runV (As := []) (rest := [.int (zI (voteN G x 1 (G 67 (20 * x + 0)) (G 67 (20 * x + 1)) (-1)))]) F (k_X8_many l w dom A hDA sz G hd (by omega)) (cwV 0 F.2.2.2.2 gX8_precommitsNil_X8_many rfl rfl rfl (by decide +kernel) ⟨Nat.le_of_ble_eq_true rfl, Nat.le_of_ble_eq_true rfl⟩) (z_preV hK hZ (64) (hd _ (by omega)) rfl (by decide) rfl _) rfl rfl hl.1 rfl (lv_room (Nat.le_of_ble_eq_true rfl)) dX8_precommitsNil_30 ⟨Nat.le_of_ble_eq_true rfl, Nat.le_of_ble_eq_true rfl⟩) (fun H locs hZ => ?_)
    refine z_icmp_lt (tgt := 40) F (by omega) (by omega) dX8_precommitsNil_33 (by decide) (fun c_33 => ?_) (fun c_33 => ?_)
    · skip
      refine z_iconst F dX8_precommitsNil_40 ?_
      refine z_istore_n (lv' := [(2, .int (zI (0))), (0, .ref (w.2.1 + (64))), (1, .int (zI (x)))]) F dX8_precommitsNil_41 rfl hl (by decide) rfl (fun ls hl => ?_)
      refine z_iload_n F dX8_precommitsNil_42 rfl (lv_at hl 0 rfl) ?_
      refine z_if_eq (tgt := 53) F (by omega) dX8_precommitsNil_43 (by decide) (fun c_43 => ?_) (fun c_43 => ?_)
      · skip
        have e : nilM G x = none := by rw [nilM, if_neg (by simp only [manyN]; omega)]
        refine z_iload_n F dX8_precommitsNil_53 rfl (lv_at hl 0 rfl) ?_
        exact z_zret F hr hlocks hZ (bI_0 (by rw [e]; exact fun q => by cases q)) (by omega) (by rw [e]; rfl) dX8_precommitsNil_54 (by omega) (by omega)
      · skip
        exfalso; omega
    · skip
      refine z_iconst F dX8_precommitsNil_36 ?_
      refine lv_goto (tgt := 41) F.1 F.2.1 dX8_precommitsNil_37 (by decide) ?_
      refine z_istore_n (lv' := [(2, .int (zI (1))), (0, .ref (w.2.1 + (64))), (1, .int (zI (x)))]) F dX8_precommitsNil_41 rfl hl (by decide) rfl (fun ls hl => ?_)
      refine z_iload_n F dX8_precommitsNil_42 rfl (lv_at hl 0 rfl) ?_
      refine z_if_eq (tgt := 53) F (by omega) dX8_precommitsNil_43 (by decide) (fun c_43 => ?_) (fun c_43 => ?_)
      · skip
        exfalso; omega
      · skip
        refine z_aload_n F dX8_precommitsNil_46 rfl (lv_at hl 1 rfl) ?_
        refine z_iload_n F dX8_precommitsNil_47 rfl (lv_at hl 2 rfl) ?_
        refine z_iconst F dX8_precommitsNil_48 ?_
        refine z_iconst F dX8_precommitsNil_49 ?_
        refine z_bxv hZ (va_runV (As := [.int (zI (x)), .int (zI (2)), .int (zI (-1))]) (rest := []) F (k_X8_casts l w dom A hDA sz G hd x 2 (-1) (by omega) (by omega) (by omega) (by omega)) (cwV 3 F.2.2.2.2 gX8_precommitsNil_X8_casts rfl rfl rfl (by decide +kernel) ⟨Nat.le_of_ble_eq_true rfl, Nat.le_of_ble_eq_true rfl⟩) (z_preV hK hZ (64) (hd _ (by omega)) rfl (by decide) rfl _) rfl rfl hl.1 rfl (lv_room (Nat.le_of_ble_eq_true rfl)) dX8_precommitsNil_50 ⟨Nat.le_of_ble_eq_true rfl, Nat.le_of_ble_eq_true rfl⟩) (fun H locs hZ => ?_)
        have e : nilM G x = some (castsM G x 2 (-1)) := by rw [nilM, if_pos (by simp only [manyN]; omega)]
        refine z_iload_n F dX8_precommitsNil_53 rfl (lv_at hl 0 rfl) ?_
        exact z_zret F hr hlocks hZ (bI_1 (by rw [e]; rfl)) (by omega) (by rw [e]; rfl) dX8_precommitsNil_54 (by omega) (by omega)

set_option maxHeartbeats 4000000 in
set_option maxRecDepth 100000 in
theorem k_X8_timers (l : Launch) (w : zW) (dom : Nat → Prop) (A : Nat → Prop) (hDA : ∀ i, dom i → A (w.2.1 + i)) (sz : Nat) (G : zM) (hd : ∀ i, 64 ≤ i ∧ i < 71 → dom i) (hI : Inv G) (x : Int) (h0 : 0 ≤ x ∧ x < 7) : Met l yX8_timers wsX8_timers { frames := 2, cells := 0, slots := 0, locals := 45 } (zPre w dom sz G [.ref (w.2.1 + (64)), .int (zI (x))]) (zQi w dom sz (bI ((timersM G x).isSome = true)) (fun C => C = (timersM G x).getD G) A) (0) (0) A := by
  refine Met.ofW (cc := cX8_timers) (maxL := 2) (ret := (some .boolean)) (by decide) rfl ?_
  intro p e s m args below meth c s₁ B hml hv
  obtain ⟨rfl, hsz, hP, hK⟩ := hv
  have F : CallFix p m c cX8_timers 2 s _ wsX8_timers RX8 := ⟨B.exec, B.bytes, hml, findClass_of_methodNamed B.named, atoms_spec (ws := wsX8_timers) B.pre⟩
  have hr := B.returns
  have hlocks := B.notSynchronized
  have hZ : Zs w dom A s.heap sz G s.heap [] := ⟨hsz, hP, va_S.rf⟩
  have hl := lv_entry ([.ref (w.2.1 + (64)), .int (zI (x))]) (n := 2) (Nat.le_of_ble_eq_true rfl)
  rw [lg_entry_eq]
  generalize (lg_sl ([.ref (w.2.1 + (64)), .int (zI (x))]) ++ List.replicate (2 - (lg_sl ([.ref (w.2.1 + (64)), .int (zI (x))])).length) Slot.unset).toArray = ls at hl ⊢
  have hl : lv_has ls 2 [(0, .ref (w.2.1 + (64))), (1, .int (zI (x)))] := hl
  have hn := hI.1
  have hL := hI.2.2.2.1
  have iS := seat_rng hI h0
  refine z_aload_n F dX8_timers_0 rfl (lv_at hl 0 rfl) ?_
  refine z_iload_n F dX8_timers_1 rfl (lv_at hl 1 rfl) ?_
  refine z_iconst F dX8_timers_2 ?_
  refine z_bxi hZ (va_runV (As := [.int (zI (x)), .int (zI (2))]) (rest := []) F (k_X8_get l w dom A hDA sz G hd x 2 (by omega)) (cwV 2 F.2.2.2.2 gX8_timers_X8_get rfl rfl rfl (by decide +kernel) ⟨Nat.le_of_ble_eq_true rfl, Nat.le_of_ble_eq_true rfl⟩) (z_preV hK hZ (64) (hd _ (by omega)) rfl (by decide) rfl _) rfl rfl hl.1 rfl (lv_room (Nat.le_of_ble_eq_true rfl)) dX8_timers_3 ⟨Nat.le_of_ble_eq_true rfl, Nat.le_of_ble_eq_true rfl⟩) (fun H locs hZ => ?_)
  have r_1 := hZ.2.1.1 (67) (20 * x + 2)
  refine z_iconst F dX8_timers_6 ?_
  refine z_icmp_ne (tgt := 63) F (by omega) (by omega) dX8_timers_7 (by decide) (fun c_7 => ?_) (fun c_7 => ?_)
  · skip
    have hno : tim1M G x = none := by rw [tim1M, if_neg (by simp only [manyN]; omega)]
    refine z_aload_n F dX8_timers_63 rfl (lv_at hl 0 rfl) ?_
    refine z_iload_n F dX8_timers_64 rfl (lv_at hl 1 rfl) ?_
    refine z_bipush F (by decide) dX8_timers_65 ?_
    refine z_bxi hZ (va_runV (As := [.int (zI (x)), .int (zI (10))]) (rest := []) F (k_X8_get l w dom A hDA sz G hd x 10 (by omega)) (cwV 2 F.2.2.2.2 gX8_timers_X8_get rfl rfl rfl (by decide +kernel) ⟨Nat.le_of_ble_eq_true rfl, Nat.le_of_ble_eq_true rfl⟩) (z_preV hK hZ (64) (hd _ (by omega)) rfl (by decide) rfl _) rfl rfl hl.1 rfl (lv_room (Nat.le_of_ble_eq_true rfl)) dX8_timers_67 ⟨Nat.le_of_ble_eq_true rfl, Nat.le_of_ble_eq_true rfl⟩) (fun H locs hZ => ?_)
    have r_2 := hZ.2.1.1 (67) (20 * x + 10)
    refine z_if_ne (tgt := 116) F (by omega) dX8_timers_70 (by decide) (fun c_70 => ?_) (fun c_70 => ?_)
    · skip
      have e : timersM G x = none := by rw [timersM, hno, tim2M, if_neg (by simp only [manyN]; omega)]; rfl
      refine z_iconst F dX8_timers_116 ?_
      exact z_zret F hr hlocks hZ (bI_0 (by rw [e]; exact fun q => by cases q)) (by omega) (by rw [e]; rfl) dX8_timers_117 (by omega) (by omega)
    · skip
      refine z_aload_n F dX8_timers_73 rfl (lv_at hl 0 rfl) ?_
      refine z_iload_n F dX8_timers_74 rfl (lv_at hl 1 rfl) ?_
      refine z_iconst F dX8_timers_75 ?_
      refine z_aload_n F dX8_timers_76 rfl (lv_at hl 0 rfl) ?_
      refine z_iload_n F dX8_timers_77 rfl (lv_at hl 1 rfl) ?_
      refine z_iconst F dX8_timers_78 ?_
      refine z_bxi hZ (va_runV (As := [.int (zI (x)), .int (zI (0))]) (rest := [.int (zI (2)), .int (zI (x)), .ref (w.2.1 + (64))]) F (k_X8_get l w dom A hDA sz G hd x 0 (by omega)) (cwV 2 F.2.2.2.2 gX8_timers_X8_get rfl rfl rfl (by decide +kernel) ⟨Nat.le_of_ble_eq_true rfl, Nat.le_of_ble_eq_true rfl⟩) (z_preV hK hZ (64) (hd _ (by omega)) rfl (by decide) rfl _) rfl rfl hl.1 rfl (lv_room (Nat.le_of_ble_eq_true rfl)) dX8_timers_79 ⟨Nat.le_of_ble_eq_true rfl, Nat.le_of_ble_eq_true rfl⟩) (fun H locs hZ => ?_)
      have r_3 := hZ.2.1.1 (67) (20 * x + 0)
      refine z_aload_n F dX8_timers_82 rfl (lv_at hl 0 rfl) ?_
      refine z_iload_n F dX8_timers_83 rfl (lv_at hl 1 rfl) ?_
      refine z_iconst F dX8_timers_84 ?_
      refine z_bxi hZ (va_runV (As := [.int (zI (x)), .int (zI (1))]) (rest := [.int (zI (G 67 (20 * x + 0))), .int (zI (2)), .int (zI (x)), .ref (w.2.1 + (64))]) F (k_X8_get l w dom A hDA sz G hd x 1 (by omega)) (cwV 2 F.2.2.2.2 gX8_timers_X8_get rfl rfl rfl (by decide +kernel) ⟨Nat.le_of_ble_eq_true rfl, Nat.le_of_ble_eq_true rfl⟩) (z_preV hK hZ (64) (hd _ (by omega)) rfl (by decide) rfl _) rfl rfl hl.1 rfl (lv_room (Nat.le_of_ble_eq_true rfl)) dX8_timers_85 ⟨Nat.le_of_ble_eq_true rfl, Nat.le_of_ble_eq_true rfl⟩) (fun H locs hZ => ?_)
      have r_4 := hZ.2.1.1 (67) (20 * x + 1)
      refine z_bipush F (by decide) dX8_timers_88 ?_
      refine z_bxi hZ (va_runV (As := [.int (zI (x)), .int (zI (2)), .int (zI (G 67 (20 * x + 0))), .int (zI (G 67 (20 * x + 1))), .int (zI (-2))]) (rest := []) F (k_X8_voted l w dom A hDA sz G hd (by omega) x 2 (G 67 (20 * x + 0)) (G 67 (20 * x + 1)) (-2) (by omega) (by omega) (by omega) (by omega) (by omega) (by omega)) (cwV 5 F.2.2.2.2 gX8_timers_X8_voted rfl rfl rfl (by decide +kernel) ⟨Nat.le_of_ble_eq_true rfl, Nat.le_of_ble_eq_true rfl⟩) (z_preV hK hZ (64) (hd _ (by omega)) rfl (by decide) rfl _) rfl rfl hl.1 rfl (lv_room (Nat.le_of_ble_eq_true rfl)) dX8_timers_90 ⟨Nat.le_of_ble_eq_true rfl, Nat.le_of_ble_eq_true rfl⟩) (fun H locs hZ => ?_)
      have r_5 := voteN_rng G x 2 (G 67 (20 * x + 0)) (G 67 (20 * x + 1)) (-2)
      refine z_aload_n F dX8_timers_93 rfl (lv_at hl 0 rfl) ?_
      refine z_bxi hZ (va_runV (As := []) (rest := [.int (zI (voteN G x 2 (G 67 (20 * x + 0)) (G 67 (20 * x + 1)) (-2)))]) F (k_X8_many l w dom A hDA sz G hd (by omega)) (cwV 0 F.2.2.2.2 gX8_timers_X8_many rfl rfl rfl (by decide +kernel) ⟨Nat.le_of_ble_eq_true rfl, Nat.le_of_ble_eq_true rfl⟩) (z_preV hK hZ (64) (hd _ (by omega)) rfl (by decide) rfl _) rfl rfl hl.1 rfl (lv_room (Nat.le_of_ble_eq_true rfl)) dX8_timers_94 ⟨Nat.le_of_ble_eq_true rfl, Nat.le_of_ble_eq_true rfl⟩) (fun H locs hZ => ?_)
      refine z_icmp_lt (tgt := 116) F (by omega) (by omega) dX8_timers_97 (by decide) (fun c_97 => ?_) (fun c_97 => ?_)
      · skip
        have e : timersM G x = none := by rw [timersM, hno, tim2M, if_neg (by simp only [manyN]; omega)]; rfl
        refine z_iconst F dX8_timers_116 ?_
        exact z_zret F hr hlocks hZ (bI_0 (by rw [e]; exact fun q => by cases q)) (by omega) (by rw [e]; rfl) dX8_timers_117 (by omega) (by omega)
      · skip
        refine z_aload_n F dX8_timers_100 rfl (lv_at hl 0 rfl) ?_
        refine z_iload_n F dX8_timers_101 rfl (lv_at hl 1 rfl) ?_
        refine z_bipush F (by decide) dX8_timers_102 ?_
        refine z_iconst F dX8_timers_104 ?_
        refine z_bxv hZ (va_runV (As := [.int (zI (x)), .int (zI (10)), .int (zI (1))]) (rest := []) F (k_X8_set l w dom A hDA sz G hd x 10 1 (by omega) (by omega)) (cwV 3 F.2.2.2.2 gX8_timers_X8_set rfl rfl rfl (by decide +kernel) ⟨Nat.le_of_ble_eq_true rfl, Nat.le_of_ble_eq_true rfl⟩) (z_preV hK hZ (64) (hd _ (by omega)) rfl (by decide) rfl _) rfl rfl hl.1 rfl (lv_room (Nat.le_of_ble_eq_true rfl)) dX8_timers_105 ⟨Nat.le_of_ble_eq_true rfl, Nat.le_of_ble_eq_true rfl⟩) (fun H locs hZ => ?_)
        refine z_aload_n F dX8_timers_108 rfl (lv_at hl 0 rfl) ?_
        refine z_iload_n F dX8_timers_109 rfl (lv_at hl 1 rfl) ?_
        refine z_iconst F dX8_timers_110 ?_
        have n_6 : (setM G x 10 1) 64 0 = G 64 0 := rfl
        have n_7 : (setM G x 10 1) 64 7 = G 64 7 := rfl
        have n_8 : (setM G x 10 1) 67 (20 * x + 0) = G 67 (20 * x + 0) := by rw [setM_ne _ _ _ _ _ (by omega)]
        have n_9 : (setM G x 10 1) 67 (20 * x + 1) = G 67 (20 * x + 1) := by rw [setM_ne _ _ _ _ _ (by omega)]
        refine z_bxv hZ (va_runV (As := [.int (zI (x)), .int (zI (2))]) (rest := []) F (k_X8_setTimer l w dom A hDA sz (setM G x 10 1) hd x 2 (by omega) (by omega) (by omega) (by omega)) (cwV 2 F.2.2.2.2 gX8_timers_X8_setTimer rfl rfl rfl (by decide +kernel) ⟨Nat.le_of_ble_eq_true rfl, Nat.le_of_ble_eq_true rfl⟩) (z_preV hK hZ (64) (hd _ (by omega)) rfl (by decide) rfl _) rfl rfl hl.1 rfl (lv_room (Nat.le_of_ble_eq_true rfl)) dX8_timers_111 ⟨Nat.le_of_ble_eq_true rfl, Nat.le_of_ble_eq_true rfl⟩) (fun H locs hZ => ?_)
        have e : timersM G x = some (setTimerM (setM G x 10 1) x 2) := by rw [timersM, hno, tim2M, if_pos (by simp only [manyN]; omega)]; rfl
        refine z_iconst F dX8_timers_114 ?_
        exact z_zret F hr hlocks hZ (bI_1 (by rw [e]; rfl)) (by omega) (by rw [e]; rfl) dX8_timers_115 (by omega) (by omega)
  · skip
    refine z_aload_n F dX8_timers_10 rfl (lv_at hl 0 rfl) ?_
    refine z_iload_n F dX8_timers_11 rfl (lv_at hl 1 rfl) ?_
    refine z_bipush F (by decide) dX8_timers_12 ?_
    refine z_bxi hZ (va_runV (As := [.int (zI (x)), .int (zI (9))]) (rest := []) F (k_X8_get l w dom A hDA sz G hd x 9 (by omega)) (cwV 2 F.2.2.2.2 gX8_timers_X8_get rfl rfl rfl (by decide +kernel) ⟨Nat.le_of_ble_eq_true rfl, Nat.le_of_ble_eq_true rfl⟩) (z_preV hK hZ (64) (hd _ (by omega)) rfl (by decide) rfl _) rfl rfl hl.1 rfl (lv_room (Nat.le_of_ble_eq_true rfl)) dX8_timers_14 ⟨Nat.le_of_ble_eq_true rfl, Nat.le_of_ble_eq_true rfl⟩) (fun H locs hZ => ?_)
    have r_10 := hZ.2.1.1 (67) (20 * x + 9)
    refine z_if_ne (tgt := 63) F (by omega) dX8_timers_17 (by decide) (fun c_17 => ?_) (fun c_17 => ?_)
    · skip
      have hno : tim1M G x = none := by rw [tim1M, if_neg (by simp only [manyN]; omega)]
      refine z_aload_n F dX8_timers_63 rfl (lv_at hl 0 rfl) ?_
      refine z_iload_n F dX8_timers_64 rfl (lv_at hl 1 rfl) ?_
      refine z_bipush F (by decide) dX8_timers_65 ?_
      refine z_bxi hZ (va_runV (As := [.int (zI (x)), .int (zI (10))]) (rest := []) F (k_X8_get l w dom A hDA sz G hd x 10 (by omega)) (cwV 2 F.2.2.2.2 gX8_timers_X8_get rfl rfl rfl (by decide +kernel) ⟨Nat.le_of_ble_eq_true rfl, Nat.le_of_ble_eq_true rfl⟩) (z_preV hK hZ (64) (hd _ (by omega)) rfl (by decide) rfl _) rfl rfl hl.1 rfl (lv_room (Nat.le_of_ble_eq_true rfl)) dX8_timers_67 ⟨Nat.le_of_ble_eq_true rfl, Nat.le_of_ble_eq_true rfl⟩) (fun H locs hZ => ?_)
      have r_11 := hZ.2.1.1 (67) (20 * x + 10)
      refine z_if_ne (tgt := 116) F (by omega) dX8_timers_70 (by decide) (fun c_70 => ?_) (fun c_70 => ?_)
      · skip
        have e : timersM G x = none := by rw [timersM, hno, tim2M, if_neg (by simp only [manyN]; omega)]; rfl
        refine z_iconst F dX8_timers_116 ?_
        exact z_zret F hr hlocks hZ (bI_0 (by rw [e]; exact fun q => by cases q)) (by omega) (by rw [e]; rfl) dX8_timers_117 (by omega) (by omega)
      · skip
        refine z_aload_n F dX8_timers_73 rfl (lv_at hl 0 rfl) ?_
        refine z_iload_n F dX8_timers_74 rfl (lv_at hl 1 rfl) ?_
        refine z_iconst F dX8_timers_75 ?_
        refine z_aload_n F dX8_timers_76 rfl (lv_at hl 0 rfl) ?_
        refine z_iload_n F dX8_timers_77 rfl (lv_at hl 1 rfl) ?_
        refine z_iconst F dX8_timers_78 ?_
        refine z_bxi hZ (va_runV (As := [.int (zI (x)), .int (zI (0))]) (rest := [.int (zI (2)), .int (zI (x)), .ref (w.2.1 + (64))]) F (k_X8_get l w dom A hDA sz G hd x 0 (by omega)) (cwV 2 F.2.2.2.2 gX8_timers_X8_get rfl rfl rfl (by decide +kernel) ⟨Nat.le_of_ble_eq_true rfl, Nat.le_of_ble_eq_true rfl⟩) (z_preV hK hZ (64) (hd _ (by omega)) rfl (by decide) rfl _) rfl rfl hl.1 rfl (lv_room (Nat.le_of_ble_eq_true rfl)) dX8_timers_79 ⟨Nat.le_of_ble_eq_true rfl, Nat.le_of_ble_eq_true rfl⟩) (fun H locs hZ => ?_)
        have r_12 := hZ.2.1.1 (67) (20 * x + 0)
        refine z_aload_n F dX8_timers_82 rfl (lv_at hl 0 rfl) ?_
        refine z_iload_n F dX8_timers_83 rfl (lv_at hl 1 rfl) ?_
        refine z_iconst F dX8_timers_84 ?_
        refine z_bxi hZ (va_runV (As := [.int (zI (x)), .int (zI (1))]) (rest := [.int (zI (G 67 (20 * x + 0))), .int (zI (2)), .int (zI (x)), .ref (w.2.1 + (64))]) F (k_X8_get l w dom A hDA sz G hd x 1 (by omega)) (cwV 2 F.2.2.2.2 gX8_timers_X8_get rfl rfl rfl (by decide +kernel) ⟨Nat.le_of_ble_eq_true rfl, Nat.le_of_ble_eq_true rfl⟩) (z_preV hK hZ (64) (hd _ (by omega)) rfl (by decide) rfl _) rfl rfl hl.1 rfl (lv_room (Nat.le_of_ble_eq_true rfl)) dX8_timers_85 ⟨Nat.le_of_ble_eq_true rfl, Nat.le_of_ble_eq_true rfl⟩) (fun H locs hZ => ?_)
        have r_13 := hZ.2.1.1 (67) (20 * x + 1)
        refine z_bipush F (by decide) dX8_timers_88 ?_
        refine z_bxi hZ (va_runV (As := [.int (zI (x)), .int (zI (2)), .int (zI (G 67 (20 * x + 0))), .int (zI (G 67 (20 * x + 1))), .int (zI (-2))]) (rest := []) F (k_X8_voted l w dom A hDA sz G hd (by omega) x 2 (G 67 (20 * x + 0)) (G 67 (20 * x + 1)) (-2) (by omega) (by omega) (by omega) (by omega) (by omega) (by omega)) (cwV 5 F.2.2.2.2 gX8_timers_X8_voted rfl rfl rfl (by decide +kernel) ⟨Nat.le_of_ble_eq_true rfl, Nat.le_of_ble_eq_true rfl⟩) (z_preV hK hZ (64) (hd _ (by omega)) rfl (by decide) rfl _) rfl rfl hl.1 rfl (lv_room (Nat.le_of_ble_eq_true rfl)) dX8_timers_90 ⟨Nat.le_of_ble_eq_true rfl, Nat.le_of_ble_eq_true rfl⟩) (fun H locs hZ => ?_)
        have r_14 := voteN_rng G x 2 (G 67 (20 * x + 0)) (G 67 (20 * x + 1)) (-2)
        refine z_aload_n F dX8_timers_93 rfl (lv_at hl 0 rfl) ?_
        refine z_bxi hZ (va_runV (As := []) (rest := [.int (zI (voteN G x 2 (G 67 (20 * x + 0)) (G 67 (20 * x + 1)) (-2)))]) F (k_X8_many l w dom A hDA sz G hd (by omega)) (cwV 0 F.2.2.2.2 gX8_timers_X8_many rfl rfl rfl (by decide +kernel) ⟨Nat.le_of_ble_eq_true rfl, Nat.le_of_ble_eq_true rfl⟩) (z_preV hK hZ (64) (hd _ (by omega)) rfl (by decide) rfl _) rfl rfl hl.1 rfl (lv_room (Nat.le_of_ble_eq_true rfl)) dX8_timers_94 ⟨Nat.le_of_ble_eq_true rfl, Nat.le_of_ble_eq_true rfl⟩) (fun H locs hZ => ?_)
        refine z_icmp_lt (tgt := 116) F (by omega) (by omega) dX8_timers_97 (by decide) (fun c_97 => ?_) (fun c_97 => ?_)
        · skip
          have e : timersM G x = none := by rw [timersM, hno, tim2M, if_neg (by simp only [manyN]; omega)]; rfl
          refine z_iconst F dX8_timers_116 ?_
          exact z_zret F hr hlocks hZ (bI_0 (by rw [e]; exact fun q => by cases q)) (by omega) (by rw [e]; rfl) dX8_timers_117 (by omega) (by omega)
        · skip
          refine z_aload_n F dX8_timers_100 rfl (lv_at hl 0 rfl) ?_
          refine z_iload_n F dX8_timers_101 rfl (lv_at hl 1 rfl) ?_
          refine z_bipush F (by decide) dX8_timers_102 ?_
          refine z_iconst F dX8_timers_104 ?_
          refine z_bxv hZ (va_runV (As := [.int (zI (x)), .int (zI (10)), .int (zI (1))]) (rest := []) F (k_X8_set l w dom A hDA sz G hd x 10 1 (by omega) (by omega)) (cwV 3 F.2.2.2.2 gX8_timers_X8_set rfl rfl rfl (by decide +kernel) ⟨Nat.le_of_ble_eq_true rfl, Nat.le_of_ble_eq_true rfl⟩) (z_preV hK hZ (64) (hd _ (by omega)) rfl (by decide) rfl _) rfl rfl hl.1 rfl (lv_room (Nat.le_of_ble_eq_true rfl)) dX8_timers_105 ⟨Nat.le_of_ble_eq_true rfl, Nat.le_of_ble_eq_true rfl⟩) (fun H locs hZ => ?_)
          refine z_aload_n F dX8_timers_108 rfl (lv_at hl 0 rfl) ?_
          refine z_iload_n F dX8_timers_109 rfl (lv_at hl 1 rfl) ?_
          refine z_iconst F dX8_timers_110 ?_
          have n_15 : (setM G x 10 1) 64 0 = G 64 0 := rfl
          have n_16 : (setM G x 10 1) 64 7 = G 64 7 := rfl
          have n_17 : (setM G x 10 1) 67 (20 * x + 0) = G 67 (20 * x + 0) := by rw [setM_ne _ _ _ _ _ (by omega)]
          have n_18 : (setM G x 10 1) 67 (20 * x + 1) = G 67 (20 * x + 1) := by rw [setM_ne _ _ _ _ _ (by omega)]
          refine z_bxv hZ (va_runV (As := [.int (zI (x)), .int (zI (2))]) (rest := []) F (k_X8_setTimer l w dom A hDA sz (setM G x 10 1) hd x 2 (by omega) (by omega) (by omega) (by omega)) (cwV 2 F.2.2.2.2 gX8_timers_X8_setTimer rfl rfl rfl (by decide +kernel) ⟨Nat.le_of_ble_eq_true rfl, Nat.le_of_ble_eq_true rfl⟩) (z_preV hK hZ (64) (hd _ (by omega)) rfl (by decide) rfl _) rfl rfl hl.1 rfl (lv_room (Nat.le_of_ble_eq_true rfl)) dX8_timers_111 ⟨Nat.le_of_ble_eq_true rfl, Nat.le_of_ble_eq_true rfl⟩) (fun H locs hZ => ?_)
          have e : timersM G x = some (setTimerM (setM G x 10 1) x 2) := by rw [timersM, hno, tim2M, if_pos (by simp only [manyN]; omega)]; rfl
          refine z_iconst F dX8_timers_114 ?_
          exact z_zret F hr hlocks hZ (bI_1 (by rw [e]; rfl)) (by omega) (by rw [e]; rfl) dX8_timers_115 (by omega) (by omega)
    · skip
      refine z_aload_n F dX8_timers_20 rfl (lv_at hl 0 rfl) ?_
      refine z_iload_n F dX8_timers_21 rfl (lv_at hl 1 rfl) ?_
      refine z_iconst F dX8_timers_22 ?_
      refine z_aload_n F dX8_timers_23 rfl (lv_at hl 0 rfl) ?_
      refine z_iload_n F dX8_timers_24 rfl (lv_at hl 1 rfl) ?_
      refine z_iconst F dX8_timers_25 ?_
      refine z_bxi hZ (va_runV (As := [.int (zI (x)), .int (zI (0))]) (rest := [.int (zI (1)), .int (zI (x)), .ref (w.2.1 + (64))]) F (k_X8_get l w dom A hDA sz G hd x 0 (by omega)) (cwV 2 F.2.2.2.2 gX8_timers_X8_get rfl rfl rfl (by decide +kernel) ⟨Nat.le_of_ble_eq_true rfl, Nat.le_of_ble_eq_true rfl⟩) (z_preV hK hZ (64) (hd _ (by omega)) rfl (by decide) rfl _) rfl rfl hl.1 rfl (lv_room (Nat.le_of_ble_eq_true rfl)) dX8_timers_26 ⟨Nat.le_of_ble_eq_true rfl, Nat.le_of_ble_eq_true rfl⟩) (fun H locs hZ => ?_)
      have r_19 := hZ.2.1.1 (67) (20 * x + 0)
      refine z_aload_n F dX8_timers_29 rfl (lv_at hl 0 rfl) ?_
      refine z_iload_n F dX8_timers_30 rfl (lv_at hl 1 rfl) ?_
      refine z_iconst F dX8_timers_31 ?_
      refine z_bxi hZ (va_runV (As := [.int (zI (x)), .int (zI (1))]) (rest := [.int (zI (G 67 (20 * x + 0))), .int (zI (1)), .int (zI (x)), .ref (w.2.1 + (64))]) F (k_X8_get l w dom A hDA sz G hd x 1 (by omega)) (cwV 2 F.2.2.2.2 gX8_timers_X8_get rfl rfl rfl (by decide +kernel) ⟨Nat.le_of_ble_eq_true rfl, Nat.le_of_ble_eq_true rfl⟩) (z_preV hK hZ (64) (hd _ (by omega)) rfl (by decide) rfl _) rfl rfl hl.1 rfl (lv_room (Nat.le_of_ble_eq_true rfl)) dX8_timers_32 ⟨Nat.le_of_ble_eq_true rfl, Nat.le_of_ble_eq_true rfl⟩) (fun H locs hZ => ?_)
      have r_20 := hZ.2.1.1 (67) (20 * x + 1)
      refine z_bipush F (by decide) dX8_timers_35 ?_
      refine z_bxi hZ (va_runV (As := [.int (zI (x)), .int (zI (1)), .int (zI (G 67 (20 * x + 0))), .int (zI (G 67 (20 * x + 1))), .int (zI (-2))]) (rest := []) F (k_X8_voted l w dom A hDA sz G hd (by omega) x 1 (G 67 (20 * x + 0)) (G 67 (20 * x + 1)) (-2) (by omega) (by omega) (by omega) (by omega) (by omega) (by omega)) (cwV 5 F.2.2.2.2 gX8_timers_X8_voted rfl rfl rfl (by decide +kernel) ⟨Nat.le_of_ble_eq_true rfl, Nat.le_of_ble_eq_true rfl⟩) (z_preV hK hZ (64) (hd _ (by omega)) rfl (by decide) rfl _) rfl rfl hl.1 rfl (lv_room (Nat.le_of_ble_eq_true rfl)) dX8_timers_37 ⟨Nat.le_of_ble_eq_true rfl, Nat.le_of_ble_eq_true rfl⟩) (fun H locs hZ => ?_)
      have r_21 := voteN_rng G x 1 (G 67 (20 * x + 0)) (G 67 (20 * x + 1)) (-2)
      refine z_aload_n F dX8_timers_40 rfl (lv_at hl 0 rfl) ?_
      refine z_bxi hZ (va_runV (As := []) (rest := [.int (zI (voteN G x 1 (G 67 (20 * x + 0)) (G 67 (20 * x + 1)) (-2)))]) F (k_X8_many l w dom A hDA sz G hd (by omega)) (cwV 0 F.2.2.2.2 gX8_timers_X8_many rfl rfl rfl (by decide +kernel) ⟨Nat.le_of_ble_eq_true rfl, Nat.le_of_ble_eq_true rfl⟩) (z_preV hK hZ (64) (hd _ (by omega)) rfl (by decide) rfl _) rfl rfl hl.1 rfl (lv_room (Nat.le_of_ble_eq_true rfl)) dX8_timers_41 ⟨Nat.le_of_ble_eq_true rfl, Nat.le_of_ble_eq_true rfl⟩) (fun H locs hZ => ?_)
      refine z_icmp_lt (tgt := 63) F (by omega) (by omega) dX8_timers_44 (by decide) (fun c_44 => ?_) (fun c_44 => ?_)
      · skip
        have hno : tim1M G x = none := by rw [tim1M, if_neg (by simp only [manyN]; omega)]
        refine z_aload_n F dX8_timers_63 rfl (lv_at hl 0 rfl) ?_
        refine z_iload_n F dX8_timers_64 rfl (lv_at hl 1 rfl) ?_
        refine z_bipush F (by decide) dX8_timers_65 ?_
        refine z_bxi hZ (va_runV (As := [.int (zI (x)), .int (zI (10))]) (rest := []) F (k_X8_get l w dom A hDA sz G hd x 10 (by omega)) (cwV 2 F.2.2.2.2 gX8_timers_X8_get rfl rfl rfl (by decide +kernel) ⟨Nat.le_of_ble_eq_true rfl, Nat.le_of_ble_eq_true rfl⟩) (z_preV hK hZ (64) (hd _ (by omega)) rfl (by decide) rfl _) rfl rfl hl.1 rfl (lv_room (Nat.le_of_ble_eq_true rfl)) dX8_timers_67 ⟨Nat.le_of_ble_eq_true rfl, Nat.le_of_ble_eq_true rfl⟩) (fun H locs hZ => ?_)
        have r_22 := hZ.2.1.1 (67) (20 * x + 10)
        refine z_if_ne (tgt := 116) F (by omega) dX8_timers_70 (by decide) (fun c_70 => ?_) (fun c_70 => ?_)
        · skip
          have e : timersM G x = none := by rw [timersM, hno, tim2M, if_neg (by simp only [manyN]; omega)]; rfl
          refine z_iconst F dX8_timers_116 ?_
          exact z_zret F hr hlocks hZ (bI_0 (by rw [e]; exact fun q => by cases q)) (by omega) (by rw [e]; rfl) dX8_timers_117 (by omega) (by omega)
        · skip
          refine z_aload_n F dX8_timers_73 rfl (lv_at hl 0 rfl) ?_
          refine z_iload_n F dX8_timers_74 rfl (lv_at hl 1 rfl) ?_
          refine z_iconst F dX8_timers_75 ?_
          refine z_aload_n F dX8_timers_76 rfl (lv_at hl 0 rfl) ?_
          refine z_iload_n F dX8_timers_77 rfl (lv_at hl 1 rfl) ?_
          refine z_iconst F dX8_timers_78 ?_
          refine z_bxi hZ (va_runV (As := [.int (zI (x)), .int (zI (0))]) (rest := [.int (zI (2)), .int (zI (x)), .ref (w.2.1 + (64))]) F (k_X8_get l w dom A hDA sz G hd x 0 (by omega)) (cwV 2 F.2.2.2.2 gX8_timers_X8_get rfl rfl rfl (by decide +kernel) ⟨Nat.le_of_ble_eq_true rfl, Nat.le_of_ble_eq_true rfl⟩) (z_preV hK hZ (64) (hd _ (by omega)) rfl (by decide) rfl _) rfl rfl hl.1 rfl (lv_room (Nat.le_of_ble_eq_true rfl)) dX8_timers_79 ⟨Nat.le_of_ble_eq_true rfl, Nat.le_of_ble_eq_true rfl⟩) (fun H locs hZ => ?_)
          have r_23 := hZ.2.1.1 (67) (20 * x + 0)
          refine z_aload_n F dX8_timers_82 rfl (lv_at hl 0 rfl) ?_
          refine z_iload_n F dX8_timers_83 rfl (lv_at hl 1 rfl) ?_
          refine z_iconst F dX8_timers_84 ?_
          refine z_bxi hZ (va_runV (As := [.int (zI (x)), .int (zI (1))]) (rest := [.int (zI (G 67 (20 * x + 0))), .int (zI (2)), .int (zI (x)), .ref (w.2.1 + (64))]) F (k_X8_get l w dom A hDA sz G hd x 1 (by omega)) (cwV 2 F.2.2.2.2 gX8_timers_X8_get rfl rfl rfl (by decide +kernel) ⟨Nat.le_of_ble_eq_true rfl, Nat.le_of_ble_eq_true rfl⟩) (z_preV hK hZ (64) (hd _ (by omega)) rfl (by decide) rfl _) rfl rfl hl.1 rfl (lv_room (Nat.le_of_ble_eq_true rfl)) dX8_timers_85 ⟨Nat.le_of_ble_eq_true rfl, Nat.le_of_ble_eq_true rfl⟩) (fun H locs hZ => ?_)
          have r_24 := hZ.2.1.1 (67) (20 * x + 1)
          refine z_bipush F (by decide) dX8_timers_88 ?_
          refine z_bxi hZ (va_runV (As := [.int (zI (x)), .int (zI (2)), .int (zI (G 67 (20 * x + 0))), .int (zI (G 67 (20 * x + 1))), .int (zI (-2))]) (rest := []) F (k_X8_voted l w dom A hDA sz G hd (by omega) x 2 (G 67 (20 * x + 0)) (G 67 (20 * x + 1)) (-2) (by omega) (by omega) (by omega) (by omega) (by omega) (by omega)) (cwV 5 F.2.2.2.2 gX8_timers_X8_voted rfl rfl rfl (by decide +kernel) ⟨Nat.le_of_ble_eq_true rfl, Nat.le_of_ble_eq_true rfl⟩) (z_preV hK hZ (64) (hd _ (by omega)) rfl (by decide) rfl _) rfl rfl hl.1 rfl (lv_room (Nat.le_of_ble_eq_true rfl)) dX8_timers_90 ⟨Nat.le_of_ble_eq_true rfl, Nat.le_of_ble_eq_true rfl⟩) (fun H locs hZ => ?_)
          have r_25 := voteN_rng G x 2 (G 67 (20 * x + 0)) (G 67 (20 * x + 1)) (-2)
          refine z_aload_n F dX8_timers_93 rfl (lv_at hl 0 rfl) ?_
          refine z_bxi hZ (va_runV (As := []) (rest := [.int (zI (voteN G x 2 (G 67 (20 * x + 0)) (G 67 (20 * x + 1)) (-2)))]) F (k_X8_many l w dom A hDA sz G hd (by omega)) (cwV 0 F.2.2.2.2 gX8_timers_X8_many rfl rfl rfl (by decide +kernel) ⟨Nat.le_of_ble_eq_true rfl, Nat.le_of_ble_eq_true rfl⟩) (z_preV hK hZ (64) (hd _ (by omega)) rfl (by decide) rfl _) rfl rfl hl.1 rfl (lv_room (Nat.le_of_ble_eq_true rfl)) dX8_timers_94 ⟨Nat.le_of_ble_eq_true rfl, Nat.le_of_ble_eq_true rfl⟩) (fun H locs hZ => ?_)
          refine z_icmp_lt (tgt := 116) F (by omega) (by omega) dX8_timers_97 (by decide) (fun c_97 => ?_) (fun c_97 => ?_)
          · skip
            have e : timersM G x = none := by rw [timersM, hno, tim2M, if_neg (by simp only [manyN]; omega)]; rfl
            refine z_iconst F dX8_timers_116 ?_
            exact z_zret F hr hlocks hZ (bI_0 (by rw [e]; exact fun q => by cases q)) (by omega) (by rw [e]; rfl) dX8_timers_117 (by omega) (by omega)
          · skip
            refine z_aload_n F dX8_timers_100 rfl (lv_at hl 0 rfl) ?_
            refine z_iload_n F dX8_timers_101 rfl (lv_at hl 1 rfl) ?_
            refine z_bipush F (by decide) dX8_timers_102 ?_
            refine z_iconst F dX8_timers_104 ?_
            refine z_bxv hZ (va_runV (As := [.int (zI (x)), .int (zI (10)), .int (zI (1))]) (rest := []) F (k_X8_set l w dom A hDA sz G hd x 10 1 (by omega) (by omega)) (cwV 3 F.2.2.2.2 gX8_timers_X8_set rfl rfl rfl (by decide +kernel) ⟨Nat.le_of_ble_eq_true rfl, Nat.le_of_ble_eq_true rfl⟩) (z_preV hK hZ (64) (hd _ (by omega)) rfl (by decide) rfl _) rfl rfl hl.1 rfl (lv_room (Nat.le_of_ble_eq_true rfl)) dX8_timers_105 ⟨Nat.le_of_ble_eq_true rfl, Nat.le_of_ble_eq_true rfl⟩) (fun H locs hZ => ?_)
            refine z_aload_n F dX8_timers_108 rfl (lv_at hl 0 rfl) ?_
            refine z_iload_n F dX8_timers_109 rfl (lv_at hl 1 rfl) ?_
            refine z_iconst F dX8_timers_110 ?_
            have n_26 : (setM G x 10 1) 64 0 = G 64 0 := rfl
            have n_27 : (setM G x 10 1) 64 7 = G 64 7 := rfl
            have n_28 : (setM G x 10 1) 67 (20 * x + 0) = G 67 (20 * x + 0) := by rw [setM_ne _ _ _ _ _ (by omega)]
            have n_29 : (setM G x 10 1) 67 (20 * x + 1) = G 67 (20 * x + 1) := by rw [setM_ne _ _ _ _ _ (by omega)]
            refine z_bxv hZ (va_runV (As := [.int (zI (x)), .int (zI (2))]) (rest := []) F (k_X8_setTimer l w dom A hDA sz (setM G x 10 1) hd x 2 (by omega) (by omega) (by omega) (by omega)) (cwV 2 F.2.2.2.2 gX8_timers_X8_setTimer rfl rfl rfl (by decide +kernel) ⟨Nat.le_of_ble_eq_true rfl, Nat.le_of_ble_eq_true rfl⟩) (z_preV hK hZ (64) (hd _ (by omega)) rfl (by decide) rfl _) rfl rfl hl.1 rfl (lv_room (Nat.le_of_ble_eq_true rfl)) dX8_timers_111 ⟨Nat.le_of_ble_eq_true rfl, Nat.le_of_ble_eq_true rfl⟩) (fun H locs hZ => ?_)
            have e : timersM G x = some (setTimerM (setM G x 10 1) x 2) := by rw [timersM, hno, tim2M, if_pos (by simp only [manyN]; omega)]; rfl
            refine z_iconst F dX8_timers_114 ?_
            exact z_zret F hr hlocks hZ (bI_1 (by rw [e]; rfl)) (by omega) (by rw [e]; rfl) dX8_timers_115 (by omega) (by omega)
      · skip
        refine z_aload_n F dX8_timers_47 rfl (lv_at hl 0 rfl) ?_
        refine z_iload_n F dX8_timers_48 rfl (lv_at hl 1 rfl) ?_
        refine z_bipush F (by decide) dX8_timers_49 ?_
        refine z_iconst F dX8_timers_51 ?_
        refine z_bxv hZ (va_runV (As := [.int (zI (x)), .int (zI (9)), .int (zI (1))]) (rest := []) F (k_X8_set l w dom A hDA sz G hd x 9 1 (by omega) (by omega)) (cwV 3 F.2.2.2.2 gX8_timers_X8_set rfl rfl rfl (by decide +kernel) ⟨Nat.le_of_ble_eq_true rfl, Nat.le_of_ble_eq_true rfl⟩) (z_preV hK hZ (64) (hd _ (by omega)) rfl (by decide) rfl _) rfl rfl hl.1 rfl (lv_room (Nat.le_of_ble_eq_true rfl)) dX8_timers_52 ⟨Nat.le_of_ble_eq_true rfl, Nat.le_of_ble_eq_true rfl⟩) (fun H locs hZ => ?_)
        refine z_aload_n F dX8_timers_55 rfl (lv_at hl 0 rfl) ?_
        refine z_iload_n F dX8_timers_56 rfl (lv_at hl 1 rfl) ?_
        refine z_iconst F dX8_timers_57 ?_
        have n_30 : (setM G x 9 1) 64 0 = G 64 0 := rfl
        have n_31 : (setM G x 9 1) 64 7 = G 64 7 := rfl
        have n_32 : (setM G x 9 1) 67 (20 * x + 0) = G 67 (20 * x + 0) := by rw [setM_ne _ _ _ _ _ (by omega)]
        have n_33 : (setM G x 9 1) 67 (20 * x + 1) = G 67 (20 * x + 1) := by rw [setM_ne _ _ _ _ _ (by omega)]
        refine z_bxv hZ (va_runV (As := [.int (zI (x)), .int (zI (1))]) (rest := []) F (k_X8_setTimer l w dom A hDA sz (setM G x 9 1) hd x 1 (by omega) (by omega) (by omega) (by omega)) (cwV 2 F.2.2.2.2 gX8_timers_X8_setTimer rfl rfl rfl (by decide +kernel) ⟨Nat.le_of_ble_eq_true rfl, Nat.le_of_ble_eq_true rfl⟩) (z_preV hK hZ (64) (hd _ (by omega)) rfl (by decide) rfl _) rfl rfl hl.1 rfl (lv_room (Nat.le_of_ble_eq_true rfl)) dX8_timers_58 ⟨Nat.le_of_ble_eq_true rfl, Nat.le_of_ble_eq_true rfl⟩) (fun H locs hZ => ?_)
        have e : timersM G x = some (setTimerM (setM G x 9 1) x 1) := by rw [timersM, tim1M, if_pos (by simp only [manyN]; omega)]; rfl
        refine z_iconst F dX8_timers_61 ?_
        exact z_zret F hr hlocks hZ (bI_1 (by rw [e]; rfl)) (by omega) (by rw [e]; rfl) dX8_timers_62 (by omega) (by omega)
