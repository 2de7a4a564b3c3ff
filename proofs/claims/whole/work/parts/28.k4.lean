theorem mX2_reach_7 : Cond.fieldLink RX2 7 "LockedChain$Letter" "came" "I" ∈ wsX2_reach := by decide +kernel
set_option maxHeartbeats 4000000 in
set_option maxRecDepth 100000 in
theorem k_X2_reach (l : Launch) (w : zW) (dom : Nat → Prop) (A : Nat → Prop) (hDA : ∀ i, dom i → A (w.2.1 + i)) (sz : Nat) (G : zM) (y : Nat) (hl0 : dom (71 + y)) (x : Int) (hx : -2147483648 ≤ x ∧ x < 2147483648) : Met l yX2_reach wsX2_reach { frames := 0, cells := 0, slots := 0, locals := 0 } (zPre w dom sz G [.ref (w.2.1 + (71 + y)), .int (zI (x))]) (zQv w dom sz (fun C => C = up G (71 + y) 6 (orS (G (71 + y) 6) x)) A) (0) (0) A := by
  refine Met.ofW (cc := cX2_reach) (maxL := 2) (ret := none) (by decide) rfl ?_
  intro p e s m args below meth c s₁ B hml hv
  obtain ⟨rfl, hsz, hP, hK⟩ := hv
  have F : CallFix p m c cX2_reach 2 s _ wsX2_reach RX2 := ⟨B.exec, B.bytes, hml, findClass_of_methodNamed B.named, atoms_spec (ws := wsX2_reach) B.pre⟩
  have hr := B.returns
  have hlocks := B.notSynchronized
  have hZ : Zs w dom A s.heap sz G s.heap [] := ⟨hsz, hP, va_S.rf⟩
  have hl := lv_entry ([.ref (w.2.1 + (71 + y)), .int (zI (x))]) (n := 2) (Nat.le_of_ble_eq_true rfl)
  rw [lg_entry_eq]
  generalize (lg_sl ([.ref (w.2.1 + (71 + y)), .int (zI (x))]) ++ List.replicate (2 - (lg_sl ([.ref (w.2.1 + (71 + y)), .int (zI (x))])).length) Slot.unset).toArray = ls at hl ⊢
  have hl : lv_has ls 2 [(0, .ref (w.2.1 + (71 + y))), (1, .int (zI (x)))] := hl
  have hin2 : ∀ v ∈ u_ws RX2 TX2 8, v ∈ wsX2_reach := by decide +kernel
  have hor : -2147483648 ≤ bOr (G (71 + y) 6) (bShl 1 x) ∧ bOr (G (71 + y) 6) (bShl 1 x) < 2147483648 := bOr_rng _ _
  refine z_aload_n F dX2_reach_0 rfl (lv_at hl 0 rfl) ?_
  refine lv_dup F.1 F.2.1 dX2_reach_1 rfl ?_
  refine z_get F hK hZ (71 + y) hl0 (shp_let y) (by decide) rfl hin2 6 (by decide) mX2_reach_7 rfl rfl dX2_reach_2 ?_
  have r_1 := hZ.2.1.1 (71 + y) (6)
  refine z_iconst F dX2_reach_5 ?_
  refine z_iload_n F dX2_reach_6 rfl (lv_at hl 1 rfl) ?_
  refine z_ishl F dX2_reach_7 ?_
  refine z_ior F dX2_reach_8 ?_
  refine z_put (z := bOr (G (71 + y) 6) (bShl 1 x)) F hK hZ hDA (71 + y) hl0 (shp_let y) (by decide) rfl hin2 tyX2 tyX2_ok nmX2 6 (by decide) mX2_reach_7 rfl rfl rfl rfl (by omega) (kz := 6) rfl rfl (Nat.le_of_ble_eq_true rfl) dX2_reach_9 (fun H locs hZ => ?_)
  exact z_vret F hr hlocks hZ rfl dX2_reach_12 (by omega) (by omega)

theorem mX2_cameTo_7 : Cond.fieldLink RX2 7 "LockedChain$Letter" "came" "I" ∈ wsX2_cameTo := by decide +kernel
set_option maxHeartbeats 4000000 in
set_option maxRecDepth 100000 in
theorem k_X2_cameTo (l : Launch) (w : zW) (dom : Nat → Prop) (A : Nat → Prop) (hDA : ∀ i, dom i → A (w.2.1 + i)) (sz : Nat) (G : zM) (y : Nat) (hl0 : dom (71 + y)) (hz : 0 ≤ G (71 + y) 6 ∧ G (71 + y) 6 < 128) (x : Int) (hx : 0 ≤ x ∧ x < 7) : Met l yX2_cameTo wsX2_cameTo { frames := 0, cells := 0, slots := 0, locals := 0 } (zPre w dom sz G [.ref (w.2.1 + (71 + y)), .int (zI (x))]) (zQi w dom sz (bI (bitZ (G (71 + y) 6) x = 1)) (fun C => C = G) A) (0) (0) A := by
  refine Met.ofW (cc := cX2_cameTo) (maxL := 2) (ret := (some .boolean)) (by decide) rfl ?_
  intro p e s m args below meth c s₁ B hml hv
  obtain ⟨rfl, hsz, hP, hK⟩ := hv
  have F : CallFix p m c cX2_cameTo 2 s _ wsX2_cameTo RX2 := ⟨B.exec, B.bytes, hml, findClass_of_methodNamed B.named, atoms_spec (ws := wsX2_cameTo) B.pre⟩
  have hr := B.returns
  have hlocks := B.notSynchronized
  have hZ : Zs w dom A s.heap sz G s.heap [] := ⟨hsz, hP, va_S.rf⟩
  have hl := lv_entry ([.ref (w.2.1 + (71 + y)), .int (zI (x))]) (n := 2) (Nat.le_of_ble_eq_true rfl)
  rw [lg_entry_eq]
  generalize (lg_sl ([.ref (w.2.1 + (71 + y)), .int (zI (x))]) ++ List.replicate (2 - (lg_sl ([.ref (w.2.1 + (71 + y)), .int (zI (x))])).length) Slot.unset).toArray = ls at hl ⊢
  have hl : lv_has ls 2 [(0, .ref (w.2.1 + (71 + y))), (1, .int (zI (x)))] := hl
  have hin2 : ∀ v ∈ u_ws RX2 TX2 8, v ∈ wsX2_cameTo := by decide +kernel
  have hb := bitA_ok hz hx
  have hbr : -2147483648 ≤ bAnd (bShr (G (71 + y) 6) x) 1 ∧ bAnd (bShr (G (71 + y) 6) x) 1 < 2147483648 := bAnd_rng _ _
  refine z_aload_n F dX2_cameTo_0 rfl (lv_at hl 0 rfl) ?_
  refine z_get F hK hZ (71 + y) hl0 (shp_let y) (by decide) rfl hin2 6 (by decide) mX2_cameTo_7 rfl rfl dX2_cameTo_1 ?_
  have r_1 := hZ.2.1.1 (71 + y) (6)
  refine z_iload_n F dX2_cameTo_4 rfl (lv_at hl 1 rfl) ?_
  refine z_ishr F dX2_cameTo_5 ?_
  refine z_iconst F dX2_cameTo_6 ?_
  refine z_iand F dX2_cameTo_7 ?_
  refine z_iconst F dX2_cameTo_8 ?_
  refine z_icmp_ne (tgt := 16) F (by omega) (by omega) dX2_cameTo_9 (by decide) (fun c_9 => ?_) (fun c_9 => ?_)
  · skip
    refine z_iconst F dX2_cameTo_16 ?_
    exact z_zret F hr hlocks hZ (by rw [← hb]; first | exact bI_1 c_9 | exact bI_0 c_9) (by omega) rfl dX2_cameTo_17 (by omega) (by omega)
  · skip
    refine z_iconst F dX2_cameTo_12 ?_
    refine lv_goto (tgt := 17) F.1 F.2.1 dX2_cameTo_13 (by decide) ?_
    exact z_zret F hr hlocks hZ (by rw [← hb]; first | exact bI_1 c_9 | exact bI_0 c_9) (by omega) rfl dX2_cameTo_17 (by omega) (by omega)

theorem mX2_isUnlike_13 : Cond.fieldLink RX2 13 "LockedChain$Letter" "value" "I" ∈ wsX2_isUnlike := by decide +kernel
theorem mX2_isUnlike_16 : Cond.fieldLink RX2 16 "LockedChain$Letter" "vr" "I" ∈ wsX2_isUnlike := by decide +kernel
set_option maxHeartbeats 4000000 in
set_option maxRecDepth 100000 in
theorem k_X2_isUnlike (l : Launch) (w : zW) (dom : Nat → Prop) (A : Nat → Prop) (hDA : ∀ i, dom i → A (w.2.1 + i)) (sz : Nat) (G : zM) (y : Nat) (hl0 : dom (71 + y)) (o : Int) (ho : 0 ≤ o → ∃ q : Nat, o = ((71 + q : Nat) : Int) ∧ dom (71 + q)) : Met l yX2_isUnlike wsX2_isUnlike { frames := 0, cells := 0, slots := 0, locals := 0 } (zPre w dom sz G [.ref (w.2.1 + (71 + y)), zV w (o)]) (zQi w dom sz (bI (0 ≤ o ∧ (G (71 + y) 4 ≠ G o.toNat 4 ∨ G (71 + y) 5 ≠ G o.toNat 5))) (fun C => C = G) A) (0) (0) A := by
  refine Met.ofW (cc := cX2_isUnlike) (maxL := 2) (ret := (some .boolean)) (by decide) rfl ?_
  intro p e s m args below meth c s₁ B hml hv
  obtain ⟨rfl, hsz, hP, hK⟩ := hv
  have F : CallFix p m c cX2_isUnlike 2 s _ wsX2_isUnlike RX2 := ⟨B.exec, B.bytes, hml, findClass_of_methodNamed B.named, atoms_spec (ws := wsX2_isUnlike) B.pre⟩
  have hr := B.returns
  have hlocks := B.notSynchronized
  have hZ : Zs w dom A s.heap sz G s.heap [] := ⟨hsz, hP, va_S.rf⟩
  have hl := lv_entry ([.ref (w.2.1 + (71 + y)), zV w (o)]) (n := 2) (by unfold zV; (repeat' split) <;> exact Nat.le_of_ble_eq_true rfl)
  rw [lg_entry_eq]
  generalize (lg_sl ([.ref (w.2.1 + (71 + y)), zV w (o)]) ++ List.replicate (2 - (lg_sl ([.ref (w.2.1 + (71 + y)), zV w (o)])).length) Slot.unset).toArray = ls at hl ⊢
  have hl : lv_has ls 2 [(0, .ref (w.2.1 + (71 + y))), (1, zV w (o))] := by have e : lv_args 0 ([.ref (w.2.1 + (71 + y)), zV w (o)]) = [(0, .ref (w.2.1 + (71 + y))), (1, zV w (o))] := (by unfold zV; (repeat' split) <;> rfl); rw [e] at hl; exact hl
  have hin2 : ∀ v ∈ u_ws RX2 TX2 8, v ∈ wsX2_isUnlike := by decide +kernel
  refine z_vload_n (w := w) F dX2_isUnlike_0 rfl (lv_at hl 1 rfl) ?_
  refine z_ifnull (tgt := 30) F dX2_isUnlike_1 (by decide) (fun c_1 => ?_) (fun c_1 => ?_)
  · skip
    refine z_iconst F dX2_isUnlike_30 ?_
    exact z_zret F hr hlocks hZ (by first | exact bI_0 (fun z => by omega) | (rw [hq, show (((71 + q : Nat) : Int)).toNat = 71 + q from rfl]; first | exact bI_1 ⟨by omega, Or.inl c_12⟩ | exact bI_1 ⟨by omega, Or.inr c_23⟩ | exact bI_0 (fun z => z.2.elim (fun y => y (by assumption)) (fun y => y (by assumption))))) (by omega) rfl dX2_isUnlike_31 (by omega) (by omega)
  · skip
    obtain ⟨q, hq, hqd⟩ := ho (by assumption)
    rw [hq, zV_nat] at hl
    refine z_aload_n F dX2_isUnlike_4 rfl (lv_at hl 0 rfl) ?_
    refine z_get F hK hZ (71 + y) hl0 (shp_let y) (by decide) rfl hin2 4 (by decide) mX2_isUnlike_13 rfl rfl dX2_isUnlike_5 ?_
    have r_1 := hZ.2.1.1 (71 + y) (4)
    refine z_aload_n F dX2_isUnlike_8 rfl (lv_at hl 1 rfl) ?_
    refine z_get F hK hZ (71 + q) hqd (shp_let q) (by decide) rfl hin2 4 (by decide) mX2_isUnlike_13 rfl rfl dX2_isUnlike_9 ?_
    have r_2 := hZ.2.1.1 (71 + q) (4)
    refine z_icmp_ne (tgt := 26) F (by omega) (by omega) dX2_isUnlike_12 (by decide) (fun c_12 => ?_) (fun c_12 => ?_)
    · skip
      refine z_iconst F dX2_isUnlike_26 ?_
      refine lv_goto (tgt := 31) F.1 F.2.1 dX2_isUnlike_27 (by decide) ?_
      exact z_zret F hr hlocks hZ (by first | exact bI_0 (fun z => by omega) | (rw [hq, show (((71 + q : Nat) : Int)).toNat = 71 + q from rfl]; first | exact bI_1 ⟨by omega, Or.inl c_12⟩ | exact bI_1 ⟨by omega, Or.inr c_23⟩ | exact bI_0 (fun z => z.2.elim (fun y => y (by assumption)) (fun y => y (by assumption))))) (by omega) rfl dX2_isUnlike_31 (by omega) (by omega)
    · skip
      refine z_aload_n F dX2_isUnlike_15 rfl (lv_at hl 0 rfl) ?_
      refine z_get F hK hZ (71 + y) hl0 (shp_let y) (by decide) rfl hin2 5 (by decide) mX2_isUnlike_16 rfl rfl dX2_isUnlike_16 ?_
      have r_3 := hZ.2.1.1 (71 + y) (5)
      refine z_aload_n F dX2_isUnlike_19 rfl (lv_at hl 1 rfl) ?_
      refine z_get F hK hZ (71 + q) hqd (shp_let q) (by decide) rfl hin2 5 (by decide) mX2_isUnlike_16 rfl rfl dX2_isUnlike_20 ?_
      have r_4 := hZ.2.1.1 (71 + q) (5)
      refine z_icmp_eq (tgt := 30) F (by omega) (by omega) dX2_isUnlike_23 (by decide) (fun c_23 => ?_) (fun c_23 => ?_)
      · skip
        refine z_iconst F dX2_isUnlike_30 ?_
        exact z_zret F hr hlocks hZ (by first | exact bI_0 (fun z => by omega) | (rw [hq, show (((71 + q : Nat) : Int)).toNat = 71 + q from rfl]; first | exact bI_1 ⟨by omega, Or.inl c_12⟩ | exact bI_1 ⟨by omega, Or.inr c_23⟩ | exact bI_0 (fun z => z.2.elim (fun y => y (by assumption)) (fun y => y (by assumption))))) (by omega) rfl dX2_isUnlike_31 (by omega) (by omega)
      · skip
        refine z_iconst F dX2_isUnlike_26 ?_
        refine lv_goto (tgt := 31) F.1 F.2.1 dX2_isUnlike_27 (by decide) ?_
        exact z_zret F hr hlocks hZ (by first | exact bI_0 (fun z => by omega) | (rw [hq, show (((71 + q : Nat) : Int)).toNat = 71 + q from rfl]; first | exact bI_1 ⟨by omega, Or.inl c_12⟩ | exact bI_1 ⟨by omega, Or.inr c_23⟩ | exact bI_0 (fun z => z.2.elim (fun y => y (by assumption)) (fun y => y (by assumption))))) (by omega) rfl dX2_isUnlike_31 (by omega) (by omega)

set_option maxHeartbeats 4000000 in
set_option maxRecDepth 100000 in
theorem k_X7_slot (l : Launch) (w : zW) (dom : Nat → Prop) (A : Nat → Prop) (hDA : ∀ i, dom i → A (w.2.1 + i)) (sz : Nat) (G : zM) (kd h r : Int) (hkd : -2147483648 ≤ kd ∧ kd < 2147483648) (hh : -2147483648 ≤ h ∧ h < 2147483648) (hr : -2147483648 ≤ r ∧ r < 2147483648) : Met l yX7_slot wsX7_slot { frames := 0, cells := 0, slots := 0, locals := 0 } (zPre w dom sz G [.int (zI (kd)), .int (zI (h)), .int (zI (r))]) (zQi w dom sz (slF kd h r) (fun C => C = G) A) (0) (0) A := by
  refine Met.ofW (cc := cX7_slot) (maxL := 3) (ret := (some .int)) (by decide) rfl ?_
  intro p e s m args below meth c s₁ B hml hv
  obtain ⟨rfl, hsz, hP, hK⟩ := hv
  have F : CallFix p m c cX7_slot 3 s _ wsX7_slot RX7 := ⟨B.exec, B.bytes, hml, findClass_of_methodNamed B.named, atoms_spec (ws := wsX7_slot) B.pre⟩
  have hr := B.returns
  have hlocks := B.notSynchronized
  have hZ : Zs w dom A s.heap sz G s.heap [] := ⟨hsz, hP, va_S.rf⟩
  have hl := lv_entry ([.int (zI (kd)), .int (zI (h)), .int (zI (r))]) (n := 3) (Nat.le_of_ble_eq_true rfl)
  rw [lg_entry_eq]
  generalize (lg_sl ([.int (zI (kd)), .int (zI (h)), .int (zI (r))]) ++ List.replicate (3 - (lg_sl ([.int (zI (kd)), .int (zI (h)), .int (zI (r))])).length) Slot.unset).toArray = ls at hl ⊢
  have hl : lv_has ls 3 [(0, .int (zI (kd))), (1, .int (zI (h))), (2, .int (zI (r)))] := hl
  refine z_iload_n F dX7_slot_0 rfl (lv_at hl 0 rfl) ?_
  refine z_if_lt (tgt := 29) F (by omega) dX7_slot_1 (by decide) (fun c_1 => ?_) (fun c_1 => ?_)
  · skip
    refine z_iconst F dX7_slot_29 ?_
    exact z_iret F hr hlocks hZ (by unfold slF; first | rw [if_pos (by omega)] | rw [if_neg (by omega)]) rfl dX7_slot_30 (by omega) (by omega)
  · skip
    refine z_iload_n F dX7_slot_4 rfl (lv_at hl 0 rfl) ?_
    refine z_iconst F dX7_slot_5 ?_
    refine z_icmp_ge (tgt := 29) F (by omega) (by omega) dX7_slot_6 (by decide) (fun c_6 => ?_) (fun c_6 => ?_)
    · skip
      refine z_iconst F dX7_slot_29 ?_
      exact z_iret F hr hlocks hZ (by unfold slF; first | rw [if_pos (by omega)] | rw [if_neg (by omega)]) rfl dX7_slot_30 (by omega) (by omega)
    · skip
      refine z_iload_n F dX7_slot_9 rfl (lv_at hl 1 rfl) ?_
      refine z_if_lt (tgt := 29) F (by omega) dX7_slot_10 (by decide) (fun c_10 => ?_) (fun c_10 => ?_)
      · skip
        refine z_iconst F dX7_slot_29 ?_
        exact z_iret F hr hlocks hZ (by unfold slF; first | rw [if_pos (by omega)] | rw [if_neg (by omega)]) rfl dX7_slot_30 (by omega) (by omega)
      · skip
        refine z_iload_n F dX7_slot_13 rfl (lv_at hl 1 rfl) ?_
        refine z_bipush F (by decide) dX7_slot_14 ?_
        refine z_icmp_ge (tgt := 29) F (by omega) (by omega) dX7_slot_16 (by decide) (fun c_16 => ?_) (fun c_16 => ?_)
        · skip
          refine z_iconst F dX7_slot_29 ?_
          exact z_iret F hr hlocks hZ (by unfold slF; first | rw [if_pos (by omega)] | rw [if_neg (by omega)]) rfl dX7_slot_30 (by omega) (by omega)
        · skip
          refine z_iload_n F dX7_slot_19 rfl (lv_at hl 2 rfl) ?_
          refine z_if_lt (tgt := 29) F (by omega) dX7_slot_20 (by decide) (fun c_20 => ?_) (fun c_20 => ?_)
          · skip
            refine z_iconst F dX7_slot_29 ?_
            exact z_iret F hr hlocks hZ (by unfold slF; first | rw [if_pos (by omega)] | rw [if_neg (by omega)]) rfl dX7_slot_30 (by omega) (by omega)
          · skip
            refine z_iload_n F dX7_slot_23 rfl (lv_at hl 2 rfl) ?_
            refine z_bipush F (by decide) dX7_slot_24 ?_
            refine z_icmp_lt (tgt := 31) F (by omega) (by omega) dX7_slot_26 (by decide) (fun c_26 => ?_) (fun c_26 => ?_)
            · skip
              refine z_iload_n F dX7_slot_31 rfl (lv_at hl 0 rfl) ?_
              refine z_bipush F (by decide) dX7_slot_32 ?_
              refine z_imul F dX7_slot_34 ?_
              refine z_iload_n F dX7_slot_35 rfl (lv_at hl 1 rfl) ?_
              refine z_iadd F dX7_slot_36 ?_
              refine z_bipush F (by decide) dX7_slot_37 ?_
              refine z_imul F dX7_slot_39 ?_
              refine z_iload_n F dX7_slot_40 rfl (lv_at hl 2 rfl) ?_
              refine z_iadd F dX7_slot_41 ?_
              exact z_iret F hr hlocks hZ (by unfold slF; first | rw [if_pos (by omega)] | rw [if_neg (by omega)]) rfl dX7_slot_42 (by omega) (by omega)
            · skip
              refine z_iconst F dX7_slot_29 ?_
              exact z_iret F hr hlocks hZ (by unfold slF; first | rw [if_pos (by omega)] | rw [if_neg (by omega)]) rfl dX7_slot_30 (by omega) (by omega)

theorem mX4_sent_23 : Cond.fieldLink RX4 23 "LockedChain$Post" "sent" "I" ∈ wsX4_sent := by decide +kernel
set_option maxHeartbeats 4000000 in
set_option maxRecDepth 100000 in
theorem k_X4_sent (l : Launch) (w : zW) (dom : Nat → Prop) (A : Nat → Prop) (hDA : ∀ i, dom i → A (w.2.1 + i)) (sz : Nat) (G : zM) (hd : ∀ i, i < 64 → dom i) : Met l yX4_sent wsX4_sent { frames := 0, cells := 0, slots := 0, locals := 0 } (zPre w dom sz G [.ref (w.2.1 + (2))]) (zQi w dom sz (G 2 3) (fun C => C = G) A) (0) (0) A := by
  refine Met.ofW (cc := cX4_sent) (maxL := 1) (ret := (some .int)) (by decide) rfl ?_
  intro p e s m args below meth c s₁ B hml hv
  obtain ⟨rfl, hsz, hP, hK⟩ := hv
  have F : CallFix p m c cX4_sent 1 s _ wsX4_sent RX4 := ⟨B.exec, B.bytes, hml, findClass_of_methodNamed B.named, atoms_spec (ws := wsX4_sent) B.pre⟩
  have hr := B.returns
  have hlocks := B.notSynchronized
  have hZ : Zs w dom A s.heap sz G s.heap [] := ⟨hsz, hP, va_S.rf⟩
  have hl := lv_entry ([.ref (w.2.1 + (2))]) (n := 1) (Nat.le_of_ble_eq_true rfl)
  rw [lg_entry_eq]
  generalize (lg_sl ([.ref (w.2.1 + (2))]) ++ List.replicate (1 - (lg_sl ([.ref (w.2.1 + (2))])).length) Slot.unset).toArray = ls at hl ⊢
  have hl : lv_has ls 1 [(0, .ref (w.2.1 + (2)))] := hl
  have hin4 : ∀ v ∈ u_ws RX4 TX4 4, v ∈ wsX4_sent := by decide +kernel
  refine z_aload_n F dX4_sent_0 rfl (lv_at hl 0 rfl) ?_
  refine z_get F hK hZ (2) (hd _ (by omega)) rfl (by decide) rfl hin4 3 (by decide) mX4_sent_23 rfl rfl dX4_sent_1 ?_
  have r_1 := hZ.2.1.1 (2) (3)
  exact z_iret F hr hlocks hZ (by first | rfl | omega | (simp only [bI]; omega) | (simp only [bI]; split <;> omega)) rfl dX4_sent_4 (by omega) (by omega)

theorem mX4_isFull_11 : Cond.fieldLink RX4 11 "LockedChain$Post" "letters" "[LLockedChain$Letter;" ∈ wsX4_isFull := by decide +kernel
theorem mX4_isFull_23 : Cond.fieldLink RX4 23 "LockedChain$Post" "sent" "I" ∈ wsX4_isFull := by decide +kernel
set_option maxHeartbeats 4000000 in
set_option maxRecDepth 100000 in
theorem k_X4_isFull (l : Launch) (w : zW) (dom : Nat → Prop) (A : Nat → Prop) (hDA : ∀ i, dom i → A (w.2.1 + i)) (sz : Nat) (G : zM) (hd : ∀ i, i < 64 → dom i) : Met l yX4_isFull wsX4_isFull { frames := 0, cells := 0, slots := 0, locals := 0 } (zPre w dom sz G [.ref (w.2.1 + (2))]) (zQi w dom sz (bI (400 ≤ G 2 3)) (fun C => C = G) A) (0) (0) A := by
  refine Met.ofW (cc := cX4_isFull) (maxL := 1) (ret := (some .boolean)) (by decide) rfl ?_
  intro p e s m args below meth c s₁ B hml hv
  obtain ⟨rfl, hsz, hP, hK⟩ := hv
  have F : CallFix p m c cX4_isFull 1 s _ wsX4_isFull RX4 := ⟨B.exec, B.bytes, hml, findClass_of_methodNamed B.named, atoms_spec (ws := wsX4_isFull) B.pre⟩
  have hr := B.returns
  have hlocks := B.notSynchronized
  have hZ : Zs w dom A s.heap sz G s.heap [] := ⟨hsz, hP, va_S.rf⟩
  have hl := lv_entry ([.ref (w.2.1 + (2))]) (n := 1) (Nat.le_of_ble_eq_true rfl)
  rw [lg_entry_eq]
  generalize (lg_sl ([.ref (w.2.1 + (2))]) ++ List.replicate (1 - (lg_sl ([.ref (w.2.1 + (2))])).length) Slot.unset).toArray = ls at hl ⊢
  have hl : lv_has ls 1 [(0, .ref (w.2.1 + (2)))] := hl
  have hin4 : ∀ v ∈ u_ws RX4 TX4 4, v ∈ wsX4_isFull := by decide +kernel
  refine z_aload_n F dX4_isFull_0 rfl (lv_at hl 0 rfl) ?_
  refine z_get F hK hZ (2) (hd _ (by omega)) rfl (by decide) rfl hin4 3 (by decide) mX4_isFull_23 rfl rfl dX4_isFull_1 ?_
  have r_1 := hZ.2.1.1 (2) (3)
  refine z_aload_n F dX4_isFull_4 rfl (lv_at hl 0 rfl) ?_
  refine z_get F hK hZ (2) (hd _ (by omega)) rfl (by decide) rfl hin4 0 (by decide) mX4_isFull_11 rfl rfl dX4_isFull_5 ?_
  refine z_alen F hK hZ (3) (hd _ (by omega)) (by decide) rfl dX4_isFull_8 ?_
  refine z_icmp_lt (tgt := 16) F (by omega) (by omega) dX4_isFull_9 (by decide) (fun c_9 => ?_) (fun c_9 => ?_)
  · skip
    refine z_iconst F dX4_isFull_16 ?_
    exact z_zret F hr hlocks hZ (by first | rfl | omega | (simp only [bI]; omega) | (simp only [bI]; split <;> omega)) (by omega) rfl dX4_isFull_17 (by omega) (by omega)
  · skip
    refine z_iconst F dX4_isFull_12 ?_
    refine lv_goto (tgt := 17) F.1 F.2.1 dX4_isFull_13 (by decide) ?_
    exact z_zret F hr hlocks hZ (by first | rfl | omega | (simp only [bI]; omega) | (simp only [bI]; split <;> omega)) (by omega) rfl dX4_isFull_17 (by omega) (by omega)

theorem mX4_at_11 : Cond.fieldLink RX4 11 "LockedChain$Post" "letters" "[LLockedChain$Letter;" ∈ wsX4_at := by decide +kernel
theorem mX4_at_23 : Cond.fieldLink RX4 23 "LockedChain$Post" "sent" "I" ∈ wsX4_at := by decide +kernel
set_option maxHeartbeats 4000000 in
set_option maxRecDepth 100000 in
theorem k_X4_at (l : Launch) (w : zW) (dom : Nat → Prop) (A : Nat → Prop) (hDA : ∀ i, dom i → A (w.2.1 + i)) (sz : Nat) (G : zM) (hd : ∀ i, i < 64 → dom i) (v : Int) (hv : -2147483648 ≤ v ∧ v < 2147483648) : Met l yX4_at wsX4_at { frames := 0, cells := 0, slots := 0, locals := 0 } (zPre w dom sz G [.ref (w.2.1 + (2)), .int (zI (v))]) (zQr w dom sz ((if 0 ≤ v ∧ v < G 2 3 ∧ v < 400 then G 3 v else -1)) (fun C => C = G) A) (0) (0) A := by
  refine Met.ofW (cc := cX4_at) (maxL := 2) (ret := (some (.object "LockedChain$Letter"))) (by decide) rfl ?_
  intro p e s m args below meth c s₁ B hml hv
  obtain ⟨rfl, hsz, hP, hK⟩ := hv
  have F : CallFix p m c cX4_at 2 s _ wsX4_at RX4 := ⟨B.exec, B.bytes, hml, findClass_of_methodNamed B.named, atoms_spec (ws := wsX4_at) B.pre⟩
  have hr := B.returns
  have hlocks := B.notSynchronized
  have hZ : Zs w dom A s.heap sz G s.heap [] := ⟨hsz, hP, va_S.rf⟩
  have hl := lv_entry ([.ref (w.2.1 + (2)), .int (zI (v))]) (n := 2) (Nat.le_of_ble_eq_true rfl)
  rw [lg_entry_eq]
  generalize (lg_sl ([.ref (w.2.1 + (2)), .int (zI (v))]) ++ List.replicate (2 - (lg_sl ([.ref (w.2.1 + (2)), .int (zI (v))])).length) Slot.unset).toArray = ls at hl ⊢
  have hl : lv_has ls 2 [(0, .ref (w.2.1 + (2))), (1, .int (zI (v)))] := hl
  have hin4 : ∀ v ∈ u_ws RX4 TX4 4, v ∈ wsX4_at := by decide +kernel
  refine z_iload_n F dX4_at_0 rfl (lv_at hl 1 rfl) ?_
  refine z_if_lt (tgt := 30) F (by omega) dX4_at_1 (by decide) (fun c_1 => ?_) (fun c_1 => ?_)
  · skip
    refine lv_null F.1 F.2.1 dX4_at_30 ?_
    rw [← zV_m1 w]
    exact z_aret F hr (Or.inl ⟨_, rfl⟩) hlocks hZ (by first | (rw [if_pos ⟨by assumption, by assumption, by assumption⟩]; done) | (rw [if_neg (fun q => by omega)]; done)) rfl dX4_at_31 (by omega) (by omega)
  · skip
    refine z_iload_n F dX4_at_4 rfl (lv_at hl 1 rfl) ?_
    refine z_aload_n F dX4_at_5 rfl (lv_at hl 0 rfl) ?_
    refine z_get F hK hZ (2) (hd _ (by omega)) rfl (by decide) rfl hin4 3 (by decide) mX4_at_23 rfl rfl dX4_at_6 ?_
    have r_1 := hZ.2.1.1 (2) (3)
    refine z_icmp_ge (tgt := 30) F (by omega) (by omega) dX4_at_9 (by decide) (fun c_9 => ?_) (fun c_9 => ?_)
    · skip
      refine lv_null F.1 F.2.1 dX4_at_30 ?_
      rw [← zV_m1 w]
      exact z_aret F hr (Or.inl ⟨_, rfl⟩) hlocks hZ (by first | (rw [if_pos ⟨by assumption, by assumption, by assumption⟩]; done) | (rw [if_neg (fun q => by omega)]; done)) rfl dX4_at_31 (by omega) (by omega)
    · skip
      refine z_iload_n F dX4_at_12 rfl (lv_at hl 1 rfl) ?_
      refine z_aload_n F dX4_at_13 rfl (lv_at hl 0 rfl) ?_
      refine z_get F hK hZ (2) (hd _ (by omega)) rfl (by decide) rfl hin4 0 (by decide) mX4_at_11 rfl rfl dX4_at_14 ?_
      refine z_alen F hK hZ (3) (hd _ (by omega)) (by decide) rfl dX4_at_17 ?_
      refine z_icmp_ge (tgt := 30) F (by omega) (by omega) dX4_at_18 (by decide) (fun c_18 => ?_) (fun c_18 => ?_)
      · skip
        refine lv_null F.1 F.2.1 dX4_at_30 ?_
        rw [← zV_m1 w]
        exact z_aret F hr (Or.inl ⟨_, rfl⟩) hlocks hZ (by first | (rw [if_pos ⟨by assumption, by assumption, by assumption⟩]; done) | (rw [if_neg (fun q => by omega)]; done)) rfl dX4_at_31 (by omega) (by omega)
      · skip
        refine z_aload_n F dX4_at_21 rfl (lv_at hl 0 rfl) ?_
        refine z_get F hK hZ (2) (hd _ (by omega)) rfl (by decide) rfl hin4 0 (by decide) mX4_at_11 rfl rfl dX4_at_22 ?_
        refine z_iload_n F dX4_at_25 rfl (lv_at hl 1 rfl) ?_
        refine z_aald F hK hZ (3) (hd _ (by omega)) (by decide) rfl (by decide) (by omega) (by omega) dX4_at_26 ?_
        refine lv_goto (tgt := 31) F.1 F.2.1 dX4_at_27 (by decide) ?_
        exact z_aret F hr (Or.inl ⟨_, rfl⟩) hlocks hZ (by first | (rw [if_pos ⟨by assumption, by assumption, by assumption⟩]; done) | (rw [if_neg (fun q => by omega)]; done)) rfl dX4_at_31 (by omega) (by omega)

theorem mX4_first_17 : Cond.fieldLink RX4 17 "LockedChain$Post" "firsts" "[LLockedChain$Letter;" ∈ wsX4_first := by decide +kernel
set_option maxHeartbeats 4000000 in
set_option maxRecDepth 100000 in
theorem k_X4_first (l : Launch) (w : zW) (dom : Nat → Prop) (A : Nat → Prop) (hDA : ∀ i, dom i → A (w.2.1 + i)) (sz : Nat) (G : zM) (hd : ∀ i, i < 64 → dom i) (kd h r : Int) (hk : 0 ≤ kd ∧ kd ≤ 2) (hh : 0 ≤ h ∧ h ≤ 5) (hr : 0 ≤ r ∧ r ≤ 9) : Met l yX4_first wsX4_first { frames := 1, cells := 0, slots := 0, locals := 22 } (zPre w dom sz G [.ref (w.2.1 + (2)), .int (zI (kd)), .int (zI (h)), .int (zI (r))]) (zQr w dom sz (G 4 ((kd * 6 + h) * 10 + r)) (fun C => C = G) A) (0) (0) A := by
  refine Met.ofW (cc := cX4_first) (maxL := 5) (ret := (some (.object "LockedChain$Letter"))) (by decide) rfl ?_
  intro p e s m args below meth c s₁ B hml hv
  obtain ⟨rfl, hsz, hP, hK⟩ := hv
  have F : CallFix p m c cX4_first 5 s _ wsX4_first RX4 := ⟨B.exec, B.bytes, hml, findClass_of_methodNamed B.named, atoms_spec (ws := wsX4_first) B.pre⟩
  have hr := B.returns
  have hlocks := B.notSynchronized
  have hZ : Zs w dom A s.heap sz G s.heap [] := ⟨hsz, hP, va_S.rf⟩
  have hl := lv_entry ([.ref (w.2.1 + (2)), .int (zI (kd)), .int (zI (h)), .int (zI (r))]) (n := 5) (Nat.le_of_ble_eq_true rfl)
  rw [lg_entry_eq]
  generalize (lg_sl ([.ref (w.2.1 + (2)), .int (zI (kd)), .int (zI (h)), .int (zI (r))]) ++ List.replicate (5 - (lg_sl ([.ref (w.2.1 + (2)), .int (zI (kd)), .int (zI (h)), .int (zI (r))])).length) Slot.unset).toArray = ls at hl ⊢
  have hl : lv_has ls 5 [(0, .ref (w.2.1 + (2))), (1, .int (zI (kd))), (2, .int (zI (h))), (3, .int (zI (r)))] := hl
  have hin4 : ∀ v ∈ u_ws RX4 TX4 4, v ∈ wsX4_first := by decide +kernel
  refine z_iload_n F dX4_first_0 rfl (lv_at hl 1 rfl) ?_
  refine z_iload_n F dX4_first_1 rfl (lv_at hl 2 rfl) ?_
  refine z_iload_n F dX4_first_2 rfl (lv_at hl 3 rfl) ?_
  refine z_bxi hZ (va_runSN (As := [.int (zI (kd)), .int (zI (h)), .int (zI (r))]) (rest := []) F (k_X7_slot l w dom A hDA sz G kd h r (by omega) (by omega) (by omega)) ⟨va_cnB 3 F.2.2.2.2 gX4_first_X7_slot_n27 rfl rfl rfl hK.2.1 (F.2.2.2.2 (.initialized RX7) (by decide +kernel)) (by decide +kernel) ⟨Nat.le_of_ble_eq_true rfl, Nat.le_of_ble_eq_true rfl⟩, F.2.2.2.2 (.static yX7_slot) (by decide +kernel), trivial⟩ (z_preS hK hZ _) rfl rfl hl.1 rfl (lv_room (Nat.le_of_ble_eq_true rfl)) dX4_first_3 ⟨Nat.le_of_ble_eq_true rfl, Nat.le_of_ble_eq_true rfl⟩) (fun H locs hZ => ?_)
  refine z_topI (show slF kd h r = (kd * 6 + h) * 10 + r from if_pos (by omega)) ?_
  refine z_istore (lv' := [(4, .int (zI ((kd * 6 + h) * 10 + r))), (0, .ref (w.2.1 + (2))), (1, .int (zI (kd))), (2, .int (zI (h))), (3, .int (zI (r)))]) F dX4_first_6 hl (by decide) rfl (fun ls hl => ?_)
  refine z_iload F dX4_first_8 (lv_at hl 0 rfl) ?_
  refine z_if_lt (tgt := 33) F (by omega) dX4_first_10 (by decide) (fun c_10 => ?_) (fun c_10 => ?_)
  · skip
    refine lv_null F.1 F.2.1 dX4_first_33 ?_
    rw [← zV_m1 w]
    exact z_aret F hr (Or.inl ⟨_, rfl⟩) hlocks hZ (by first | rfl | (exfalso; omega)) rfl dX4_first_34 (by omega) (by omega)
  · skip
    refine z_iload F dX4_first_13 (lv_at hl 0 rfl) ?_
    refine z_aload_n F dX4_first_15 rfl (lv_at hl 1 rfl) ?_
    refine z_get F hK hZ (2) (hd _ (by omega)) rfl (by decide) rfl hin4 1 (by decide) mX4_first_17 rfl rfl dX4_first_16 ?_
    refine z_alen F hK hZ (4) (hd _ (by omega)) (by decide) rfl dX4_first_19 ?_
    refine z_icmp_ge (tgt := 33) F (by omega) (by omega) dX4_first_20 (by decide) (fun c_20 => ?_) (fun c_20 => ?_)
    · skip
      refine lv_null F.1 F.2.1 dX4_first_33 ?_
      rw [← zV_m1 w]
      exact z_aret F hr (Or.inl ⟨_, rfl⟩) hlocks hZ (by first | rfl | (exfalso; omega)) rfl dX4_first_34 (by omega) (by omega)
    · skip
      refine z_aload_n F dX4_first_23 rfl (lv_at hl 1 rfl) ?_
      refine z_get F hK hZ (2) (hd _ (by omega)) rfl (by decide) rfl hin4 1 (by decide) mX4_first_17 rfl rfl dX4_first_24 ?_
      refine z_iload F dX4_first_27 (lv_at hl 0 rfl) ?_
      refine z_aald F hK hZ (4) (hd _ (by omega)) (by decide) rfl (by decide) (by omega) (by omega) dX4_first_29 ?_
      refine lv_goto (tgt := 34) F.1 F.2.1 dX4_first_30 (by decide) ?_
      exact z_aret F hr (Or.inl ⟨_, rfl⟩) hlocks hZ (by first | rfl | (exfalso; omega)) rfl dX4_first_34 (by omega) (by omega)

theorem mX4_clear_17 : Cond.fieldLink RX4 17 "LockedChain$Post" "firsts" "[LLockedChain$Letter;" ∈ wsX4_clear := by decide +kernel
theorem mX4_clear_20 : Cond.fieldLink RX4 20 "LockedChain$Post" "lasts" "[LLockedChain$Letter;" ∈ wsX4_clear := by decide +kernel
theorem mX4_clear_23 : Cond.fieldLink RX4 23 "LockedChain$Post" "sent" "I" ∈ wsX4_clear := by decide +kernel
set_option maxHeartbeats 4000000 in
set_option maxRecDepth 100000 in
theorem k_X4_clear (l : Launch) (w : zW) (dom : Nat → Prop) (A : Nat → Prop) (hDA : ∀ i, dom i → A (w.2.1 + i)) (sz : Nat) (G : zM) (hd : ∀ i, i < 64 → dom i) : Met l yX4_clear wsX4_clear { frames := 0, cells := 0, slots := 0, locals := 0 } (zPre w dom sz G [.ref (w.2.1 + (2))]) (zQv w dom sz (fun C => C = fillM (fillM (up G 2 3 0) 4 0 180 (-1)) 5 0 180 (-1)) A) (0) (0) A := by
  refine Met.ofW (cc := cX4_clear) (maxL := 2) (ret := none) (by decide) rfl ?_
  intro p e s m args below meth c s₁ B hml hv
  obtain ⟨rfl, hsz, hP, hK⟩ := hv
  have F : CallFix p m c cX4_clear 2 s _ wsX4_clear RX4 := ⟨B.exec, B.bytes, hml, findClass_of_methodNamed B.named, atoms_spec (ws := wsX4_clear) B.pre⟩
  have hr := B.returns
  have hlocks := B.notSynchronized
  have hZ : Zs w dom A s.heap sz G s.heap [] := ⟨hsz, hP, va_S.rf⟩
  have hl := lv_entry ([.ref (w.2.1 + (2))]) (n := 2) (Nat.le_of_ble_eq_true rfl)
  rw [lg_entry_eq]
  generalize (lg_sl ([.ref (w.2.1 + (2))]) ++ List.replicate (2 - (lg_sl ([.ref (w.2.1 + (2))])).length) Slot.unset).toArray = ls at hl ⊢
  have hl : lv_has ls 2 [(0, .ref (w.2.1 + (2)))] := hl
  have hin4 : ∀ v ∈ u_ws RX4 TX4 4, v ∈ wsX4_clear := by decide +kernel
  refine z_aload_n F dX4_clear_0 rfl (lv_at hl 0 rfl) ?_
  refine z_iconst F dX4_clear_1 ?_
  refine z_put (z := 0) F hK hZ hDA (2) (hd _ (by omega)) rfl (by decide) rfl hin4 tyX4 tyX4_ok nmX4 3 (by decide) mX4_clear_23 rfl rfl rfl rfl (by omega) (kz := 3) rfl rfl (Nat.le_of_ble_eq_true rfl) dX4_clear_2 (fun H locs hZ => ?_)
  refine z_iconst F dX4_clear_5 ?_
  refine z_istore_n (lv' := [(1, .int (zI (0))), (0, .ref (w.2.1 + (2)))]) F dX4_clear_6 rfl hl (by decide) rfl (fun ls hl => ?_)
  have L_7 : ∀ (nf : Nat) (i : Nat) (M : zM), (181 ≤ i + nf) → (i ≤ 180) → (M = fillM (up G 2 3 0) 4 0 i (-1)) →  ∀ (H : Heap) (locs : List Loc) (ls : Array Slot), Zs w dom A s.heap sz M H locs → lv_has ls 2 [(0, .ref (w.2.1 + (2))), (1, .int (zI ((i : Int))))] → W p l e (headSpec wsX4_clear { frames := 0, cells := 0, slots := 0, locals := 0 }).room s m ([.ref (w.2.1 + (2))] : List Value).toArray below meth c H locs (0) (0) (MQ below (zQv w dom sz (fun C => C = fillM (fillM (up G 2 3 0) 4 0 180 (-1)) 5 0 180 (-1)) A) ([.ref (w.2.1 + (2))] : List Value).toArray s (0) (0) A) (F0 m 7 ls []) := by
    intro nf
    induction nf with
    | zero => intro i  M  h7_0 h7_1 h7_2; exact absurd h7_0 (by omega)
    | succ nf ih_7 =>
      intro i  M  h7_0 h7_1 h7_2 H locs ls hZ hl
      refine z_iload_n F dX4_clear_7 rfl (lv_at hl 1 rfl) ?_
      refine z_aload_n F dX4_clear_8 rfl (lv_at hl 0 rfl) ?_
      refine z_get F hK hZ (2) (hd _ (by omega)) rfl (by decide) rfl hin4 1 (by decide) mX4_clear_17 rfl rfl dX4_clear_9 ?_
      refine z_alen F hK hZ (4) (hd _ (by omega)) (by decide) rfl dX4_clear_12 ?_
      refine z_icmp_ge (tgt := 29) F (by omega) (by omega) dX4_clear_13 (by decide) (fun c_13 => ?_) (fun c_13 => ?_)
      · skip
        refine z_iconst F dX4_clear_29 ?_
        refine z_istore_n (lv' := [(1, .int (zI (0))), (0, .ref (w.2.1 + (2)))]) F dX4_clear_30 rfl hl (by decide) rfl (fun ls hl => ?_)
        have L_31 : ∀ (nf : Nat) (i : Nat) (M : zM), (181 ≤ i + nf) → (i ≤ 180) → (M = fillM (fillM (up G 2 3 0) 4 0 180 (-1)) 5 0 i (-1)) →  ∀ (H : Heap) (locs : List Loc) (ls : Array Slot), Zs w dom A s.heap sz M H locs → lv_has ls 2 [(0, .ref (w.2.1 + (2))), (1, .int (zI ((i : Int))))] → W p l e (headSpec wsX4_clear { frames := 0, cells := 0, slots := 0, locals := 0 }).room s m ([.ref (w.2.1 + (2))] : List Value).toArray below meth c H locs (0) (0) (MQ below (zQv w dom sz (fun C => C = fillM (fillM (up G 2 3 0) 4 0 180 (-1)) 5 0 180 (-1)) A) ([.ref (w.2.1 + (2))] : List Value).toArray s (0) (0) A) (F0 m 31 ls []) := by
          intro nf
          induction nf with
          | zero => intro i  M  h31_0 h31_1 h31_2; exact absurd h31_0 (by omega)
          | succ nf ih_31 =>
            intro i  M  h31_0 h31_1 h31_2 H locs ls hZ hl
            refine z_iload_n F dX4_clear_31 rfl (lv_at hl 1 rfl) ?_
            refine z_aload_n F dX4_clear_32 rfl (lv_at hl 0 rfl) ?_
            refine z_get F hK hZ (2) (hd _ (by omega)) rfl (by decide) rfl hin4 2 (by decide) mX4_clear_20 rfl rfl dX4_clear_33 ?_
            refine z_alen F hK hZ (5) (hd _ (by omega)) (by decide) rfl dX4_clear_36 ?_
            refine z_icmp_ge (tgt := 53) F (by omega) (by omega) dX4_clear_37 (by decide) (fun c_37 => ?_) (fun c_37 => ?_)
            · skip
              exact z_vret F hr hlocks hZ (by rw [h31_2, show i = 180 by omega]) dX4_clear_53 (by omega) (by omega)
            · skip
              refine z_aload_n F dX4_clear_40 rfl (lv_at hl 0 rfl) ?_
              refine z_get F hK hZ (2) (hd _ (by omega)) rfl (by decide) rfl hin4 2 (by decide) mX4_clear_20 rfl rfl dX4_clear_41 ?_
              refine z_iload_n F dX4_clear_44 rfl (lv_at hl 1 rfl) ?_
              refine lv_null F.1 F.2.1 dX4_clear_45 ?_
              refine z_aastN F hK hZ hDA (5) (hd _ (by omega)) rfl (by decide) (by omega) (by omega) dX4_clear_46 (fun H locs hZ => ?_)
              refine z_iinc (k := 1) (z := (i : Int)) (lv' := [(1, .int (zI ((i : Int) + 1))), (0, .ref (w.2.1 + (2)))]) F dX4_clear_47 hl rfl (by decide) rfl (fun ls hl => ?_)
              refine lv_goto (tgt := 31) F.1 F.2.1 dX4_clear_50 (by decide) ?_
              exact ih_31 (i + 1) (up M (5) ((i : Int)) (-1)) (by omega) (by omega) (by rw [h31_2]; exact fillM_S _ _ _ _ _ _ (by omega)) _ _ _ hZ (lv_sub hl [1, 0] rfl)
        exact L_31 181 0 (M) (by omega) (by omega) (by rw [fillM_0, h7_2, show i = 180 by omega]) _ _ _ hZ (lv_sub hl [1, 0] rfl)
      · skip
        refine z_aload_n F dX4_clear_16 rfl (lv_at hl 0 rfl) ?_
        refine z_get F hK hZ (2) (hd _ (by omega)) rfl (by decide) rfl hin4 1 (by decide) mX4_clear_17 rfl rfl dX4_clear_17 ?_
        refine z_iload_n F dX4_clear_20 rfl (lv_at hl 1 rfl) ?_
        refine lv_null F.1 F.2.1 dX4_clear_21 ?_
        refine z_aastN F hK hZ hDA (4) (hd _ (by omega)) rfl (by decide) (by omega) (by omega) dX4_clear_22 (fun H locs hZ => ?_)
        refine z_iinc (k := 1) (z := (i : Int)) (lv' := [(1, .int (zI ((i : Int) + 1))), (0, .ref (w.2.1 + (2)))]) F dX4_clear_23 hl rfl (by decide) rfl (fun ls hl => ?_)
        refine lv_goto (tgt := 7) F.1 F.2.1 dX4_clear_26 (by decide) ?_
        exact ih_7 (i + 1) (up M (4) ((i : Int)) (-1)) (by omega) (by omega) (by rw [h7_2]; exact fillM_S _ _ _ _ _ _ (by omega)) _ _ _ hZ (lv_sub hl [1, 0] rfl)
  exact L_7 181 0 (up G (2) (3) (0)) (by omega) (by omega) (fillM_0 _ _ _ _).symm _ _ _ hZ (lv_sub hl [1, 0] rfl)

theorem mX4_voters_32 : Cond.fieldLink RX4 32 "LockedChain$Letter" "sender" "I" ∈ wsX4_voters := by decide +kernel
theorem mX4_voters_44 : Cond.fieldLink RX4 44 "LockedChain$Letter" "value" "I" ∈ wsX4_voters := by decide +kernel
theorem mX4_voters_53 : Cond.fieldLink RX4 53 "LockedChain$Letter" "next" "LLockedChain$Letter;" ∈ wsX4_voters := by decide +kernel
set_option maxHeartbeats 4000000 in
set_option maxRecDepth 100000 in
theorem k_X4_voters (l : Launch) (w : zW) (dom : Nat → Prop) (A : Nat → Prop) (hDA : ∀ i, dom i → A (w.2.1 + i)) (sz : Nat) (G : zM) (X : zM) (mm : Nat) (hd : ∀ i, i < 64 → dom i) (hdl : ∀ i, 71 ≤ i ∧ i < 71 + mm → dom i) (hS : PostS G X mm) (hI : Inv X) (k x v : Int) (hx : 0 ≤ x ∧ x < 7) (hv : -2147483648 ≤ v ∧ v < 2147483648) : Met l yX4_voters wsX4_voters { frames := 1, cells := 0, slots := 0, locals := 21 } (zPre w dom sz G [zV w (nx X k 0), .int (zI (x)), .int (zI (v))]) (zQi w dom sz (popZ (vM X k x v (X 64 7).toNat)) (fun C => C = G) A) (0) (0) A := by
  refine Met.ofW (cc := cX4_voters) (maxL := 5) (ret := (some .int)) (by decide) rfl ?_
  intro p e s m args below meth c s₁ B hml hv
  obtain ⟨rfl, hsz, hP, hK⟩ := hv
  have F : CallFix p m c cX4_voters 5 s _ wsX4_voters RX4 := ⟨B.exec, B.bytes, hml, findClass_of_methodNamed B.named, atoms_spec (ws := wsX4_voters) B.pre⟩
  have hr := B.returns
  have hlocks := B.notSynchronized
  have hZ : Zs w dom A s.heap sz G s.heap [] := ⟨hsz, hP, va_S.rf⟩
  have hl := lv_entry ([zV w (nx X k 0), .int (zI (x)), .int (zI (v))]) (n := 5) (by unfold zV; (repeat' split) <;> exact Nat.le_of_ble_eq_true rfl)
  rw [lg_entry_eq]
  generalize (lg_sl ([zV w (nx X k 0), .int (zI (x)), .int (zI (v))]) ++ List.replicate (5 - (lg_sl ([zV w (nx X k 0), .int (zI (x)), .int (zI (v))])).length) Slot.unset).toArray = ls at hl ⊢
  have hl : lv_has ls 5 [(0, zV w (nx X k 0)), (1, .int (zI (x))), (2, .int (zI (v)))] := by have e : lv_args 0 ([zV w (nx X k 0), .int (zI (x)), .int (zI (v))]) = [(0, zV w (nx X k 0)), (1, .int (zI (x))), (2, .int (zI (v)))] := (by unfold zV; (repeat' split) <;> rfl); rw [e] at hl; exact hl
  have hin2 : ∀ v ∈ u_ws RX2 TX2 8, v ∈ wsX4_voters := by decide +kernel
  obtain ⟨hS1, hS2, hS3, hS4, hS5⟩ := hS
  have hS : PostS G X mm := ⟨hS1, hS2, hS3, hS4, hS5⟩
  have hn := hI.1
  have hLL := hI.2.2.2.1
  refine z_iconst F dX4_voters_0 ?_
  refine z_istore_n (lv' := [(3, .int (zI (0))), (0, zV w (nx X k 0)), (1, .int (zI (x))), (2, .int (zI (v)))]) F dX4_voters_1 rfl hl (by decide) (by unfold zV; (repeat' split) <;> rfl) (fun ls hl => ?_)
  refine z_vload_n (w := w) F dX4_voters_2 rfl (lv_at hl 1 rfl) ?_
  refine z_vstore (lv' := [(4, zV w (nx X k 0)), (3, .int (zI (0))), (0, zV w (nx X k 0)), (1, .int (zI (x))), (2, .int (zI (v)))]) F dX4_voters_3 hl (by decide) (by unfold zV; (repeat' split) <;> rfl) (fun ls hl => ?_)
  have L_5 : ∀ (nf : Nat) (i : Nat) (b : Int), ((X 64 7).toNat + 1 ≤ i + nf) → (i ≤ (X 64 7).toNat) → (b = vM X k x v i) →  ∀ (H : Heap) (locs : List Loc) (ls : Array Slot), Zs w dom A s.heap sz G H locs → lv_has ls 5 [(1, .int (zI (x))), (2, .int (zI (v))), (3, .int (zI (b))), (4, zV w (nx X k i))] → W p l e (headSpec wsX4_voters { frames := 1, cells := 0, slots := 0, locals := 21 }).room s m ([zV w (nx X k 0), .int (zI (x)), .int (zI (v))] : List Value).toArray below meth c H locs (0) (0) (MQ below (zQi w dom sz (popZ (vM X k x v (X 64 7).toNat)) (fun C => C = G) A) ([zV w (nx X k 0), .int (zI (x)), .int (zI (v))] : List Value).toArray s (0) (0) A) (F0 m 5 ls []) := by
    intro nf
    induction nf with
    | zero => intro i  b  h5_0 h5_1 h5_2; exact absurd h5_0 (by omega)
    | succ nf ih_5 =>
      intro i  b  h5_0 h5_1 h5_2 H locs ls hZ hl
      subst h5_2
      have hvr : 0 ≤ vM X k x v i ∧ vM X k x v i < 128 := msk_rng _
      refine z_vload (w := w) F dX4_voters_5 (lv_at hl 3 rfl) ?_
      refine z_ifnull (tgt := 54) F dX4_voters_7 (by decide) (fun c_7 => ?_) (fun c_7 => ?_)
      · skip
        have hvm : vM X k x v (X 64 7).toNat = vM X k x v i := vM_skip (by omega) (fun l a b => nx_neg c_7 l a (by omega))
        refine z_iload_n F dX4_voters_54 rfl (lv_at hl 2 rfl) ?_
        refine z_bxi hZ (va_runS (As := [.int (zI (vM X k x v i))]) (rest := []) F (k_J6_bitCount_0f7a4 l w dom A hDA sz G (vM X k x v i) (by omega)) (va_cwS 1 F.2.2.2.2 gX4_voters_J6_bitCount_0f7a4 rfl rfl rfl (by decide +kernel) ⟨Nat.le_of_ble_eq_true rfl, Nat.le_of_ble_eq_true rfl⟩) (z_preS hK hZ _) rfl rfl hl.1 rfl (lv_room (Nat.le_of_ble_eq_true rfl)) dX4_voters_55 ⟨Nat.le_of_ble_eq_true rfl, Nat.le_of_ble_eq_true rfl⟩) (fun H locs hZ => ?_)
        exact z_iret F hr hlocks hZ (by rw [hvm]) rfl dX4_voters_58 (by omega) (by omega)
      · skip
        obtain ⟨q, hq, hq1, hq2, hq3, hq4⟩ := nx_pos (X := X) (k := k) (i := i) (by assumption)
        rw [hq, zV_nat] at hl
        obtain ⟨⟨e0, e1, e2, e3, e4, e5⟩, e6, e7⟩ := hS5 q hq2
        have hqr := let_rng hI (l := (q : Int)) ⟨by omega, hq2⟩
        refine z_aload F dX4_voters_10 (lv_at hl 3 rfl) ?_
        refine z_iload_n F dX4_voters_12 rfl (lv_at hl 0 rfl) ?_
        refine z_bxi hZ (va_runV (As := [.int (zI (x))]) (rest := []) F (k_X2_cameTo l w dom A hDA sz G q (hdl _ (by omega)) (cam_rng hS (by omega)) x (by omega)) (cwV 1 F.2.2.2.2 gX4_voters_X2_cameTo rfl rfl rfl (by decide +kernel) ⟨Nat.le_of_ble_eq_true rfl, Nat.le_of_ble_eq_true rfl⟩) (z_preV hK hZ (71 + q) (hdl _ (by omega)) (shp_let q) (by decide) rfl _) rfl rfl hl.1 rfl (lv_room (Nat.le_of_ble_eq_true rfl)) dX4_voters_13 ⟨Nat.le_of_ble_eq_true rfl, Nat.le_of_ble_eq_true rfl⟩) (fun H locs hZ => ?_)
        refine z_topI (cam_bI hS (l := q) (s := x) (by omega) (by omega)) ?_
        refine z_ifB_eq (tgt := 44) F dX4_voters_16 (by decide) (fun c_16 => ?_) (fun c_16 => ?_)
        · skip
          refine z_aload F dX4_voters_44 (lv_at hl 3 rfl) ?_
          refine z_get F hK hZ (71 + q) (hdl _ (by omega)) (shp_let q) (by decide) rfl hin2 7 (by decide) mX4_voters_53 rfl rfl dX4_voters_46 ?_
          rw [show G (71 + q) 7 = nx X k (q + 1) from by rw [e7, hq3]]
          refine z_vstore (lv' := [(4, zV w (nx X k (q + 1))), (1, .int (zI (x))), (2, .int (zI (v))), (3, .int (zI (vM X k x v i)))]) F dX4_voters_49 hl (by decide) (by unfold zV; (repeat' split) <;> rfl) (fun ls hl => ?_)
          refine lv_goto (tgt := 5) F.1 F.2.1 dX4_voters_51 (by decide) ?_
          exact ih_5 (q + 1) (vM X k x v i) (by omega) (by omega) (by rw [← vM_skip (v := v) (s := x) hq1 hq4]; first | exact (vM_no (fun z => z.1 (by assumption))).symm | exact (vM_no (fun z => by omega)).symm | (rw [e0]; exact vM_yes hq3 (by assumption) (by omega) (by omega))) _ _ _ hZ (lv_sub hl [1, 2, 3, 0] rfl)
        · skip
          refine z_iload_n F dX4_voters_19 rfl (lv_at hl 1 rfl) ?_
          refine z_bipush F (by decide) dX4_voters_20 ?_
          refine z_icmp_eq (tgt := 34) F (by omega) (by omega) dX4_voters_22 (by decide) (fun c_22 => ?_) (fun c_22 => ?_)
          · skip
            refine z_iload_n F dX4_voters_34 rfl (lv_at hl 2 rfl) ?_
            refine z_iconst F dX4_voters_35 ?_
            refine z_aload F dX4_voters_36 (lv_at hl 3 rfl) ?_
            refine z_get F hK hZ (71 + q) (hdl _ (by omega)) (shp_let q) (by decide) rfl hin2 0 (by decide) mX4_voters_32 rfl rfl dX4_voters_38 ?_
            have r_1 := hZ.2.1.1 (71 + q) (0)
            refine z_ishl F dX4_voters_41 ?_
            refine z_ior F dX4_voters_42 ?_
            refine z_istore_n (lv' := [(3, .int (zI (bOr (vM X k x v i) (bShl 1 (G (71 + q) 0))))), (1, .int (zI (x))), (2, .int (zI (v))), (4, .ref (w.2.1 + (71 + q)))]) F dX4_voters_43 rfl hl (by decide) rfl (fun ls hl => ?_)
            refine z_aload F dX4_voters_44 (lv_at hl 3 rfl) ?_
            refine z_get F hK hZ (71 + q) (hdl _ (by omega)) (shp_let q) (by decide) rfl hin2 7 (by decide) mX4_voters_53 rfl rfl dX4_voters_46 ?_
            rw [show G (71 + q) 7 = nx X k (q + 1) from by rw [e7, hq3]]
            refine z_vstore (lv' := [(4, zV w (nx X k (q + 1))), (3, .int (zI (bOr (vM X k x v i) (bShl 1 (G (71 + q) 0))))), (1, .int (zI (x))), (2, .int (zI (v)))]) F dX4_voters_49 hl (by decide) (by unfold zV; (repeat' split) <;> rfl) (fun ls hl => ?_)
            refine lv_goto (tgt := 5) F.1 F.2.1 dX4_voters_51 (by decide) ?_
            exact ih_5 (q + 1) (bOr (vM X k x v i) (bShl 1 (G (71 + q) 0))) (by omega) (by omega) (by rw [← vM_skip (v := v) (s := x) hq1 hq4]; first | exact (vM_no (fun z => z.1 (by assumption))).symm | exact (vM_no (fun z => by omega)).symm | (rw [e0]; exact vM_yes hq3 (by assumption) (by omega) (by omega))) _ _ _ hZ (lv_sub hl [2, 3, 1, 0] rfl)
          · skip
            refine z_iload_n F dX4_voters_25 rfl (lv_at hl 1 rfl) ?_
            refine z_aload F dX4_voters_26 (lv_at hl 3 rfl) ?_
            refine z_get F hK hZ (71 + q) (hdl _ (by omega)) (shp_let q) (by decide) rfl hin2 4 (by decide) mX4_voters_44 rfl rfl dX4_voters_28 ?_
            have r_2 := hZ.2.1.1 (71 + q) (4)
            refine z_icmp_ne (tgt := 44) F (by omega) (by omega) dX4_voters_31 (by decide) (fun c_31 => ?_) (fun c_31 => ?_)
            · skip
              refine z_aload F dX4_voters_44 (lv_at hl 3 rfl) ?_
              refine z_get F hK hZ (71 + q) (hdl _ (by omega)) (shp_let q) (by decide) rfl hin2 7 (by decide) mX4_voters_53 rfl rfl dX4_voters_46 ?_
              rw [show G (71 + q) 7 = nx X k (q + 1) from by rw [e7, hq3]]
              refine z_vstore (lv' := [(4, zV w (nx X k (q + 1))), (1, .int (zI (x))), (2, .int (zI (v))), (3, .int (zI (vM X k x v i)))]) F dX4_voters_49 hl (by decide) (by unfold zV; (repeat' split) <;> rfl) (fun ls hl => ?_)
              refine lv_goto (tgt := 5) F.1 F.2.1 dX4_voters_51 (by decide) ?_
              exact ih_5 (q + 1) (vM X k x v i) (by omega) (by omega) (by rw [← vM_skip (v := v) (s := x) hq1 hq4]; first | exact (vM_no (fun z => z.1 (by assumption))).symm | exact (vM_no (fun z => by omega)).symm | (rw [e0]; exact vM_yes hq3 (by assumption) (by omega) (by omega))) _ _ _ hZ (lv_sub hl [1, 2, 3, 0] rfl)
            · skip
              refine z_iload_n F dX4_voters_34 rfl (lv_at hl 2 rfl) ?_
              refine z_iconst F dX4_voters_35 ?_
              refine z_aload F dX4_voters_36 (lv_at hl 3 rfl) ?_
              refine z_get F hK hZ (71 + q) (hdl _ (by omega)) (shp_let q) (by decide) rfl hin2 0 (by decide) mX4_voters_32 rfl rfl dX4_voters_38 ?_
              have r_3 := hZ.2.1.1 (71 + q) (0)
              refine z_ishl F dX4_voters_41 ?_
              refine z_ior F dX4_voters_42 ?_
              refine z_istore_n (lv' := [(3, .int (zI (bOr (vM X k x v i) (bShl 1 (G (71 + q) 0))))), (1, .int (zI (x))), (2, .int (zI (v))), (4, .ref (w.2.1 + (71 + q)))]) F dX4_voters_43 rfl hl (by decide) rfl (fun ls hl => ?_)
              refine z_aload F dX4_voters_44 (lv_at hl 3 rfl) ?_
              refine z_get F hK hZ (71 + q) (hdl _ (by omega)) (shp_let q) (by decide) rfl hin2 7 (by decide) mX4_voters_53 rfl rfl dX4_voters_46 ?_
              rw [show G (71 + q) 7 = nx X k (q + 1) from by rw [e7, hq3]]
              refine z_vstore (lv' := [(4, zV w (nx X k (q + 1))), (3, .int (zI (bOr (vM X k x v i) (bShl 1 (G (71 + q) 0))))), (1, .int (zI (x))), (2, .int (zI (v)))]) F dX4_voters_49 hl (by decide) (by unfold zV; (repeat' split) <;> rfl) (fun ls hl => ?_)
              refine lv_goto (tgt := 5) F.1 F.2.1 dX4_voters_51 (by decide) ?_
              exact ih_5 (q + 1) (bOr (vM X k x v i) (bShl 1 (G (71 + q) 0))) (by omega) (by omega) (by rw [← vM_skip (v := v) (s := x) hq1 hq4]; first | exact (vM_no (fun z => z.1 (by assumption))).symm | exact (vM_no (fun z => by omega)).symm | (rw [e0]; exact vM_yes hq3 (by assumption) (by omega) (by omega))) _ _ _ hZ (lv_sub hl [2, 3, 1, 0] rfl)
  exact L_5 ((X 64 7).toNat + 1) 0 0 (by omega) (by omega) (vM_0 _ _ _ _).symm _ _ _ hZ (lv_sub hl [3, 4, 1, 0] rfl)
