theorem mX8_pending_7 : Cond.fieldLink RX8 7 "LockedChainModel" "isFalse" "[Z" ∈ wsX8_pending := by decide +kernel
theorem mX8_pending_26 : Cond.fieldLink RX8 26 "LockedChainModel" "came" "[Z" ∈ wsX8_pending := by decide +kernel
theorem mX8_pending_29 : Cond.fieldLink RX8 29 "LockedChainModel" "n" "I" ∈ wsX8_pending := by decide +kernel
theorem mX8_pending_44 : Cond.fieldLink RX8 44 "LockedChainModel" "letters" "I" ∈ wsX8_pending := by decide +kernel
set_option maxHeartbeats 4000000 in
set_option maxRecDepth 100000 in
theorem k_X8_pending (l : Launch) (w : zW) (dom : Nat → Prop) (A : Nat → Prop) (hDA : ∀ i, dom i → A (w.2.1 + i)) (sz : Nat) (G : zM) (hd : ∀ i, 64 ≤ i ∧ i < 71 → dom i) (hI : Inv G) : Met l yX8_pending wsX8_pending { frames := 0, cells := 0, slots := 0, locals := 0 } (zPre w dom sz G [.ref (w.2.1 + (64))]) (zQi w dom sz (pnL G (G 64 7).toNat) (fun C => C = G) A) (0) (0) A := by
  refine Met.ofW (cc := cX8_pending) (maxL := 4) (ret := (some .int)) (by decide) rfl ?_
  intro p e s m args below meth c s₁ B hml hv
  obtain ⟨rfl, hsz, hP, hK⟩ := hv
  have F : CallFix p m c cX8_pending 4 s _ wsX8_pending RX8 := ⟨B.exec, B.bytes, hml, findClass_of_methodNamed B.named, atoms_spec (ws := wsX8_pending) B.pre⟩
  have hr := B.returns
  have hlocks := B.notSynchronized
  have hZ : Zs w dom A s.heap sz G s.heap [] := ⟨hsz, hP, va_S.rf⟩
  have hl := lv_entry ([.ref (w.2.1 + (64))]) (n := 4) (Nat.le_of_ble_eq_true rfl)
  rw [lg_entry_eq]
  generalize (lg_sl ([.ref (w.2.1 + (64))]) ++ List.replicate (4 - (lg_sl ([.ref (w.2.1 + (64))])).length) Slot.unset).toArray = ls at hl ⊢
  have hl : lv_has ls 4 [(0, .ref (w.2.1 + (64)))] := hl
  have hin8 : ∀ v ∈ u_ws RX8 TX8 10, v ∈ wsX8_pending := by decide +kernel
  have hn := hI.1
  have hL := hI.2.2.2.1
  refine z_iconst F dX8_pending_0 ?_
  refine z_istore_n (lv' := [(1, .int (zI (0))), (0, .ref (w.2.1 + (64)))]) F dX8_pending_1 rfl hl (by decide) rfl (fun ls hl => ?_)
  refine z_iconst F dX8_pending_2 ?_
  refine z_istore_n (lv' := [(2, .int (zI (0))), (1, .int (zI (0))), (0, .ref (w.2.1 + (64)))]) F dX8_pending_3 rfl hl (by decide) rfl (fun ls hl => ?_)
  have L_4 : ∀ (nf : Nat) (i : Nat) (acc : Int), ((G 64 7).toNat + 1 ≤ i + nf) → (i ≤ (G 64 7).toNat) → (acc = pnL G i) →  ∀ (H : Heap) (locs : List Loc) (ls : Array Slot), Zs w dom A s.heap sz G H locs → lv_has ls 4 [(0, .ref (w.2.1 + (64))), (1, .int (zI (acc))), (2, .int (zI ((i : Int))))] → W p l e (headSpec wsX8_pending { frames := 0, cells := 0, slots := 0, locals := 0 }).room s m ([.ref (w.2.1 + (64))] : List Value).toArray below meth c H locs (0) (0) (MQ below (zQi w dom sz (pnL G (G 64 7).toNat) (fun C => C = G) A) ([.ref (w.2.1 + (64))] : List Value).toArray s (0) (0) A) (F0 m 4 ls []) := by
    intro nf
    induction nf with
    | zero => intro i  acc  h4_0 h4_1 h4_2; exact absurd h4_0 (by omega)
    | succ nf ih_4 =>
      intro i  acc  h4_0 h4_1 h4_2 H locs ls hZ hl
      subst h4_2
      have hp1 := pnL_rng G hn i
      refine z_iload_n F dX8_pending_4 rfl (lv_at hl 2 rfl) ?_
      refine z_aload_n F dX8_pending_5 rfl (lv_at hl 0 rfl) ?_
      refine z_get F hK hZ (64) (hd _ (by omega)) rfl (by decide) rfl hin8 7 (by decide) mX8_pending_44 rfl rfl dX8_pending_6 ?_
      have r_1 := hZ.2.1.1 (64) (7)
      refine z_icmp_ge (tgt := 65) F (by omega) (by omega) dX8_pending_9 (by decide) (fun c_9 => ?_) (fun c_9 => ?_)
      · skip
        refine z_iload_n F dX8_pending_65 rfl (lv_at hl 1 rfl) ?_
        exact z_iret F hr hlocks hZ (by rw [show i = (G 64 7).toNat by omega]) rfl dX8_pending_66 (by omega) (by omega)
      · skip
        refine z_iconst F dX8_pending_12 ?_
        refine z_istore_n (lv' := [(3, .int (zI (0))), (0, .ref (w.2.1 + (64))), (1, .int (zI (pnL G i))), (2, .int (zI ((i : Int))))]) F dX8_pending_13 rfl hl (by decide) rfl (fun ls hl => ?_)
        have L_14 : ∀ (nf : Nat) (j : Nat) (acc : Int), ((G 64 0).toNat + 1 ≤ j + nf) → (j ≤ (G 64 0).toNat) → (acc = pnL G i + pnS G (i : Int) j) →  ∀ (H : Heap) (locs : List Loc) (ls : Array Slot), Zs w dom A s.heap sz G H locs → lv_has ls 4 [(0, .ref (w.2.1 + (64))), (1, .int (zI (acc))), (2, .int (zI ((i : Int)))), (3, .int (zI ((j : Int))))] → W p l e (headSpec wsX8_pending { frames := 0, cells := 0, slots := 0, locals := 0 }).room s m ([.ref (w.2.1 + (64))] : List Value).toArray below meth c H locs (0) (0) (MQ below (zQi w dom sz (pnL G (G 64 7).toNat) (fun C => C = G) A) ([.ref (w.2.1 + (64))] : List Value).toArray s (0) (0) A) (F0 m 14 ls []) := by
          intro nf
          induction nf with
          | zero => intro j  acc  h14_0 h14_1 h14_2; exact absurd h14_0 (by omega)
          | succ nf ih_14 =>
            intro j  acc  h14_0 h14_1 h14_2 H locs ls hZ hl
            subst h14_2
            have hp2 := pnS_rng G (i : Int) j
            refine z_iload_n F dX8_pending_14 rfl (lv_at hl 3 rfl) ?_
            refine z_aload_n F dX8_pending_15 rfl (lv_at hl 0 rfl) ?_
            refine z_get F hK hZ (64) (hd _ (by omega)) rfl (by decide) rfl hin8 0 (by decide) mX8_pending_29 rfl rfl dX8_pending_16 ?_
            have r_2 := hZ.2.1.1 (64) (0)
            refine z_icmp_ge (tgt := 59) F (by omega) (by omega) dX8_pending_19 (by decide) (fun c_19 => ?_) (fun c_19 => ?_)
            · skip
              have hj : j = (G 64 0).toNat := by omega
              refine z_iinc (k := 2) (z := (i : Int)) (lv' := [(2, .int (zI ((i : Int) + 1))), (0, .ref (w.2.1 + (64))), (1, .int (zI (pnL G i + pnS G (i : Int) j))), (3, .int (zI ((j : Int))))]) F dX8_pending_59 hl rfl (by decide) rfl (fun ls hl => ?_)
              refine lv_goto (tgt := 4) F.1 F.2.1 dX8_pending_62 (by decide) ?_
              exact ih_4 (i + 1) (pnL G i + pnS G (i : Int) j) (by omega) (by omega) (by rw [pnL, ← hj]) _ _ _ hZ (lv_sub hl [1, 2, 0] rfl)
            · skip
              refine z_iload_n F dX8_pending_22 rfl (lv_at hl 1 rfl) ?_
              refine z_aload_n F dX8_pending_23 rfl (lv_at hl 0 rfl) ?_
              refine z_get F hK hZ (64) (hd _ (by omega)) rfl (by decide) rfl hin8 3 (by decide) mX8_pending_7 rfl rfl dX8_pending_24 ?_
              refine z_iload_n F dX8_pending_27 rfl (lv_at hl 3 rfl) ?_
              refine z_zald F hK hZ (65) (hd _ (by omega)) rfl (by decide) (by omega) (by omega) dX8_pending_28 ?_
              have r_3 := hZ.2.1.1 (65) ((j : Int))
              refine z_if_ne (tgt := 46) F (by omega) dX8_pending_29 (by decide) (fun c_29 => ?_) (fun c_29 => ?_)
              · skip
                refine z_iconst F dX8_pending_46 ?_
                refine lv_goto (tgt := 51) F.1 F.2.1 dX8_pending_47 (by decide) ?_
                refine z_iadd F dX8_pending_51 ?_
                refine z_istore_n (lv' := [(1, .int (zI (pnL G i + pnS G (i : Int) j + 0))), (0, .ref (w.2.1 + (64))), (2, .int (zI ((i : Int)))), (3, .int (zI ((j : Int))))]) F dX8_pending_52 rfl hl (by decide) rfl (fun ls hl => ?_)
                refine z_iinc (k := 3) (z := (j : Int)) (lv' := [(3, .int (zI ((j : Int) + 1))), (1, .int (zI (pnL G i + pnS G (i : Int) j + 0))), (0, .ref (w.2.1 + (64))), (2, .int (zI ((i : Int))))]) F dX8_pending_53 hl rfl (by decide) rfl (fun ls hl => ?_)
                refine lv_goto (tgt := 14) F.1 F.2.1 dX8_pending_56 (by decide) ?_
                exact ih_14 (j + 1) (pnL G i + pnS G (i : Int) j + 0) (by omega) (by omega) (by rw [pnS]; first | (rw [if_pos (Or.inl c_29)]; omega) | (rw [if_pos (Or.inr c_43)]; omega) | (rw [if_neg (by omega)]; omega)) _ _ _ hZ (lv_sub hl [2, 1, 3, 0] rfl)
              · skip
                refine z_aload_n F dX8_pending_32 rfl (lv_at hl 0 rfl) ?_
                refine z_get F hK hZ (64) (hd _ (by omega)) rfl (by decide) rfl hin8 9 (by decide) mX8_pending_26 rfl rfl dX8_pending_33 ?_
                refine z_bipush F (by decide) dX8_pending_36 ?_
                refine z_iload_n F dX8_pending_38 rfl (lv_at hl 2 rfl) ?_
                refine z_imul F dX8_pending_39 ?_
                refine z_iload_n F dX8_pending_40 rfl (lv_at hl 3 rfl) ?_
                refine z_iadd F dX8_pending_41 ?_
                refine z_zald F hK hZ (70) (hd _ (by omega)) rfl (by decide) (by omega) (by omega) dX8_pending_42 ?_
                have r_4 := hZ.2.1.1 (70) (7 * ((i : Int)) + ((j : Int)))
                refine z_if_eq (tgt := 50) F (by omega) dX8_pending_43 (by decide) (fun c_43 => ?_) (fun c_43 => ?_)
                · skip
                  refine z_iconst F dX8_pending_50 ?_
                  refine z_iadd F dX8_pending_51 ?_
                  refine z_istore_n (lv' := [(1, .int (zI (pnL G i + pnS G (i : Int) j + 1))), (0, .ref (w.2.1 + (64))), (2, .int (zI ((i : Int)))), (3, .int (zI ((j : Int))))]) F dX8_pending_52 rfl hl (by decide) rfl (fun ls hl => ?_)
                  refine z_iinc (k := 3) (z := (j : Int)) (lv' := [(3, .int (zI ((j : Int) + 1))), (1, .int (zI (pnL G i + pnS G (i : Int) j + 1))), (0, .ref (w.2.1 + (64))), (2, .int (zI ((i : Int))))]) F dX8_pending_53 hl rfl (by decide) rfl (fun ls hl => ?_)
                  refine lv_goto (tgt := 14) F.1 F.2.1 dX8_pending_56 (by decide) ?_
                  exact ih_14 (j + 1) (pnL G i + pnS G (i : Int) j + 1) (by omega) (by omega) (by rw [pnS]; first | (rw [if_pos (Or.inl c_29)]; omega) | (rw [if_pos (Or.inr c_43)]; omega) | (rw [if_neg (by omega)]; omega)) _ _ _ hZ (lv_sub hl [2, 1, 3, 0] rfl)
                · skip
                  refine z_iconst F dX8_pending_46 ?_
                  refine lv_goto (tgt := 51) F.1 F.2.1 dX8_pending_47 (by decide) ?_
                  refine z_iadd F dX8_pending_51 ?_
                  refine z_istore_n (lv' := [(1, .int (zI (pnL G i + pnS G (i : Int) j + 0))), (0, .ref (w.2.1 + (64))), (2, .int (zI ((i : Int)))), (3, .int (zI ((j : Int))))]) F dX8_pending_52 rfl hl (by decide) rfl (fun ls hl => ?_)
                  refine z_iinc (k := 3) (z := (j : Int)) (lv' := [(3, .int (zI ((j : Int) + 1))), (1, .int (zI (pnL G i + pnS G (i : Int) j + 0))), (0, .ref (w.2.1 + (64))), (2, .int (zI ((i : Int))))]) F dX8_pending_53 hl rfl (by decide) rfl (fun ls hl => ?_)
                  refine lv_goto (tgt := 14) F.1 F.2.1 dX8_pending_56 (by decide) ?_
                  exact ih_14 (j + 1) (pnL G i + pnS G (i : Int) j + 0) (by omega) (by omega) (by rw [pnS]; first | (rw [if_pos (Or.inl c_29)]; omega) | (rw [if_pos (Or.inr c_43)]; omega) | (rw [if_neg (by omega)]; omega)) _ _ _ hZ (lv_sub hl [2, 1, 3, 0] rfl)
        exact L_14 ((G 64 0).toNat + 1) 0 (pnL G i) (by omega) (by omega) (by simp [pnS]) _ _ _ hZ (lv_sub hl [1, 2, 3, 0] rfl)
  exact L_4 ((G 64 7).toNat + 1) 0 0 (by omega) (by omega) rfl _ _ _ hZ (lv_sub hl [2, 1, 0] rfl)

theorem mX8_decided_20 : Cond.fieldLink RX8 20 "LockedChainModel" "decided" "[I" ∈ wsX8_decided := by decide +kernel
set_option maxHeartbeats 4000000 in
set_option maxRecDepth 100000 in
theorem k_X8_decided (l : Launch) (w : zW) (dom : Nat → Prop) (A : Nat → Prop) (hDA : ∀ i, dom i → A (w.2.1 + i)) (sz : Nat) (G : zM) (hd : ∀ i, 64 ≤ i ∧ i < 71 → dom i) (hI : Inv G) (x h q : Int) (hx : -2147483648 ≤ x ∧ x < 2147483648) (hh : -2147483648 ≤ h ∧ h < 2147483648) (hq : -2147483648 ≤ q ∧ q < 2147483648) : Met l yX8_decided wsX8_decided { frames := 2, cells := 0, slots := 0, locals := 43 } (zPre w dom sz G [.ref (w.2.1 + (64)), .int (zI (x)), .int (zI (h)), .int (zI (q))]) (zQi w dom sz (rDec G x h q) (fun C => C = G) A) (0) (0) A := by
  refine Met.ofW (cc := cX8_decided) (maxL := 7) (ret := (some .int)) (by decide) rfl ?_
  intro p e s m args below meth c s₁ B hml hv
  obtain ⟨rfl, hsz, hP, hK⟩ := hv
  have F : CallFix p m c cX8_decided 7 s _ wsX8_decided RX8 := ⟨B.exec, B.bytes, hml, findClass_of_methodNamed B.named, atoms_spec (ws := wsX8_decided) B.pre⟩
  have hr := B.returns
  have hlocks := B.notSynchronized
  have hZ : Zs w dom A s.heap sz G s.heap [] := ⟨hsz, hP, va_S.rf⟩
  have hl := lv_entry ([.ref (w.2.1 + (64)), .int (zI (x)), .int (zI (h)), .int (zI (q))]) (n := 7) (Nat.le_of_ble_eq_true rfl)
  rw [lg_entry_eq]
  generalize (lg_sl ([.ref (w.2.1 + (64)), .int (zI (x)), .int (zI (h)), .int (zI (q))]) ++ List.replicate (7 - (lg_sl ([.ref (w.2.1 + (64)), .int (zI (x)), .int (zI (h)), .int (zI (q))])).length) Slot.unset).toArray = ls at hl ⊢
  have hl : lv_has ls 7 [(0, .ref (w.2.1 + (64))), (1, .int (zI (x))), (2, .int (zI (h))), (3, .int (zI (q)))] := hl
  have hin8 : ∀ v ∈ u_ws RX8 TX8 10, v ∈ wsX8_decided := by decide +kernel
  have hn := hI.1
  have hL := hI.2.2.2.1
  refine z_aload_n F dX8_decided_0 rfl (lv_at hl 0 rfl) ?_
  refine z_iload_n F dX8_decided_1 rfl (lv_at hl 1 rfl) ?_
  refine z_bxi hZ (va_runV (As := [.int (zI (x))]) (rest := []) F (k_X8_isSeat l w dom A hDA sz G hd (by omega) x (by omega)) (cwV 1 F.2.2.2.2 gX8_decided_X8_isSeat rfl rfl rfl (by decide +kernel) ⟨Nat.le_of_ble_eq_true rfl, Nat.le_of_ble_eq_true rfl⟩) (z_preV hK hZ (64) (hd _ (by omega)) rfl (by decide) rfl _) rfl rfl hl.1 rfl (lv_room (Nat.le_of_ble_eq_true rfl)) dX8_decided_2 ⟨Nat.le_of_ble_eq_true rfl, Nat.le_of_ble_eq_true rfl⟩) (fun H locs hZ => ?_)
  refine z_ifB_eq (tgt := 26) F dX8_decided_5 (by decide) (fun c_5 => ?_) (fun c_5 => ?_)
  · skip
    refine z_iconst F dX8_decided_26 ?_
    exact z_iret F hr hlocks hZ (by unfold rDec; (repeat' split) <;> first | rfl | omega) rfl dX8_decided_27 (by omega) (by omega)
  · skip
    refine z_iload_n F dX8_decided_8 rfl (lv_at hl 2 rfl) ?_
    refine z_iconst F dX8_decided_9 ?_
    refine z_iconst F dX8_decided_10 ?_
    refine z_bxi hZ (va_runS (As := [.int (zI (h)), .int (zI (0)), .int (zI (5))]) (rest := []) F (k_X8_in l w dom A hDA sz G h 0 5 (by omega) (by omega) (by omega)) (va_cwS 3 F.2.2.2.2 gX8_decided_X8_in rfl rfl rfl (by decide +kernel) ⟨Nat.le_of_ble_eq_true rfl, Nat.le_of_ble_eq_true rfl⟩) (z_preS hK hZ _) rfl rfl hl.1 rfl (lv_room (Nat.le_of_ble_eq_true rfl)) dX8_decided_11 ⟨Nat.le_of_ble_eq_true rfl, Nat.le_of_ble_eq_true rfl⟩) (fun H locs hZ => ?_)
    refine z_ifB_eq (tgt := 26) F dX8_decided_14 (by decide) (fun c_14 => ?_) (fun c_14 => ?_)
    · skip
      refine z_iconst F dX8_decided_26 ?_
      exact z_iret F hr hlocks hZ (by unfold rDec; (repeat' split) <;> first | rfl | omega) rfl dX8_decided_27 (by omega) (by omega)
    · skip
      refine z_iload_n F dX8_decided_17 rfl (lv_at hl 3 rfl) ?_
      refine z_iconst F dX8_decided_18 ?_
      refine z_iconst F dX8_decided_19 ?_
      refine z_bxi hZ (va_runS (As := [.int (zI (q)), .int (zI (0)), .int (zI (2))]) (rest := []) F (k_X8_in l w dom A hDA sz G q 0 2 (by omega) (by omega) (by omega)) (va_cwS 3 F.2.2.2.2 gX8_decided_X8_in rfl rfl rfl (by decide +kernel) ⟨Nat.le_of_ble_eq_true rfl, Nat.le_of_ble_eq_true rfl⟩) (z_preS hK hZ _) rfl rfl hl.1 rfl (lv_room (Nat.le_of_ble_eq_true rfl)) dX8_decided_20 ⟨Nat.le_of_ble_eq_true rfl, Nat.le_of_ble_eq_true rfl⟩) (fun H locs hZ => ?_)
      refine z_ifB_ne (tgt := 28) F dX8_decided_23 (by decide) (fun c_23 => ?_) (fun c_23 => ?_)
      · skip
        refine z_aload_n F dX8_decided_28 rfl (lv_at hl 0 rfl) ?_
        refine z_get F hK hZ (64) (hd _ (by omega)) rfl (by decide) rfl hin8 6 (by decide) mX8_decided_20 rfl rfl dX8_decided_29 ?_
        refine z_bipush F (by decide) dX8_decided_32 ?_
        refine z_iload_n F dX8_decided_34 rfl (lv_at hl 1 rfl) ?_
        refine z_imul F dX8_decided_35 ?_
        refine z_iconst F dX8_decided_36 ?_
        refine z_iload_n F dX8_decided_37 rfl (lv_at hl 2 rfl) ?_
        refine z_imul F dX8_decided_38 ?_
        refine z_iadd F dX8_decided_39 ?_
        refine z_iald F hK hZ (68) (hd _ (by omega)) rfl (by decide) (by omega) (by omega) dX8_decided_40 ?_
        have r_1 := hZ.2.1.1 (68) (12 * x + (2 * h))
        refine z_if_ge (tgt := 47) F (by omega) dX8_decided_41 (by decide) (fun c_41 => ?_) (fun c_41 => ?_)
        · skip
          refine z_iload_n F dX8_decided_47 rfl (lv_at hl 3 rfl) ?_
          refine z_iconst F dX8_decided_48 ?_
          refine z_icmp_ge (tgt := 68) F (by omega) (by omega) dX8_decided_49 (by decide) (fun c_49 => ?_) (fun c_49 => ?_)
          · skip
            refine lv_ldc2 F.1 F.2.1 F.2.2.2.1 (F.2.2.2.2 (.constantLong RX8 142 (7)) (by decide +kernel)) dX8_decided_68 ?_
            refine z_lstore (lv' := [(4, .long ((7 : Int64))), (0, .ref (w.2.1 + (64))), (1, .int (zI (x))), (2, .int (zI (h))), (3, .int (zI (q)))]) F dX8_decided_71 hl (by decide) rfl (fun ls hl => ?_)
            refine z_iconst F dX8_decided_73 ?_
            refine z_istore (lv' := [(6, .int (zI (0))), (4, .long ((7 : Int64))), (0, .ref (w.2.1 + (64))), (1, .int (zI (x))), (2, .int (zI (h))), (3, .int (zI (q)))]) F dX8_decided_74 hl (by decide) rfl (fun ls hl => ?_)
            have L_76 : ∀ (nf : Nat) (i : Nat) (a : Int64), (h.toNat + 2 ≤ i + nf) → (i ≤ h.toNat + 1) → (a = lnkF (fun k => G 68 (12 * x + 2 * (k : Int))) i) →  ∀ (H : Heap) (locs : List Loc) (ls : Array Slot), Zs w dom A s.heap sz G H locs → lv_has ls 7 [(0, .ref (w.2.1 + (64))), (2, .int (zI (h))), (1, .int (zI (x))), (4, .long (a)), (6, .int (zI ((i : Int))))] → W p l e (headSpec wsX8_decided { frames := 2, cells := 0, slots := 0, locals := 43 }).room s m ([.ref (w.2.1 + (64)), .int (zI (x)), .int (zI (h)), .int (zI (q))] : List Value).toArray below meth c H locs (0 + 0 + 0 + 0) (0 + 0 + 0 + 0) (MQ below (zQi w dom sz (rDec G x h q) (fun C => C = G) A) ([.ref (w.2.1 + (64)), .int (zI (x)), .int (zI (h)), .int (zI (q))] : List Value).toArray s (0) (0) A) (F0 m 76 ls []) := by
              intro nf
              induction nf with
              | zero => intro i  a  h76_0 h76_1 h76_2; exact absurd h76_0 (by omega)
              | succ nf ih_76 =>
                intro i  a  h76_0 h76_1 h76_2 H locs ls hZ hl
                subst h76_2
                refine z_iload F dX8_decided_76 (lv_at hl 4 rfl) ?_
                refine z_iload_n F dX8_decided_78 rfl (lv_at hl 1 rfl) ?_
                refine z_icmp_gt (tgt := 118) F (by omega) (by omega) dX8_decided_79 (by decide) (fun c_79 => ?_) (fun c_79 => ?_)
                · skip
                  refine z_lload F dX8_decided_118 (lv_at hl 3 rfl) ?_
                  refine lv_l2i F.1 F.2.1 dX8_decided_120 rfl ?_
                  rw [← zI_of (lnkF (fun k => G 68 (12 * x + 2 * (k : Int))) i).toInt32]
                  exact z_iret F hr hlocks hZ (by unfold rDec lnkI; rw [if_neg (by omega), if_neg (by omega), if_neg (by omega), show i = h.toNat + 1 by omega]) rfl dX8_decided_121 (by omega) (by omega)
                · skip
                  refine z_lload F dX8_decided_82 (lv_at hl 3 rfl) ?_
                  refine lv_ldc2 F.1 F.2.1 F.2.2.2.1 (F.2.2.2.2 (.constantLong RX8 144 (1000003)) (by decide +kernel)) dX8_decided_84 ?_
                  refine lv_lmul F.1 F.2.1 dX8_decided_87 ?_
                  refine z_aload_n F dX8_decided_88 rfl (lv_at hl 0 rfl) ?_
                  refine z_get F hK hZ (64) (hd _ (by omega)) rfl (by decide) rfl hin8 6 (by decide) mX8_decided_20 rfl rfl dX8_decided_89 ?_
                  refine z_bipush F (by decide) dX8_decided_92 ?_
                  refine z_iload_n F dX8_decided_94 rfl (lv_at hl 2 rfl) ?_
                  refine z_imul F dX8_decided_95 ?_
                  refine z_iconst F dX8_decided_96 ?_
                  refine z_iload F dX8_decided_97 (lv_at hl 4 rfl) ?_
                  refine z_imul F dX8_decided_99 ?_
                  refine z_iadd F dX8_decided_100 ?_
                  refine z_iald F hK hZ (68) (hd _ (by omega)) rfl (by decide) (by omega) (by omega) dX8_decided_101 ?_
                  have r_2 := hZ.2.1.1 (68) (12 * x + (2 * ((i : Int))))
                  refine lv_i2l F.1 F.2.1 dX8_decided_102 rfl ?_
                  refine lv_ladd F.1 F.2.1 dX8_decided_103 ?_
                  refine lv_lconst F.1 F.2.1 dX8_decided_104 rfl ?_
                  refine lv_ladd F.1 F.2.1 dX8_decided_105 ?_
                  refine lv_ldc2 F.1 F.2.1 F.2.2.2.1 (F.2.2.2.2 (.constantLong RX8 146 (2147483648)) (by decide +kernel)) dX8_decided_106 ?_
                  refine lv_lrem F.1 F.2.1 dX8_decided_109 (by decide) ?_
                  refine z_lstore (lv' := [(4, .long (((((lnkF (fun k => G 68 (12 * x + 2 * (k : Int))) i) * ((1000003 : Int64))) + ((zI (G (68) (12 * x + (2 * ((i : Int)))))).toInt64)) + ((1 : Int64))) - ((((lnkF (fun k => G 68 (12 * x + 2 * (k : Int))) i) * ((1000003 : Int64))) + ((zI (G (68) (12 * x + (2 * ((i : Int)))))).toInt64)) + ((1 : Int64))) / ((2147483648 : Int64)) * ((2147483648 : Int64)))), (0, .ref (w.2.1 + (64))), (2, .int (zI (h))), (1, .int (zI (x))), (6, .int (zI ((i : Int))))]) F dX8_decided_110 hl (by decide) rfl (fun ls hl => ?_)
                  refine z_iinc (k := 4) (z := (i : Int)) (lv' := [(6, .int (zI ((i : Int) + 1))), (4, .long (((((lnkF (fun k => G 68 (12 * x + 2 * (k : Int))) i) * ((1000003 : Int64))) + ((zI (G (68) (12 * x + (2 * ((i : Int)))))).toInt64)) + ((1 : Int64))) - ((((lnkF (fun k => G 68 (12 * x + 2 * (k : Int))) i) * ((1000003 : Int64))) + ((zI (G (68) (12 * x + (2 * ((i : Int)))))).toInt64)) + ((1 : Int64))) / ((2147483648 : Int64)) * ((2147483648 : Int64)))), (0, .ref (w.2.1 + (64))), (2, .int (zI (h))), (1, .int (zI (x)))]) F dX8_decided_112 hl rfl (by decide) rfl (fun ls hl => ?_)
                  refine lv_goto (tgt := 76) F.1 F.2.1 dX8_decided_115 (by decide) ?_
                  exact ih_76 (i + 1) (((((lnkF (fun k => G 68 (12 * x + 2 * (k : Int))) i) * ((1000003 : Int64))) + ((zI (G (68) (12 * x + (2 * ((i : Int)))))).toInt64)) + ((1 : Int64))) - ((((lnkF (fun k => G 68 (12 * x + 2 * (k : Int))) i) * ((1000003 : Int64))) + ((zI (G (68) (12 * x + (2 * ((i : Int)))))).toInt64)) + ((1 : Int64))) / ((2147483648 : Int64)) * ((2147483648 : Int64))) (by omega) (by omega) rfl _ _ _ hZ (lv_sub hl [2, 3, 4, 1, 0] rfl)
            exact L_76 (h.toNat + 2) 0 7 (by omega) (by omega) rfl _ _ _ hZ (lv_sub hl [2, 4, 3, 1, 0] rfl)
          · skip
            refine z_aload_n F dX8_decided_52 rfl (lv_at hl 0 rfl) ?_
            refine z_get F hK hZ (64) (hd _ (by omega)) rfl (by decide) rfl hin8 6 (by decide) mX8_decided_20 rfl rfl dX8_decided_53 ?_
            refine z_bipush F (by decide) dX8_decided_56 ?_
            refine z_iload_n F dX8_decided_58 rfl (lv_at hl 1 rfl) ?_
            refine z_imul F dX8_decided_59 ?_
            refine z_iconst F dX8_decided_60 ?_
            refine z_iload_n F dX8_decided_61 rfl (lv_at hl 2 rfl) ?_
            refine z_imul F dX8_decided_62 ?_
            refine z_iadd F dX8_decided_63 ?_
            refine z_iload_n F dX8_decided_64 rfl (lv_at hl 3 rfl) ?_
            refine z_iadd F dX8_decided_65 ?_
            refine z_iald F hK hZ (68) (hd _ (by omega)) rfl (by decide) (by omega) (by omega) dX8_decided_66 ?_
            have r_3 := hZ.2.1.1 (68) (12 * x + (2 * h) + q)
            exact z_iret F hr hlocks hZ (by unfold rDec; (repeat' split) <;> first | rfl | omega) rfl dX8_decided_67 (by omega) (by omega)
        · skip
          refine z_bipush F (by decide) dX8_decided_44 ?_
          exact z_iret F hr hlocks hZ (by unfold rDec; (repeat' split) <;> first | rfl | omega) rfl dX8_decided_46 (by omega) (by omega)
      · skip
        refine z_iconst F dX8_decided_26 ?_
        exact z_iret F hr hlocks hZ (by unfold rDec; (repeat' split) <;> first | rfl | omega) rfl dX8_decided_27 (by omega) (by omega)

theorem mX8_seat_7 : Cond.fieldLink RX8 7 "LockedChainModel" "isFalse" "[Z" ∈ wsX8_seat := by decide +kernel
set_option maxHeartbeats 4000000 in
set_option maxRecDepth 100000 in
theorem k_X8_seat (l : Launch) (w : zW) (dom : Nat → Prop) (A : Nat → Prop) (hDA : ∀ i, dom i → A (w.2.1 + i)) (sz : Nat) (G : zM) (hd : ∀ i, 64 ≤ i ∧ i < 71 → dom i) (hI : Inv G) (x q : Int) (hx : -2147483648 ≤ x ∧ x < 2147483648) (hq : -2147483648 ≤ q ∧ q < 2147483648) : Met l yX8_seat wsX8_seat { frames := 2, cells := 0, slots := 0, locals := 43 } (zPre w dom sz G [.ref (w.2.1 + (64)), .int (zI (x)), .int (zI (q))]) (zQi w dom sz (rSeat G x q) (fun C => C = G) A) (0) (0) A := by
  refine Met.ofW (cc := cX8_seat) (maxL := 3) (ret := (some .int)) (by decide) rfl ?_
  intro p e s m args below meth c s₁ B hml hv
  obtain ⟨rfl, hsz, hP, hK⟩ := hv
  have F : CallFix p m c cX8_seat 3 s _ wsX8_seat RX8 := ⟨B.exec, B.bytes, hml, findClass_of_methodNamed B.named, atoms_spec (ws := wsX8_seat) B.pre⟩
  have hr := B.returns
  have hlocks := B.notSynchronized
  have hZ : Zs w dom A s.heap sz G s.heap [] := ⟨hsz, hP, va_S.rf⟩
  have hl := lv_entry ([.ref (w.2.1 + (64)), .int (zI (x)), .int (zI (q))]) (n := 3) (Nat.le_of_ble_eq_true rfl)
  rw [lg_entry_eq]
  generalize (lg_sl ([.ref (w.2.1 + (64)), .int (zI (x)), .int (zI (q))]) ++ List.replicate (3 - (lg_sl ([.ref (w.2.1 + (64)), .int (zI (x)), .int (zI (q))])).length) Slot.unset).toArray = ls at hl ⊢
  have hl : lv_has ls 3 [(0, .ref (w.2.1 + (64))), (1, .int (zI (x))), (2, .int (zI (q)))] := hl
  have hin8 : ∀ v ∈ u_ws RX8 TX8 10, v ∈ wsX8_seat := by decide +kernel
  have hn := hI.1
  have hL := hI.2.2.2.1
  refine z_aload_n F dX8_seat_0 rfl (lv_at hl 0 rfl) ?_
  refine z_iload_n F dX8_seat_1 rfl (lv_at hl 1 rfl) ?_
  refine z_bxi hZ (va_runV (As := [.int (zI (x))]) (rest := []) F (k_X8_isSeat l w dom A hDA sz G hd (by omega) x (by omega)) (cwV 1 F.2.2.2.2 gX8_seat_X8_isSeat rfl rfl rfl (by decide +kernel) ⟨Nat.le_of_ble_eq_true rfl, Nat.le_of_ble_eq_true rfl⟩) (z_preV hK hZ (64) (hd _ (by omega)) rfl (by decide) rfl _) rfl rfl hl.1 rfl (lv_room (Nat.le_of_ble_eq_true rfl)) dX8_seat_2 ⟨Nat.le_of_ble_eq_true rfl, Nat.le_of_ble_eq_true rfl⟩) (fun H locs hZ => ?_)
  refine z_ifB_eq (tgt := 18) F dX8_seat_5 (by decide) (fun c_5 => ?_) (fun c_5 => ?_)
  · skip
    refine z_iconst F dX8_seat_18 ?_
    exact z_iret F hr hlocks hZ (by first | rw [rSeat, if_pos (by omega)] | (rw [rSeat, if_neg (by omega)]; simp only [Int.reduceEq, ↓reduceIte]; done) | (rw [rSeat, if_neg (by omega)]; simp only [Int.reduceEq, ↓reduceIte]; first | rw [if_pos (by omega)] | (rw [if_neg (by omega)]; first | done | rfl | rw [if_pos (by omega)] | (rw [if_neg (by omega)]; first | rw [if_pos (by omega)] | rw [if_neg (by omega)]))) | (rw [rSeat, if_neg (by omega), if_neg (by omega), if_neg (by omega), if_neg (by omega), if_neg (by omega), if_neg (by omega), if_neg (by omega), if_neg (by omega), if_neg (by omega), if_neg (by omega)])) rfl dX8_seat_19 (by omega) (by omega)
  · skip
    refine z_iload_n F dX8_seat_8 rfl (lv_at hl 2 rfl) ?_
    refine z_iconst F dX8_seat_9 ?_
    refine z_bipush F (by decide) dX8_seat_10 ?_
    refine z_bxi hZ (va_runS (As := [.int (zI (q)), .int (zI (0)), .int (zI (9))]) (rest := []) F (k_X8_in l w dom A hDA sz G q 0 9 (by omega) (by omega) (by omega)) (va_cwS 3 F.2.2.2.2 gX8_seat_X8_in rfl rfl rfl (by decide +kernel) ⟨Nat.le_of_ble_eq_true rfl, Nat.le_of_ble_eq_true rfl⟩) (z_preS hK hZ _) rfl rfl hl.1 rfl (lv_room (Nat.le_of_ble_eq_true rfl)) dX8_seat_12 ⟨Nat.le_of_ble_eq_true rfl, Nat.le_of_ble_eq_true rfl⟩) (fun H locs hZ => ?_)
    refine z_ifB_ne (tgt := 20) F dX8_seat_15 (by decide) (fun c_15 => ?_) (fun c_15 => ?_)
    · skip
      refine z_iload_n F dX8_seat_20 rfl (lv_at hl 2 rfl) ?_
      by_cases h_21 : q < 0 ∨ 8 < q
      · refine lv_tableOut (tgt := 248) F.1 F.2.1 dX8_seat_21 (by rw [zI_toInt (by omega)]; exact h_21) (by decide) ?_
        refine z_aload_n F dX8_seat_248 rfl (lv_at hl 0 rfl) ?_
        refine z_iload_n F dX8_seat_249 rfl (lv_at hl 1 rfl) ?_
        refine z_bxi hZ (va_runV (As := [.int (zI (x))]) (rest := []) F (k_X8_held l w dom A hDA sz G hd x (by omega)) (cwV 1 F.2.2.2.2 gX8_seat_X8_held rfl rfl rfl (by decide +kernel) ⟨Nat.le_of_ble_eq_true rfl, Nat.le_of_ble_eq_true rfl⟩) (z_preV hK hZ (64) (hd _ (by omega)) rfl (by decide) rfl _) rfl rfl hl.1 rfl (lv_room (Nat.le_of_ble_eq_true rfl)) dX8_seat_250 ⟨Nat.le_of_ble_eq_true rfl, Nat.le_of_ble_eq_true rfl⟩) (fun H locs hZ => ?_)
        exact z_iret F hr hlocks hZ (by first | rw [rSeat, if_pos (by omega)] | (rw [rSeat, if_neg (by omega)]; simp only [Int.reduceEq, ↓reduceIte]; done) | (rw [rSeat, if_neg (by omega)]; simp only [Int.reduceEq, ↓reduceIte]; first | rw [if_pos (by omega)] | (rw [if_neg (by omega)]; first | done | rfl | rw [if_pos (by omega)] | (rw [if_neg (by omega)]; first | rw [if_pos (by omega)] | rw [if_neg (by omega)]))) | (rw [rSeat, if_neg (by omega), if_neg (by omega), if_neg (by omega), if_neg (by omega), if_neg (by omega), if_neg (by omega), if_neg (by omega), if_neg (by omega), if_neg (by omega), if_neg (by omega)])) rfl dX8_seat_253 (by omega) (by omega)
      · rcases (show q = 0 ∨ q = 1 ∨ q = 2 ∨ q = 3 ∨ q = 4 ∨ q = 5 ∨ q = 6 ∨ q = 7 ∨ q = 8 by omega) with rfl | rfl | rfl | rfl | rfl | rfl | rfl | rfl | rfl
        · refine lv_tableIn (tgt := 72) F.1 F.2.1 dX8_seat_21 (by decide) (by decide) (off := 51) (by decide) (by decide) ?_
          refine z_aload_n F dX8_seat_72 rfl (lv_at hl 0 rfl) ?_
          refine z_iload_n F dX8_seat_73 rfl (lv_at hl 1 rfl) ?_
          refine z_iconst F dX8_seat_74 ?_
          refine z_bxi hZ (va_runV (As := [.int (zI (x)), .int (zI (0))]) (rest := []) F (k_X8_get l w dom A hDA sz G hd x 0 (by omega)) (cwV 2 F.2.2.2.2 gX8_seat_X8_get rfl rfl rfl (by decide +kernel) ⟨Nat.le_of_ble_eq_true rfl, Nat.le_of_ble_eq_true rfl⟩) (z_preV hK hZ (64) (hd _ (by omega)) rfl (by decide) rfl _) rfl rfl hl.1 rfl (lv_room (Nat.le_of_ble_eq_true rfl)) dX8_seat_75 ⟨Nat.le_of_ble_eq_true rfl, Nat.le_of_ble_eq_true rfl⟩) (fun H locs hZ => ?_)
          have r_1 := hZ.2.1.1 (67) (20 * x + 0)
          exact z_iret F hr hlocks hZ (by first | rw [rSeat, if_pos (by omega)] | (rw [rSeat, if_neg (by omega)]; simp only [Int.reduceEq, ↓reduceIte]; done) | (rw [rSeat, if_neg (by omega)]; simp only [Int.reduceEq, ↓reduceIte]; first | rw [if_pos (by omega)] | (rw [if_neg (by omega)]; first | done | rfl | rw [if_pos (by omega)] | (rw [if_neg (by omega)]; first | rw [if_pos (by omega)] | rw [if_neg (by omega)]))) | (rw [rSeat, if_neg (by omega), if_neg (by omega), if_neg (by omega), if_neg (by omega), if_neg (by omega), if_neg (by omega), if_neg (by omega), if_neg (by omega), if_neg (by omega), if_neg (by omega)])) rfl dX8_seat_78 (by omega) (by omega)
        · refine lv_tableIn (tgt := 79) F.1 F.2.1 dX8_seat_21 (by decide) (by decide) (off := 58) (by decide) (by decide) ?_
          refine z_aload_n F dX8_seat_79 rfl (lv_at hl 0 rfl) ?_
          refine z_iload_n F dX8_seat_80 rfl (lv_at hl 1 rfl) ?_
          refine z_iconst F dX8_seat_81 ?_
          refine z_bxi hZ (va_runV (As := [.int (zI (x)), .int (zI (1))]) (rest := []) F (k_X8_get l w dom A hDA sz G hd x 1 (by omega)) (cwV 2 F.2.2.2.2 gX8_seat_X8_get rfl rfl rfl (by decide +kernel) ⟨Nat.le_of_ble_eq_true rfl, Nat.le_of_ble_eq_true rfl⟩) (z_preV hK hZ (64) (hd _ (by omega)) rfl (by decide) rfl _) rfl rfl hl.1 rfl (lv_room (Nat.le_of_ble_eq_true rfl)) dX8_seat_82 ⟨Nat.le_of_ble_eq_true rfl, Nat.le_of_ble_eq_true rfl⟩) (fun H locs hZ => ?_)
          have r_2 := hZ.2.1.1 (67) (20 * x + 1)
          exact z_iret F hr hlocks hZ (by first | rw [rSeat, if_pos (by omega)] | (rw [rSeat, if_neg (by omega)]; simp only [Int.reduceEq, ↓reduceIte]; done) | (rw [rSeat, if_neg (by omega)]; simp only [Int.reduceEq, ↓reduceIte]; first | rw [if_pos (by omega)] | (rw [if_neg (by omega)]; first | done | rfl | rw [if_pos (by omega)] | (rw [if_neg (by omega)]; first | rw [if_pos (by omega)] | rw [if_neg (by omega)]))) | (rw [rSeat, if_neg (by omega), if_neg (by omega), if_neg (by omega), if_neg (by omega), if_neg (by omega), if_neg (by omega), if_neg (by omega), if_neg (by omega), if_neg (by omega), if_neg (by omega)])) rfl dX8_seat_85 (by omega) (by omega)
        · refine lv_tableIn (tgt := 86) F.1 F.2.1 dX8_seat_21 (by decide) (by decide) (off := 65) (by decide) (by decide) ?_
          refine z_aload_n F dX8_seat_86 rfl (lv_at hl 0 rfl) ?_
          refine z_iload_n F dX8_seat_87 rfl (lv_at hl 1 rfl) ?_
          refine z_iconst F dX8_seat_88 ?_
          refine z_bxi hZ (va_runV (As := [.int (zI (x)), .int (zI (2))]) (rest := []) F (k_X8_get l w dom A hDA sz G hd x 2 (by omega)) (cwV 2 F.2.2.2.2 gX8_seat_X8_get rfl rfl rfl (by decide +kernel) ⟨Nat.le_of_ble_eq_true rfl, Nat.le_of_ble_eq_true rfl⟩) (z_preV hK hZ (64) (hd _ (by omega)) rfl (by decide) rfl _) rfl rfl hl.1 rfl (lv_room (Nat.le_of_ble_eq_true rfl)) dX8_seat_89 ⟨Nat.le_of_ble_eq_true rfl, Nat.le_of_ble_eq_true rfl⟩) (fun H locs hZ => ?_)
          have r_3 := hZ.2.1.1 (67) (20 * x + 2)
          exact z_iret F hr hlocks hZ (by first | rw [rSeat, if_pos (by omega)] | (rw [rSeat, if_neg (by omega)]; simp only [Int.reduceEq, ↓reduceIte]; done) | (rw [rSeat, if_neg (by omega)]; simp only [Int.reduceEq, ↓reduceIte]; first | rw [if_pos (by omega)] | (rw [if_neg (by omega)]; first | done | rfl | rw [if_pos (by omega)] | (rw [if_neg (by omega)]; first | rw [if_pos (by omega)] | rw [if_neg (by omega)]))) | (rw [rSeat, if_neg (by omega), if_neg (by omega), if_neg (by omega), if_neg (by omega), if_neg (by omega), if_neg (by omega), if_neg (by omega), if_neg (by omega), if_neg (by omega), if_neg (by omega)])) rfl dX8_seat_92 (by omega) (by omega)
        · refine lv_tableIn (tgt := 93) F.1 F.2.1 dX8_seat_21 (by decide) (by decide) (off := 72) (by decide) (by decide) ?_
          refine z_aload_n F dX8_seat_93 rfl (lv_at hl 0 rfl) ?_
          refine z_iload_n F dX8_seat_94 rfl (lv_at hl 1 rfl) ?_
          refine z_iconst F dX8_seat_95 ?_
          refine z_bxi hZ (va_runV (As := [.int (zI (x)), .int (zI (3))]) (rest := []) F (k_X8_get l w dom A hDA sz G hd x 3 (by omega)) (cwV 2 F.2.2.2.2 gX8_seat_X8_get rfl rfl rfl (by decide +kernel) ⟨Nat.le_of_ble_eq_true rfl, Nat.le_of_ble_eq_true rfl⟩) (z_preV hK hZ (64) (hd _ (by omega)) rfl (by decide) rfl _) rfl rfl hl.1 rfl (lv_room (Nat.le_of_ble_eq_true rfl)) dX8_seat_96 ⟨Nat.le_of_ble_eq_true rfl, Nat.le_of_ble_eq_true rfl⟩) (fun H locs hZ => ?_)
          have r_4 := hZ.2.1.1 (67) (20 * x + 3)
          refine z_if_ge (tgt := 107) F (by omega) dX8_seat_99 (by decide) (fun c_99 => ?_) (fun c_99 => ?_)
          · skip
            refine z_aload_n F dX8_seat_107 rfl (lv_at hl 0 rfl) ?_
            refine z_iload_n F dX8_seat_108 rfl (lv_at hl 1 rfl) ?_
            refine z_iconst F dX8_seat_109 ?_
            refine z_bxi hZ (va_runV (As := [.int (zI (x)), .int (zI (3))]) (rest := []) F (k_X8_get l w dom A hDA sz G hd x 3 (by omega)) (cwV 2 F.2.2.2.2 gX8_seat_X8_get rfl rfl rfl (by decide +kernel) ⟨Nat.le_of_ble_eq_true rfl, Nat.le_of_ble_eq_true rfl⟩) (z_preV hK hZ (64) (hd _ (by omega)) rfl (by decide) rfl _) rfl rfl hl.1 rfl (lv_room (Nat.le_of_ble_eq_true rfl)) dX8_seat_110 ⟨Nat.le_of_ble_eq_true rfl, Nat.le_of_ble_eq_true rfl⟩) (fun H locs hZ => ?_)
            have r_5 := hZ.2.1.1 (67) (20 * x + 3)
            exact z_iret F hr hlocks hZ (by first | rw [rSeat, if_pos (by omega)] | (rw [rSeat, if_neg (by omega)]; simp only [Int.reduceEq, ↓reduceIte]; done) | (rw [rSeat, if_neg (by omega)]; simp only [Int.reduceEq, ↓reduceIte]; first | rw [if_pos (by omega)] | (rw [if_neg (by omega)]; first | done | rfl | rw [if_pos (by omega)] | (rw [if_neg (by omega)]; first | rw [if_pos (by omega)] | rw [if_neg (by omega)]))) | (rw [rSeat, if_neg (by omega), if_neg (by omega), if_neg (by omega), if_neg (by omega), if_neg (by omega), if_neg (by omega), if_neg (by omega), if_neg (by omega), if_neg (by omega), if_neg (by omega)])) rfl dX8_seat_113 (by omega) (by omega)
          · skip
            refine z_bipush F (by decide) dX8_seat_102 ?_
            refine lv_goto (tgt := 113) F.1 F.2.1 dX8_seat_104 (by decide) ?_
            exact z_iret F hr hlocks hZ (by first | rw [rSeat, if_pos (by omega)] | (rw [rSeat, if_neg (by omega)]; simp only [Int.reduceEq, ↓reduceIte]; done) | (rw [rSeat, if_neg (by omega)]; simp only [Int.reduceEq, ↓reduceIte]; first | rw [if_pos (by omega)] | (rw [if_neg (by omega)]; first | done | rfl | rw [if_pos (by omega)] | (rw [if_neg (by omega)]; first | rw [if_pos (by omega)] | rw [if_neg (by omega)]))) | (rw [rSeat, if_neg (by omega), if_neg (by omega), if_neg (by omega), if_neg (by omega), if_neg (by omega), if_neg (by omega), if_neg (by omega), if_neg (by omega), if_neg (by omega), if_neg (by omega)])) rfl dX8_seat_113 (by omega) (by omega)
        · refine lv_tableIn (tgt := 114) F.1 F.2.1 dX8_seat_21 (by decide) (by decide) (off := 93) (by decide) (by decide) ?_
          refine z_aload_n F dX8_seat_114 rfl (lv_at hl 0 rfl) ?_
          refine z_iload_n F dX8_seat_115 rfl (lv_at hl 1 rfl) ?_
          refine z_iconst F dX8_seat_116 ?_
          refine z_bxi hZ (va_runV (As := [.int (zI (x)), .int (zI (3))]) (rest := []) F (k_X8_get l w dom A hDA sz G hd x 3 (by omega)) (cwV 2 F.2.2.2.2 gX8_seat_X8_get rfl rfl rfl (by decide +kernel) ⟨Nat.le_of_ble_eq_true rfl, Nat.le_of_ble_eq_true rfl⟩) (z_preV hK hZ (64) (hd _ (by omega)) rfl (by decide) rfl _) rfl rfl hl.1 rfl (lv_room (Nat.le_of_ble_eq_true rfl)) dX8_seat_117 ⟨Nat.le_of_ble_eq_true rfl, Nat.le_of_ble_eq_true rfl⟩) (fun H locs hZ => ?_)
          have r_6 := hZ.2.1.1 (67) (20 * x + 3)
          refine z_if_ge (tgt := 128) F (by omega) dX8_seat_120 (by decide) (fun c_120 => ?_) (fun c_120 => ?_)
          · skip
            refine z_aload_n F dX8_seat_128 rfl (lv_at hl 0 rfl) ?_
            refine z_iload_n F dX8_seat_129 rfl (lv_at hl 1 rfl) ?_
            refine z_iconst F dX8_seat_130 ?_
            refine z_bxi hZ (va_runV (As := [.int (zI (x)), .int (zI (4))]) (rest := []) F (k_X8_get l w dom A hDA sz G hd x 4 (by omega)) (cwV 2 F.2.2.2.2 gX8_seat_X8_get rfl rfl rfl (by decide +kernel) ⟨Nat.le_of_ble_eq_true rfl, Nat.le_of_ble_eq_true rfl⟩) (z_preV hK hZ (64) (hd _ (by omega)) rfl (by decide) rfl _) rfl rfl hl.1 rfl (lv_room (Nat.le_of_ble_eq_true rfl)) dX8_seat_131 ⟨Nat.le_of_ble_eq_true rfl, Nat.le_of_ble_eq_true rfl⟩) (fun H locs hZ => ?_)
            have r_7 := hZ.2.1.1 (67) (20 * x + 4)
            exact z_iret F hr hlocks hZ (by first | rw [rSeat, if_pos (by omega)] | (rw [rSeat, if_neg (by omega)]; simp only [Int.reduceEq, ↓reduceIte]; done) | (rw [rSeat, if_neg (by omega)]; simp only [Int.reduceEq, ↓reduceIte]; first | rw [if_pos (by omega)] | (rw [if_neg (by omega)]; first | done | rfl | rw [if_pos (by omega)] | (rw [if_neg (by omega)]; first | rw [if_pos (by omega)] | rw [if_neg (by omega)]))) | (rw [rSeat, if_neg (by omega), if_neg (by omega), if_neg (by omega), if_neg (by omega), if_neg (by omega), if_neg (by omega), if_neg (by omega), if_neg (by omega), if_neg (by omega), if_neg (by omega)])) rfl dX8_seat_134 (by omega) (by omega)
          · skip
            refine z_bipush F (by decide) dX8_seat_123 ?_
            refine lv_goto (tgt := 134) F.1 F.2.1 dX8_seat_125 (by decide) ?_
            exact z_iret F hr hlocks hZ (by first | rw [rSeat, if_pos (by omega)] | (rw [rSeat, if_neg (by omega)]; simp only [Int.reduceEq, ↓reduceIte]; done) | (rw [rSeat, if_neg (by omega)]; simp only [Int.reduceEq, ↓reduceIte]; first | rw [if_pos (by omega)] | (rw [if_neg (by omega)]; first | done | rfl | rw [if_pos (by omega)] | (rw [if_neg (by omega)]; first | rw [if_pos (by omega)] | rw [if_neg (by omega)]))) | (rw [rSeat, if_neg (by omega), if_neg (by omega), if_neg (by omega), if_neg (by omega), if_neg (by omega), if_neg (by omega), if_neg (by omega), if_neg (by omega), if_neg (by omega), if_neg (by omega)])) rfl dX8_seat_134 (by omega) (by omega)
        · refine lv_tableIn (tgt := 135) F.1 F.2.1 dX8_seat_21 (by decide) (by decide) (off := 114) (by decide) (by decide) ?_
          refine z_aload_n F dX8_seat_135 rfl (lv_at hl 0 rfl) ?_
          refine z_iload_n F dX8_seat_136 rfl (lv_at hl 1 rfl) ?_
          refine z_iconst F dX8_seat_137 ?_
          refine z_bxi hZ (va_runV (As := [.int (zI (x)), .int (zI (5))]) (rest := []) F (k_X8_get l w dom A hDA sz G hd x 5 (by omega)) (cwV 2 F.2.2.2.2 gX8_seat_X8_get rfl rfl rfl (by decide +kernel) ⟨Nat.le_of_ble_eq_true rfl, Nat.le_of_ble_eq_true rfl⟩) (z_preV hK hZ (64) (hd _ (by omega)) rfl (by decide) rfl _) rfl rfl hl.1 rfl (lv_room (Nat.le_of_ble_eq_true rfl)) dX8_seat_138 ⟨Nat.le_of_ble_eq_true rfl, Nat.le_of_ble_eq_true rfl⟩) (fun H locs hZ => ?_)
          have r_8 := hZ.2.1.1 (67) (20 * x + 5)
          refine z_if_ge (tgt := 149) F (by omega) dX8_seat_141 (by decide) (fun c_141 => ?_) (fun c_141 => ?_)
          · skip
            refine z_aload_n F dX8_seat_149 rfl (lv_at hl 0 rfl) ?_
            refine z_iload_n F dX8_seat_150 rfl (lv_at hl 1 rfl) ?_
            refine z_iconst F dX8_seat_151 ?_
            refine z_bxi hZ (va_runV (As := [.int (zI (x)), .int (zI (5))]) (rest := []) F (k_X8_get l w dom A hDA sz G hd x 5 (by omega)) (cwV 2 F.2.2.2.2 gX8_seat_X8_get rfl rfl rfl (by decide +kernel) ⟨Nat.le_of_ble_eq_true rfl, Nat.le_of_ble_eq_true rfl⟩) (z_preV hK hZ (64) (hd _ (by omega)) rfl (by decide) rfl _) rfl rfl hl.1 rfl (lv_room (Nat.le_of_ble_eq_true rfl)) dX8_seat_152 ⟨Nat.le_of_ble_eq_true rfl, Nat.le_of_ble_eq_true rfl⟩) (fun H locs hZ => ?_)
            have r_9 := hZ.2.1.1 (67) (20 * x + 5)
            exact z_iret F hr hlocks hZ (by first | rw [rSeat, if_pos (by omega)] | (rw [rSeat, if_neg (by omega)]; simp only [Int.reduceEq, ↓reduceIte]; done) | (rw [rSeat, if_neg (by omega)]; simp only [Int.reduceEq, ↓reduceIte]; first | rw [if_pos (by omega)] | (rw [if_neg (by omega)]; first | done | rfl | rw [if_pos (by omega)] | (rw [if_neg (by omega)]; first | rw [if_pos (by omega)] | rw [if_neg (by omega)]))) | (rw [rSeat, if_neg (by omega), if_neg (by omega), if_neg (by omega), if_neg (by omega), if_neg (by omega), if_neg (by omega), if_neg (by omega), if_neg (by omega), if_neg (by omega), if_neg (by omega)])) rfl dX8_seat_155 (by omega) (by omega)
          · skip
            refine z_bipush F (by decide) dX8_seat_144 ?_
            refine lv_goto (tgt := 155) F.1 F.2.1 dX8_seat_146 (by decide) ?_
            exact z_iret F hr hlocks hZ (by first | rw [rSeat, if_pos (by omega)] | (rw [rSeat, if_neg (by omega)]; simp only [Int.reduceEq, ↓reduceIte]; done) | (rw [rSeat, if_neg (by omega)]; simp only [Int.reduceEq, ↓reduceIte]; first | rw [if_pos (by omega)] | (rw [if_neg (by omega)]; first | done | rfl | rw [if_pos (by omega)] | (rw [if_neg (by omega)]; first | rw [if_pos (by omega)] | rw [if_neg (by omega)]))) | (rw [rSeat, if_neg (by omega), if_neg (by omega), if_neg (by omega), if_neg (by omega), if_neg (by omega), if_neg (by omega), if_neg (by omega), if_neg (by omega), if_neg (by omega), if_neg (by omega)])) rfl dX8_seat_155 (by omega) (by omega)
        · refine lv_tableIn (tgt := 156) F.1 F.2.1 dX8_seat_21 (by decide) (by decide) (off := 135) (by decide) (by decide) ?_
          refine z_aload_n F dX8_seat_156 rfl (lv_at hl 0 rfl) ?_
          refine z_iload_n F dX8_seat_157 rfl (lv_at hl 1 rfl) ?_
          refine z_iconst F dX8_seat_158 ?_
          refine z_bxi hZ (va_runV (As := [.int (zI (x)), .int (zI (5))]) (rest := []) F (k_X8_get l w dom A hDA sz G hd x 5 (by omega)) (cwV 2 F.2.2.2.2 gX8_seat_X8_get rfl rfl rfl (by decide +kernel) ⟨Nat.le_of_ble_eq_true rfl, Nat.le_of_ble_eq_true rfl⟩) (z_preV hK hZ (64) (hd _ (by omega)) rfl (by decide) rfl _) rfl rfl hl.1 rfl (lv_room (Nat.le_of_ble_eq_true rfl)) dX8_seat_159 ⟨Nat.le_of_ble_eq_true rfl, Nat.le_of_ble_eq_true rfl⟩) (fun H locs hZ => ?_)
          have r_10 := hZ.2.1.1 (67) (20 * x + 5)
          refine z_if_ge (tgt := 170) F (by omega) dX8_seat_162 (by decide) (fun c_162 => ?_) (fun c_162 => ?_)
          · skip
            refine z_aload_n F dX8_seat_170 rfl (lv_at hl 0 rfl) ?_
            refine z_iload_n F dX8_seat_171 rfl (lv_at hl 1 rfl) ?_
            refine z_bipush F (by decide) dX8_seat_172 ?_
            refine z_bxi hZ (va_runV (As := [.int (zI (x)), .int (zI (6))]) (rest := []) F (k_X8_get l w dom A hDA sz G hd x 6 (by omega)) (cwV 2 F.2.2.2.2 gX8_seat_X8_get rfl rfl rfl (by decide +kernel) ⟨Nat.le_of_ble_eq_true rfl, Nat.le_of_ble_eq_true rfl⟩) (z_preV hK hZ (64) (hd _ (by omega)) rfl (by decide) rfl _) rfl rfl hl.1 rfl (lv_room (Nat.le_of_ble_eq_true rfl)) dX8_seat_174 ⟨Nat.le_of_ble_eq_true rfl, Nat.le_of_ble_eq_true rfl⟩) (fun H locs hZ => ?_)
            have r_11 := hZ.2.1.1 (67) (20 * x + 6)
            exact z_iret F hr hlocks hZ (by first | rw [rSeat, if_pos (by omega)] | (rw [rSeat, if_neg (by omega)]; simp only [Int.reduceEq, ↓reduceIte]; done) | (rw [rSeat, if_neg (by omega)]; simp only [Int.reduceEq, ↓reduceIte]; first | rw [if_pos (by omega)] | (rw [if_neg (by omega)]; first | done | rfl | rw [if_pos (by omega)] | (rw [if_neg (by omega)]; first | rw [if_pos (by omega)] | rw [if_neg (by omega)]))) | (rw [rSeat, if_neg (by omega), if_neg (by omega), if_neg (by omega), if_neg (by omega), if_neg (by omega), if_neg (by omega), if_neg (by omega), if_neg (by omega), if_neg (by omega), if_neg (by omega)])) rfl dX8_seat_177 (by omega) (by omega)
          · skip
            refine z_bipush F (by decide) dX8_seat_165 ?_
            refine lv_goto (tgt := 177) F.1 F.2.1 dX8_seat_167 (by decide) ?_
            exact z_iret F hr hlocks hZ (by first | rw [rSeat, if_pos (by omega)] | (rw [rSeat, if_neg (by omega)]; simp only [Int.reduceEq, ↓reduceIte]; done) | (rw [rSeat, if_neg (by omega)]; simp only [Int.reduceEq, ↓reduceIte]; first | rw [if_pos (by omega)] | (rw [if_neg (by omega)]; first | done | rfl | rw [if_pos (by omega)] | (rw [if_neg (by omega)]; first | rw [if_pos (by omega)] | rw [if_neg (by omega)]))) | (rw [rSeat, if_neg (by omega), if_neg (by omega), if_neg (by omega), if_neg (by omega), if_neg (by omega), if_neg (by omega), if_neg (by omega), if_neg (by omega), if_neg (by omega), if_neg (by omega)])) rfl dX8_seat_177 (by omega) (by omega)
        · refine lv_tableIn (tgt := 178) F.1 F.2.1 dX8_seat_21 (by decide) (by decide) (off := 157) (by decide) (by decide) ?_
          refine z_aload_n F dX8_seat_178 rfl (lv_at hl 0 rfl) ?_
          refine z_iload_n F dX8_seat_179 rfl (lv_at hl 1 rfl) ?_
          refine z_bipush F (by decide) dX8_seat_180 ?_
          refine z_bxi hZ (va_runV (As := [.int (zI (x)), .int (zI (11))]) (rest := []) F (k_X8_get l w dom A hDA sz G hd x 11 (by omega)) (cwV 2 F.2.2.2.2 gX8_seat_X8_get rfl rfl rfl (by decide +kernel) ⟨Nat.le_of_ble_eq_true rfl, Nat.le_of_ble_eq_true rfl⟩) (z_preV hK hZ (64) (hd _ (by omega)) rfl (by decide) rfl _) rfl rfl hl.1 rfl (lv_room (Nat.le_of_ble_eq_true rfl)) dX8_seat_182 ⟨Nat.le_of_ble_eq_true rfl, Nat.le_of_ble_eq_true rfl⟩) (fun H locs hZ => ?_)
          have r_12 := hZ.2.1.1 (67) (20 * x + 11)
          refine z_iconst F dX8_seat_185 ?_
          refine z_aload_n F dX8_seat_186 rfl (lv_at hl 0 rfl) ?_
          refine z_iload_n F dX8_seat_187 rfl (lv_at hl 1 rfl) ?_
          refine z_bipush F (by decide) dX8_seat_188 ?_
          refine z_bxi hZ (va_runV (As := [.int (zI (x)), .int (zI (12))]) (rest := [.int (zI (2)), .int (zI (G 67 (20 * x + 11)))]) F (k_X8_get l w dom A hDA sz G hd x 12 (by omega)) (cwV 2 F.2.2.2.2 gX8_seat_X8_get rfl rfl rfl (by decide +kernel) ⟨Nat.le_of_ble_eq_true rfl, Nat.le_of_ble_eq_true rfl⟩) (z_preV hK hZ (64) (hd _ (by omega)) rfl (by decide) rfl _) rfl rfl hl.1 rfl (lv_room (Nat.le_of_ble_eq_true rfl)) dX8_seat_190 ⟨Nat.le_of_ble_eq_true rfl, Nat.le_of_ble_eq_true rfl⟩) (fun H locs hZ => ?_)
          have r_13 := hZ.2.1.1 (67) (20 * x + 12)
          refine z_imul F dX8_seat_193 ?_
          refine z_iadd F dX8_seat_194 ?_
          refine z_iconst F dX8_seat_195 ?_
          refine z_aload_n F dX8_seat_196 rfl (lv_at hl 0 rfl) ?_
          refine z_iload_n F dX8_seat_197 rfl (lv_at hl 1 rfl) ?_
          refine z_bipush F (by decide) dX8_seat_198 ?_
          refine z_bxi hZ (va_runV (As := [.int (zI (x)), .int (zI (13))]) (rest := [.int (zI (4)), .int (zI (G 67 (20 * x + 11) + (2 * (G 67 (20 * x + 12)))))]) F (k_X8_get l w dom A hDA sz G hd x 13 (by omega)) (cwV 2 F.2.2.2.2 gX8_seat_X8_get rfl rfl rfl (by decide +kernel) ⟨Nat.le_of_ble_eq_true rfl, Nat.le_of_ble_eq_true rfl⟩) (z_preV hK hZ (64) (hd _ (by omega)) rfl (by decide) rfl _) rfl rfl hl.1 rfl (lv_room (Nat.le_of_ble_eq_true rfl)) dX8_seat_200 ⟨Nat.le_of_ble_eq_true rfl, Nat.le_of_ble_eq_true rfl⟩) (fun H locs hZ => ?_)
          have r_14 := hZ.2.1.1 (67) (20 * x + 13)
          refine z_imul F dX8_seat_203 ?_
          refine z_iadd F dX8_seat_204 ?_
          exact z_iret F hr hlocks hZ (by first | rw [rSeat, if_pos (by omega)] | (rw [rSeat, if_neg (by omega)]; simp only [Int.reduceEq, ↓reduceIte]; done) | (rw [rSeat, if_neg (by omega)]; simp only [Int.reduceEq, ↓reduceIte]; first | rw [if_pos (by omega)] | (rw [if_neg (by omega)]; first | done | rfl | rw [if_pos (by omega)] | (rw [if_neg (by omega)]; first | rw [if_pos (by omega)] | rw [if_neg (by omega)]))) | (rw [rSeat, if_neg (by omega), if_neg (by omega), if_neg (by omega), if_neg (by omega), if_neg (by omega), if_neg (by omega), if_neg (by omega), if_neg (by omega), if_neg (by omega), if_neg (by omega)])) rfl dX8_seat_205 (by omega) (by omega)
        · refine lv_tableIn (tgt := 206) F.1 F.2.1 dX8_seat_21 (by decide) (by decide) (off := 185) (by decide) (by decide) ?_
          refine z_aload_n F dX8_seat_206 rfl (lv_at hl 0 rfl) ?_
          refine z_get F hK hZ (64) (hd _ (by omega)) rfl (by decide) rfl hin8 3 (by decide) mX8_seat_7 rfl rfl dX8_seat_207 ?_
          refine z_iload_n F dX8_seat_210 rfl (lv_at hl 1 rfl) ?_
          refine z_zald F hK hZ (65) (hd _ (by omega)) rfl (by decide) (by omega) (by omega) dX8_seat_211 ?_
          have r_15 := hZ.2.1.1 (65) (x)
          refine z_if_eq (tgt := 219) F (by omega) dX8_seat_212 (by decide) (fun c_212 => ?_) (fun c_212 => ?_)
          · skip
            refine z_aload_n F dX8_seat_219 rfl (lv_at hl 0 rfl) ?_
            refine z_iload_n F dX8_seat_220 rfl (lv_at hl 1 rfl) ?_
            refine z_bxi hZ (va_runV (As := [.int (zI (x))]) (rest := []) F (k_X8_isDone l w dom A hDA sz G hd x (by omega)) (cwV 1 F.2.2.2.2 gX8_seat_X8_isDone rfl rfl rfl (by decide +kernel) ⟨Nat.le_of_ble_eq_true rfl, Nat.le_of_ble_eq_true rfl⟩) (z_preV hK hZ (64) (hd _ (by omega)) rfl (by decide) rfl _) rfl rfl hl.1 rfl (lv_room (Nat.le_of_ble_eq_true rfl)) dX8_seat_221 ⟨Nat.le_of_ble_eq_true rfl, Nat.le_of_ble_eq_true rfl⟩) (fun H locs hZ => ?_)
            refine z_ifB_eq (tgt := 231) F dX8_seat_224 (by decide) (fun c_224 => ?_) (fun c_224 => ?_)
            · skip
              refine z_aload_n F dX8_seat_231 rfl (lv_at hl 0 rfl) ?_
              refine z_iload_n F dX8_seat_232 rfl (lv_at hl 1 rfl) ?_
              refine z_bipush F (by decide) dX8_seat_233 ?_
              refine z_bxi hZ (va_runV (As := [.int (zI (x)), .int (zI (7))]) (rest := []) F (k_X8_get l w dom A hDA sz G hd x 7 (by omega)) (cwV 2 F.2.2.2.2 gX8_seat_X8_get rfl rfl rfl (by decide +kernel) ⟨Nat.le_of_ble_eq_true rfl, Nat.le_of_ble_eq_true rfl⟩) (z_preV hK hZ (64) (hd _ (by omega)) rfl (by decide) rfl _) rfl rfl hl.1 rfl (lv_room (Nat.le_of_ble_eq_true rfl)) dX8_seat_235 ⟨Nat.le_of_ble_eq_true rfl, Nat.le_of_ble_eq_true rfl⟩) (fun H locs hZ => ?_)
              have r_16 := hZ.2.1.1 (67) (20 * x + 7)
              refine z_iconst F dX8_seat_238 ?_
              refine z_icmp_ne (tgt := 246) F (by omega) (by omega) dX8_seat_239 (by decide) (fun c_239 => ?_) (fun c_239 => ?_)
              · skip
                refine z_iconst F dX8_seat_246 ?_
                exact z_iret F hr hlocks hZ (by first | rw [rSeat, if_pos (by omega)] | (rw [rSeat, if_neg (by omega)]; simp only [Int.reduceEq, ↓reduceIte]; done) | (rw [rSeat, if_neg (by omega)]; simp only [Int.reduceEq, ↓reduceIte]; first | rw [if_pos (by omega)] | (rw [if_neg (by omega)]; first | done | rfl | rw [if_pos (by omega)] | (rw [if_neg (by omega)]; first | rw [if_pos (by omega)] | rw [if_neg (by omega)]))) | (rw [rSeat, if_neg (by omega), if_neg (by omega), if_neg (by omega), if_neg (by omega), if_neg (by omega), if_neg (by omega), if_neg (by omega), if_neg (by omega), if_neg (by omega), if_neg (by omega)])) rfl dX8_seat_247 (by omega) (by omega)
              · skip
                refine z_iconst F dX8_seat_242 ?_
                refine lv_goto (tgt := 247) F.1 F.2.1 dX8_seat_243 (by decide) ?_
                exact z_iret F hr hlocks hZ (by first | rw [rSeat, if_pos (by omega)] | (rw [rSeat, if_neg (by omega)]; simp only [Int.reduceEq, ↓reduceIte]; done) | (rw [rSeat, if_neg (by omega)]; simp only [Int.reduceEq, ↓reduceIte]; first | rw [if_pos (by omega)] | (rw [if_neg (by omega)]; first | done | rfl | rw [if_pos (by omega)] | (rw [if_neg (by omega)]; first | rw [if_pos (by omega)] | rw [if_neg (by omega)]))) | (rw [rSeat, if_neg (by omega), if_neg (by omega), if_neg (by omega), if_neg (by omega), if_neg (by omega), if_neg (by omega), if_neg (by omega), if_neg (by omega), if_neg (by omega), if_neg (by omega)])) rfl dX8_seat_247 (by omega) (by omega)
            · skip
              refine z_iconst F dX8_seat_227 ?_
              refine lv_goto (tgt := 247) F.1 F.2.1 dX8_seat_228 (by decide) ?_
              exact z_iret F hr hlocks hZ (by first | rw [rSeat, if_pos (by omega)] | (rw [rSeat, if_neg (by omega)]; simp only [Int.reduceEq, ↓reduceIte]; done) | (rw [rSeat, if_neg (by omega)]; simp only [Int.reduceEq, ↓reduceIte]; first | rw [if_pos (by omega)] | (rw [if_neg (by omega)]; first | done | rfl | rw [if_pos (by omega)] | (rw [if_neg (by omega)]; first | rw [if_pos (by omega)] | rw [if_neg (by omega)]))) | (rw [rSeat, if_neg (by omega), if_neg (by omega), if_neg (by omega), if_neg (by omega), if_neg (by omega), if_neg (by omega), if_neg (by omega), if_neg (by omega), if_neg (by omega), if_neg (by omega)])) rfl dX8_seat_247 (by omega) (by omega)
          · skip
            refine z_iconst F dX8_seat_215 ?_
            refine lv_goto (tgt := 247) F.1 F.2.1 dX8_seat_216 (by decide) ?_
            exact z_iret F hr hlocks hZ (by first | rw [rSeat, if_pos (by omega)] | (rw [rSeat, if_neg (by omega)]; simp only [Int.reduceEq, ↓reduceIte]; done) | (rw [rSeat, if_neg (by omega)]; simp only [Int.reduceEq, ↓reduceIte]; first | rw [if_pos (by omega)] | (rw [if_neg (by omega)]; first | done | rfl | rw [if_pos (by omega)] | (rw [if_neg (by omega)]; first | rw [if_pos (by omega)] | rw [if_neg (by omega)]))) | (rw [rSeat, if_neg (by omega), if_neg (by omega), if_neg (by omega), if_neg (by omega), if_neg (by omega), if_neg (by omega), if_neg (by omega), if_neg (by omega), if_neg (by omega), if_neg (by omega)])) rfl dX8_seat_247 (by omega) (by omega)
    · skip
      refine z_iconst F dX8_seat_18 ?_
      exact z_iret F hr hlocks hZ (by first | rw [rSeat, if_pos (by omega)] | (rw [rSeat, if_neg (by omega)]; simp only [Int.reduceEq, ↓reduceIte]; done) | (rw [rSeat, if_neg (by omega)]; simp only [Int.reduceEq, ↓reduceIte]; first | rw [if_pos (by omega)] | (rw [if_neg (by omega)]; first | done | rfl | rw [if_pos (by omega)] | (rw [if_neg (by omega)]; first | rw [if_pos (by omega)] | rw [if_neg (by omega)]))) | (rw [rSeat, if_neg (by omega), if_neg (by omega), if_neg (by omega), if_neg (by omega), if_neg (by omega), if_neg (by omega), if_neg (by omega), if_neg (by omega), if_neg (by omega), if_neg (by omega)])) rfl dX8_seat_19 (by omega) (by omega)

theorem mX8_count_29 : Cond.fieldLink RX8 29 "LockedChainModel" "n" "I" ∈ wsX8_count := by decide +kernel
theorem mX8_count_40 : Cond.fieldLink RX8 40 "LockedChainModel" "begun" "Z" ∈ wsX8_count := by decide +kernel
theorem mX8_count_44 : Cond.fieldLink RX8 44 "LockedChainModel" "letters" "I" ∈ wsX8_count := by decide +kernel
set_option maxHeartbeats 4000000 in
set_option maxRecDepth 100000 in
theorem k_X8_count (l : Launch) (w : zW) (dom : Nat → Prop) (A : Nat → Prop) (hDA : ∀ i, dom i → A (w.2.1 + i)) (sz : Nat) (G : zM) (hd : ∀ i, 64 ≤ i ∧ i < 71 → dom i) (hI : Inv G) (q : Int) (hq : -2147483648 ≤ q ∧ q < 2147483648) : Met l yX8_count wsX8_count { frames := 2, cells := 0, slots := 0, locals := 46 } (zPre w dom sz G [.ref (w.2.1 + (64)), .int (zI (q))]) (zQi w dom sz (rCount G q) (fun C => C = G) A) (0) (0) A := by
  refine Met.ofW (cc := cX8_count) (maxL := 2) (ret := (some .int)) (by decide) rfl ?_
  intro p e s m args below meth c s₁ B hml hv
  obtain ⟨rfl, hsz, hP, hK⟩ := hv
  have F : CallFix p m c cX8_count 2 s _ wsX8_count RX8 := ⟨B.exec, B.bytes, hml, findClass_of_methodNamed B.named, atoms_spec (ws := wsX8_count) B.pre⟩
  have hr := B.returns
  have hlocks := B.notSynchronized
  have hZ : Zs w dom A s.heap sz G s.heap [] := ⟨hsz, hP, va_S.rf⟩
  have hl := lv_entry ([.ref (w.2.1 + (64)), .int (zI (q))]) (n := 2) (Nat.le_of_ble_eq_true rfl)
  rw [lg_entry_eq]
  generalize (lg_sl ([.ref (w.2.1 + (64)), .int (zI (q))]) ++ List.replicate (2 - (lg_sl ([.ref (w.2.1 + (64)), .int (zI (q))])).length) Slot.unset).toArray = ls at hl ⊢
  have hl : lv_has ls 2 [(0, .ref (w.2.1 + (64))), (1, .int (zI (q)))] := hl
  have hin8 : ∀ v ∈ u_ws RX8 TX8 10, v ∈ wsX8_count := by decide +kernel
  have hn := hI.1
  have hL := hI.2.2.2.1
  refine z_iload_n F dX8_count_0 rfl (lv_at hl 1 rfl) ?_
  by_cases h_1 : q < 0 ∨ 9 < q
  · refine lv_tableOut (tgt := 116) F.1 F.2.1 dX8_count_1 (by rw [zI_toInt (by omega)]; exact h_1) (by decide) ?_
    refine z_iconst F dX8_count_116 ?_
    exact z_iret F hr hlocks hZ (by first | (unfold rCount; simp only [Int.reduceEq, ↓reduceIte]; done) | (unfold rCount; simp only [Int.reduceEq, ↓reduceIte]; first | rw [if_pos (by omega)] | rw [if_neg (by omega)]) | (rw [rCount, if_neg (by omega), if_neg (by omega), if_neg (by omega), if_neg (by omega), if_neg (by omega), if_neg (by omega), if_neg (by omega), if_neg (by omega), if_neg (by omega), if_neg (by omega)])) rfl dX8_count_117 (by omega) (by omega)
  · rcases (show q = 0 ∨ q = 1 ∨ q = 2 ∨ q = 3 ∨ q = 4 ∨ q = 5 ∨ q = 6 ∨ q = 7 ∨ q = 8 ∨ q = 9 by omega) with rfl | rfl | rfl | rfl | rfl | rfl | rfl | rfl | rfl | rfl
    · refine lv_tableIn (tgt := 56) F.1 F.2.1 dX8_count_1 (by decide) (by decide) (off := 55) (by decide) (by decide) ?_
      refine z_aload_n F dX8_count_56 rfl (lv_at hl 0 rfl) ?_
      refine z_get F hK hZ (64) (hd _ (by omega)) rfl (by decide) rfl hin8 0 (by decide) mX8_count_29 rfl rfl dX8_count_57 ?_
      have r_1 := hZ.2.1.1 (64) (0)
      exact z_iret F hr hlocks hZ (by first | (unfold rCount; simp only [Int.reduceEq, ↓reduceIte]; done) | (unfold rCount; simp only [Int.reduceEq, ↓reduceIte]; first | rw [if_pos (by omega)] | rw [if_neg (by omega)]) | (rw [rCount, if_neg (by omega), if_neg (by omega), if_neg (by omega), if_neg (by omega), if_neg (by omega), if_neg (by omega), if_neg (by omega), if_neg (by omega), if_neg (by omega), if_neg (by omega)])) rfl dX8_count_60 (by omega) (by omega)
    · refine lv_tableIn (tgt := 61) F.1 F.2.1 dX8_count_1 (by decide) (by decide) (off := 60) (by decide) (by decide) ?_
      refine z_aload_n F dX8_count_61 rfl (lv_at hl 0 rfl) ?_
      refine z_bxi hZ (va_runV (As := []) (rest := []) F (k_X8_falseMany l w dom A hDA sz G hd (by omega)) (cwV 0 F.2.2.2.2 gX8_count_X8_falseMany rfl rfl rfl (by decide +kernel) ⟨Nat.le_of_ble_eq_true rfl, Nat.le_of_ble_eq_true rfl⟩) (z_preV hK hZ (64) (hd _ (by omega)) rfl (by decide) rfl _) rfl rfl hl.1 rfl (lv_room (Nat.le_of_ble_eq_true rfl)) dX8_count_62 ⟨Nat.le_of_ble_eq_true rfl, Nat.le_of_ble_eq_true rfl⟩) (fun H locs hZ => ?_)
      have r_2 := cntB_rng (fun t => decide (G 65 (t : Int) ≠ 0)) (G 64 0).toNat
      exact z_iret F hr hlocks hZ (by first | (unfold rCount; simp only [Int.reduceEq, ↓reduceIte]; done) | (unfold rCount; simp only [Int.reduceEq, ↓reduceIte]; first | rw [if_pos (by omega)] | rw [if_neg (by omega)]) | (rw [rCount, if_neg (by omega), if_neg (by omega), if_neg (by omega), if_neg (by omega), if_neg (by omega), if_neg (by omega), if_neg (by omega), if_neg (by omega), if_neg (by omega), if_neg (by omega)])) rfl dX8_count_65 (by omega) (by omega)
    · refine lv_tableIn (tgt := 66) F.1 F.2.1 dX8_count_1 (by decide) (by decide) (off := 65) (by decide) (by decide) ?_
      refine z_aload_n F dX8_count_66 rfl (lv_at hl 0 rfl) ?_
      refine z_get F hK hZ (64) (hd _ (by omega)) rfl (by decide) rfl hin8 7 (by decide) mX8_count_44 rfl rfl dX8_count_67 ?_
      have r_3 := hZ.2.1.1 (64) (7)
      exact z_iret F hr hlocks hZ (by first | (unfold rCount; simp only [Int.reduceEq, ↓reduceIte]; done) | (unfold rCount; simp only [Int.reduceEq, ↓reduceIte]; first | rw [if_pos (by omega)] | rw [if_neg (by omega)]) | (rw [rCount, if_neg (by omega), if_neg (by omega), if_neg (by omega), if_neg (by omega), if_neg (by omega), if_neg (by omega), if_neg (by omega), if_neg (by omega), if_neg (by omega), if_neg (by omega)])) rfl dX8_count_70 (by omega) (by omega)
    · refine lv_tableIn (tgt := 71) F.1 F.2.1 dX8_count_1 (by decide) (by decide) (off := 70) (by decide) (by decide) ?_
      refine z_aload_n F dX8_count_71 rfl (lv_at hl 0 rfl) ?_
      refine z_bxi hZ (va_runV (As := []) (rest := []) F (k_X8_pending l w dom A hDA sz G hd hI) (cwV 0 F.2.2.2.2 gX8_count_X8_pending rfl rfl rfl (by decide +kernel) ⟨Nat.le_of_ble_eq_true rfl, Nat.le_of_ble_eq_true rfl⟩) (z_preV hK hZ (64) (hd _ (by omega)) rfl (by decide) rfl _) rfl rfl hl.1 rfl (lv_room (Nat.le_of_ble_eq_true rfl)) dX8_count_72 ⟨Nat.le_of_ble_eq_true rfl, Nat.le_of_ble_eq_true rfl⟩) (fun H locs hZ => ?_)
      exact z_iret F hr hlocks hZ (by first | (unfold rCount; simp only [Int.reduceEq, ↓reduceIte]; done) | (unfold rCount; simp only [Int.reduceEq, ↓reduceIte]; first | rw [if_pos (by omega)] | rw [if_neg (by omega)]) | (rw [rCount, if_neg (by omega), if_neg (by omega), if_neg (by omega), if_neg (by omega), if_neg (by omega), if_neg (by omega), if_neg (by omega), if_neg (by omega), if_neg (by omega), if_neg (by omega)])) rfl dX8_count_75 (by omega) (by omega)
    · refine lv_tableIn (tgt := 76) F.1 F.2.1 dX8_count_1 (by decide) (by decide) (off := 75) (by decide) (by decide) ?_
      refine z_aload_n F dX8_count_76 rfl (lv_at hl 0 rfl) ?_
      refine z_iconst F dX8_count_77 ?_
      refine z_bxi hZ (va_runV (As := [.int (zI (1))]) (rest := []) F (k_X8_height l w dom A hDA sz G hd hI 1 (by omega)) (cwV 1 F.2.2.2.2 gX8_count_X8_height rfl rfl rfl (by decide +kernel) ⟨Nat.le_of_ble_eq_true rfl, Nat.le_of_ble_eq_true rfl⟩) (z_preV hK hZ (64) (hd _ (by omega)) rfl (by decide) rfl _) rfl rfl hl.1 rfl (lv_room (Nat.le_of_ble_eq_true rfl)) dX8_count_78 ⟨Nat.le_of_ble_eq_true rfl, Nat.le_of_ble_eq_true rfl⟩) (fun H locs hZ => ?_)
      exact z_iret F hr hlocks hZ (by first | (unfold rCount; simp only [Int.reduceEq, ↓reduceIte]; done) | (unfold rCount; simp only [Int.reduceEq, ↓reduceIte]; first | rw [if_pos (by omega)] | rw [if_neg (by omega)]) | (rw [rCount, if_neg (by omega), if_neg (by omega), if_neg (by omega), if_neg (by omega), if_neg (by omega), if_neg (by omega), if_neg (by omega), if_neg (by omega), if_neg (by omega), if_neg (by omega)])) rfl dX8_count_81 (by omega) (by omega)
    · refine lv_tableIn (tgt := 82) F.1 F.2.1 dX8_count_1 (by decide) (by decide) (off := 81) (by decide) (by decide) ?_
      refine z_aload_n F dX8_count_82 rfl (lv_at hl 0 rfl) ?_
      refine z_iconst F dX8_count_83 ?_
      refine z_bxi hZ (va_runV (As := [.int (zI (0))]) (rest := []) F (k_X8_height l w dom A hDA sz G hd hI 0 (by omega)) (cwV 1 F.2.2.2.2 gX8_count_X8_height rfl rfl rfl (by decide +kernel) ⟨Nat.le_of_ble_eq_true rfl, Nat.le_of_ble_eq_true rfl⟩) (z_preV hK hZ (64) (hd _ (by omega)) rfl (by decide) rfl _) rfl rfl hl.1 rfl (lv_room (Nat.le_of_ble_eq_true rfl)) dX8_count_84 ⟨Nat.le_of_ble_eq_true rfl, Nat.le_of_ble_eq_true rfl⟩) (fun H locs hZ => ?_)
      exact z_iret F hr hlocks hZ (by first | (unfold rCount; simp only [Int.reduceEq, ↓reduceIte]; done) | (unfold rCount; simp only [Int.reduceEq, ↓reduceIte]; first | rw [if_pos (by omega)] | rw [if_neg (by omega)]) | (rw [rCount, if_neg (by omega), if_neg (by omega), if_neg (by omega), if_neg (by omega), if_neg (by omega), if_neg (by omega), if_neg (by omega), if_neg (by omega), if_neg (by omega), if_neg (by omega)])) rfl dX8_count_87 (by omega) (by omega)
    · refine lv_tableIn (tgt := 88) F.1 F.2.1 dX8_count_1 (by decide) (by decide) (off := 87) (by decide) (by decide) ?_
      refine z_aload_n F dX8_count_88 rfl (lv_at hl 0 rfl) ?_
      refine z_get F hK hZ (64) (hd _ (by omega)) rfl (by decide) rfl hin8 2 (by decide) mX8_count_40 rfl rfl dX8_count_89 ?_
      have r_4 := hZ.2.1.1 (64) (2)
      refine z_if_eq (tgt := 99) F (by omega) dX8_count_92 (by decide) (fun c_92 => ?_) (fun c_92 => ?_)
      · skip
        refine z_iconst F dX8_count_99 ?_
        exact z_iret F hr hlocks hZ (by first | (unfold rCount; simp only [Int.reduceEq, ↓reduceIte]; done) | (unfold rCount; simp only [Int.reduceEq, ↓reduceIte]; first | rw [if_pos (by omega)] | rw [if_neg (by omega)]) | (rw [rCount, if_neg (by omega), if_neg (by omega), if_neg (by omega), if_neg (by omega), if_neg (by omega), if_neg (by omega), if_neg (by omega), if_neg (by omega), if_neg (by omega), if_neg (by omega)])) rfl dX8_count_100 (by omega) (by omega)
      · skip
        refine z_iconst F dX8_count_95 ?_
        refine lv_goto (tgt := 100) F.1 F.2.1 dX8_count_96 (by decide) ?_
        exact z_iret F hr hlocks hZ (by first | (unfold rCount; simp only [Int.reduceEq, ↓reduceIte]; done) | (unfold rCount; simp only [Int.reduceEq, ↓reduceIte]; first | rw [if_pos (by omega)] | rw [if_neg (by omega)]) | (rw [rCount, if_neg (by omega), if_neg (by omega), if_neg (by omega), if_neg (by omega), if_neg (by omega), if_neg (by omega), if_neg (by omega), if_neg (by omega), if_neg (by omega), if_neg (by omega)])) rfl dX8_count_100 (by omega) (by omega)
    · refine lv_tableIn (tgt := 101) F.1 F.2.1 dX8_count_1 (by decide) (by decide) (off := 100) (by decide) (by decide) ?_
      refine z_aload_n F dX8_count_101 rfl (lv_at hl 0 rfl) ?_
      refine z_bxi hZ (va_runV (As := []) (rest := []) F (k_X8_many l w dom A hDA sz G hd (by omega)) (cwV 0 F.2.2.2.2 gX8_count_X8_many rfl rfl rfl (by decide +kernel) ⟨Nat.le_of_ble_eq_true rfl, Nat.le_of_ble_eq_true rfl⟩) (z_preV hK hZ (64) (hd _ (by omega)) rfl (by decide) rfl _) rfl rfl hl.1 rfl (lv_room (Nat.le_of_ble_eq_true rfl)) dX8_count_102 ⟨Nat.le_of_ble_eq_true rfl, Nat.le_of_ble_eq_true rfl⟩) (fun H locs hZ => ?_)
      exact z_iret F hr hlocks hZ (by first | (unfold rCount; simp only [Int.reduceEq, ↓reduceIte]; done) | (unfold rCount; simp only [Int.reduceEq, ↓reduceIte]; first | rw [if_pos (by omega)] | rw [if_neg (by omega)]) | (rw [rCount, if_neg (by omega), if_neg (by omega), if_neg (by omega), if_neg (by omega), if_neg (by omega), if_neg (by omega), if_neg (by omega), if_neg (by omega), if_neg (by omega), if_neg (by omega)])) rfl dX8_count_105 (by omega) (by omega)
    · refine lv_tableIn (tgt := 106) F.1 F.2.1 dX8_count_1 (by decide) (by decide) (off := 105) (by decide) (by decide) ?_
      refine z_aload_n F dX8_count_106 rfl (lv_at hl 0 rfl) ?_
      refine z_bxi hZ (va_runV (As := []) (rest := []) F (k_X8_some l w dom A hDA sz G hd (by omega)) (cwV 0 F.2.2.2.2 gX8_count_X8_some rfl rfl rfl (by decide +kernel) ⟨Nat.le_of_ble_eq_true rfl, Nat.le_of_ble_eq_true rfl⟩) (z_preV hK hZ (64) (hd _ (by omega)) rfl (by decide) rfl _) rfl rfl hl.1 rfl (lv_room (Nat.le_of_ble_eq_true rfl)) dX8_count_107 ⟨Nat.le_of_ble_eq_true rfl, Nat.le_of_ble_eq_true rfl⟩) (fun H locs hZ => ?_)
      exact z_iret F hr hlocks hZ (by first | (unfold rCount; simp only [Int.reduceEq, ↓reduceIte]; done) | (unfold rCount; simp only [Int.reduceEq, ↓reduceIte]; first | rw [if_pos (by omega)] | rw [if_neg (by omega)]) | (rw [rCount, if_neg (by omega), if_neg (by omega), if_neg (by omega), if_neg (by omega), if_neg (by omega), if_neg (by omega), if_neg (by omega), if_neg (by omega), if_neg (by omega), if_neg (by omega)])) rfl dX8_count_110 (by omega) (by omega)
    · refine lv_tableIn (tgt := 111) F.1 F.2.1 dX8_count_1 (by decide) (by decide) (off := 110) (by decide) (by decide) ?_
      refine z_aload_n F dX8_count_111 rfl (lv_at hl 0 rfl) ?_
      refine z_bxi hZ (va_runV (As := []) (rest := []) F (k_X8_unlike l w dom A hDA sz G hd hI) (cwV 0 F.2.2.2.2 gX8_count_X8_unlike rfl rfl rfl (by decide +kernel) ⟨Nat.le_of_ble_eq_true rfl, Nat.le_of_ble_eq_true rfl⟩) (z_preV hK hZ (64) (hd _ (by omega)) rfl (by decide) rfl _) rfl rfl hl.1 rfl (lv_room (Nat.le_of_ble_eq_true rfl)) dX8_count_112 ⟨Nat.le_of_ble_eq_true rfl, Nat.le_of_ble_eq_true rfl⟩) (fun H locs hZ => ?_)
      exact z_iret F hr hlocks hZ (by first | (unfold rCount; simp only [Int.reduceEq, ↓reduceIte]; done) | (unfold rCount; simp only [Int.reduceEq, ↓reduceIte]; first | rw [if_pos (by omega)] | rw [if_neg (by omega)]) | (rw [rCount, if_neg (by omega), if_neg (by omega), if_neg (by omega), if_neg (by omega), if_neg (by omega), if_neg (by omega), if_neg (by omega), if_neg (by omega), if_neg (by omega), if_neg (by omega)])) rfl dX8_count_115 (by omega) (by omega)
