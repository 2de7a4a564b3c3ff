set_option maxHeartbeats 4000000 in
set_option maxRecDepth 100000 in
theorem k_X8_fits (l : Launch) (w : zW) (dom : Nat → Prop) (A : Nat → Prop) (hDA : ∀ i, dom i → A (w.2.1 + i)) (sz : Nat) (G : zM) (hd : ∀ i, 64 ≤ i ∧ i < 71 → dom i) (hI : Inv G) (x : Int) (h0 : 0 ≤ x ∧ x < 7) (h5 : G 67 (20 * x + 0) ≤ 5) : Met l yX8_fits wsX8_fits { frames := 4, cells := 0, slots := 0, locals := 94 } (zPre w dom sz G [.ref (w.2.1 + (64)), .int (zI (x))]) (zQi w dom sz (bI ((fitsM G x).isSome = true)) (fun C => C = (fitsM G x).getD G) A) (0) (0) A := by
  refine Met.ofW (cc := cX8_fits) (maxL := 2) (ret := (some .boolean)) (by decide) rfl ?_
  intro p e s m args below meth c s₁ B hml hv
  obtain ⟨rfl, hsz, hP, hK⟩ := hv
  have F : CallFix p m c cX8_fits 2 s _ wsX8_fits RX8 := ⟨B.exec, B.bytes, hml, findClass_of_methodNamed B.named, atoms_spec (ws := wsX8_fits) B.pre⟩
  have hr := B.returns
  have hlocks := B.notSynchronized
  have hZ : Zs w dom A s.heap sz G s.heap [] := ⟨hsz, hP, va_S.rf⟩
  have hl := lv_entry ([.ref (w.2.1 + (64)), .int (zI (x))]) (n := 2) (Nat.le_of_ble_eq_true rfl)
  rw [lg_entry_eq]
  generalize (lg_sl ([.ref (w.2.1 + (64)), .int (zI (x))]) ++ List.replicate (2 - (lg_sl ([.ref (w.2.1 + (64)), .int (zI (x))])).length) Slot.unset).toArray = ls at hl ⊢
  have hl : lv_has ls 2 [(0, .ref (w.2.1 + (64))), (1, .int (zI (x)))] := hl
  refine z_aload_n F dX8_fits_0 rfl (lv_at hl 0 rfl) ?_
  refine z_iload_n F dX8_fits_1 rfl (lv_at hl 1 rfl) ?_
  refine z_bxi hZ (va_runV (As := [.int (zI (x))]) (rest := []) F (k_X8_decides l w dom A hDA sz G hd hI x h0 h5) (cwV 1 F.2.2.2.2 gX8_fits_X8_decides rfl rfl rfl (by decide +kernel) ⟨Nat.le_of_ble_eq_true rfl, Nat.le_of_ble_eq_true rfl⟩) (z_preV hK hZ (64) (hd _ (by omega)) rfl (by decide) rfl _) rfl rfl hl.1 rfl (lv_room (Nat.le_of_ble_eq_true rfl)) dX8_fits_2 ⟨Nat.le_of_ble_eq_true rfl, Nat.le_of_ble_eq_true rfl⟩) (fun H locs hZ => ?_)
  refine z_ifB_ne (tgt := 48) F dX8_fits_5 (by decide) (fun c_5 => ?_) (fun c_5 => ?_)
  · skip
    have e : fitsM G x = decidesM G x := by rw [fitsM, orM_yes c_5]
    refine z_iconst F dX8_fits_48 ?_
    refine lv_goto (tgt := 53) F.1 F.2.1 dX8_fits_49 (by decide) ?_
    exact z_zret F hr hlocks hZ (bI_1 (by rw [e]; exact c_5)) (by omega) (by rw [e]) dX8_fits_53 (by omega) (by omega)
  · skip
    rw [getD_no c_5] at hZ
    refine z_aload_n F dX8_fits_8 rfl (lv_at hl 0 rfl) ?_
    refine z_iload_n F dX8_fits_9 rfl (lv_at hl 1 rfl) ?_
    refine z_bxi hZ (va_runV (As := [.int (zI (x))]) (rest := []) F (k_X8_jumps l w dom A hDA sz G hd hI x h0) (cwV 1 F.2.2.2.2 gX8_fits_X8_jumps rfl rfl rfl (by decide +kernel) ⟨Nat.le_of_ble_eq_true rfl, Nat.le_of_ble_eq_true rfl⟩) (z_preV hK hZ (64) (hd _ (by omega)) rfl (by decide) rfl _) rfl rfl hl.1 rfl (lv_room (Nat.le_of_ble_eq_true rfl)) dX8_fits_10 ⟨Nat.le_of_ble_eq_true rfl, Nat.le_of_ble_eq_true rfl⟩) (fun H locs hZ => ?_)
    refine z_ifB_ne (tgt := 48) F dX8_fits_13 (by decide) (fun c_13 => ?_) (fun c_13 => ?_)
    · skip
      have e : fitsM G x = jumpsM G x := by rw [fitsM, orM_no c_5, orM_yes c_13]
      refine z_iconst F dX8_fits_48 ?_
      refine lv_goto (tgt := 53) F.1 F.2.1 dX8_fits_49 (by decide) ?_
      exact z_zret F hr hlocks hZ (bI_1 (by rw [e]; exact c_13)) (by omega) (by rw [e]) dX8_fits_53 (by omega) (by omega)
    · skip
      rw [getD_no c_13] at hZ
      refine z_aload_n F dX8_fits_16 rfl (lv_at hl 0 rfl) ?_
      refine z_iload_n F dX8_fits_17 rfl (lv_at hl 1 rfl) ?_
      refine z_bxi hZ (va_runV (As := [.int (zI (x))]) (rest := []) F (k_X8_prevotes l w dom A hDA sz G hd hI x h0) (cwV 1 F.2.2.2.2 gX8_fits_X8_prevotes rfl rfl rfl (by decide +kernel) ⟨Nat.le_of_ble_eq_true rfl, Nat.le_of_ble_eq_true rfl⟩) (z_preV hK hZ (64) (hd _ (by omega)) rfl (by decide) rfl _) rfl rfl hl.1 rfl (lv_room (Nat.le_of_ble_eq_true rfl)) dX8_fits_18 ⟨Nat.le_of_ble_eq_true rfl, Nat.le_of_ble_eq_true rfl⟩) (fun H locs hZ => ?_)
      refine z_ifB_ne (tgt := 48) F dX8_fits_21 (by decide) (fun c_21 => ?_) (fun c_21 => ?_)
      · skip
        have e : fitsM G x = prevotesM G x := by rw [fitsM, orM_no c_5, orM_no c_13, orM_yes c_21]
        refine z_iconst F dX8_fits_48 ?_
        refine lv_goto (tgt := 53) F.1 F.2.1 dX8_fits_49 (by decide) ?_
        exact z_zret F hr hlocks hZ (bI_1 (by rw [e]; exact c_21)) (by omega) (by rw [e]) dX8_fits_53 (by omega) (by omega)
      · skip
        rw [getD_no c_21] at hZ
        refine z_aload_n F dX8_fits_24 rfl (lv_at hl 0 rfl) ?_
        refine z_iload_n F dX8_fits_25 rfl (lv_at hl 1 rfl) ?_
        refine z_bxi hZ (va_runV (As := [.int (zI (x))]) (rest := []) F (k_X8_locks l w dom A hDA sz G hd hI x h0) (cwV 1 F.2.2.2.2 gX8_fits_X8_locks rfl rfl rfl (by decide +kernel) ⟨Nat.le_of_ble_eq_true rfl, Nat.le_of_ble_eq_true rfl⟩) (z_preV hK hZ (64) (hd _ (by omega)) rfl (by decide) rfl _) rfl rfl hl.1 rfl (lv_room (Nat.le_of_ble_eq_true rfl)) dX8_fits_26 ⟨Nat.le_of_ble_eq_true rfl, Nat.le_of_ble_eq_true rfl⟩) (fun H locs hZ => ?_)
        refine z_ifB_ne (tgt := 48) F dX8_fits_29 (by decide) (fun c_29 => ?_) (fun c_29 => ?_)
        · skip
          have e : fitsM G x = locksM G x := by rw [fitsM, orM_no c_5, orM_no c_13, orM_no c_21, orM_yes c_29]
          refine z_iconst F dX8_fits_48 ?_
          refine lv_goto (tgt := 53) F.1 F.2.1 dX8_fits_49 (by decide) ?_
          exact z_zret F hr hlocks hZ (bI_1 (by rw [e]; exact c_29)) (by omega) (by rw [e]) dX8_fits_53 (by omega) (by omega)
        · skip
          rw [getD_no c_29] at hZ
          refine z_aload_n F dX8_fits_32 rfl (lv_at hl 0 rfl) ?_
          refine z_iload_n F dX8_fits_33 rfl (lv_at hl 1 rfl) ?_
          refine z_bxi hZ (va_runV (As := [.int (zI (x))]) (rest := []) F (k_X8_precommitsNil l w dom A hDA sz G hd hI x h0) (cwV 1 F.2.2.2.2 gX8_fits_X8_precommitsNil rfl rfl rfl (by decide +kernel) ⟨Nat.le_of_ble_eq_true rfl, Nat.le_of_ble_eq_true rfl⟩) (z_preV hK hZ (64) (hd _ (by omega)) rfl (by decide) rfl _) rfl rfl hl.1 rfl (lv_room (Nat.le_of_ble_eq_true rfl)) dX8_fits_34 ⟨Nat.le_of_ble_eq_true rfl, Nat.le_of_ble_eq_true rfl⟩) (fun H locs hZ => ?_)
          refine z_ifB_ne (tgt := 48) F dX8_fits_37 (by decide) (fun c_37 => ?_) (fun c_37 => ?_)
          · skip
            have e : fitsM G x = nilM G x := by rw [fitsM, orM_no c_5, orM_no c_13, orM_no c_21, orM_no c_29, orM_yes c_37]
            refine z_iconst F dX8_fits_48 ?_
            refine lv_goto (tgt := 53) F.1 F.2.1 dX8_fits_49 (by decide) ?_
            exact z_zret F hr hlocks hZ (bI_1 (by rw [e]; exact c_37)) (by omega) (by rw [e]) dX8_fits_53 (by omega) (by omega)
          · skip
            rw [getD_no c_37] at hZ
            refine z_aload_n F dX8_fits_40 rfl (lv_at hl 0 rfl) ?_
            refine z_iload_n F dX8_fits_41 rfl (lv_at hl 1 rfl) ?_
            refine z_bxi hZ (va_runV (As := [.int (zI (x))]) (rest := []) F (k_X8_timers l w dom A hDA sz G hd hI x h0) (cwV 1 F.2.2.2.2 gX8_fits_X8_timers rfl rfl rfl (by decide +kernel) ⟨Nat.le_of_ble_eq_true rfl, Nat.le_of_ble_eq_true rfl⟩) (z_preV hK hZ (64) (hd _ (by omega)) rfl (by decide) rfl _) rfl rfl hl.1 rfl (lv_room (Nat.le_of_ble_eq_true rfl)) dX8_fits_42 ⟨Nat.le_of_ble_eq_true rfl, Nat.le_of_ble_eq_true rfl⟩) (fun H locs hZ => ?_)
            refine z_ifB_eq (tgt := 52) F dX8_fits_45 (by decide) (fun c_45 => ?_) (fun c_45 => ?_)
            · skip
              have e : fitsM G x = timersM G x := by rw [fitsM, orM_no c_5, orM_no c_13, orM_no c_21, orM_no c_29, orM_no c_37]
              refine z_iconst F dX8_fits_52 ?_
              exact z_zret F hr hlocks hZ (bI_0 (by rw [e]; exact c_45)) (by omega) (by rw [e]) dX8_fits_53 (by omega) (by omega)
            · skip
              have e : fitsM G x = timersM G x := by rw [fitsM, orM_no c_5, orM_no c_13, orM_no c_21, orM_no c_29, orM_no c_37]
              refine z_iconst F dX8_fits_48 ?_
              refine lv_goto (tgt := 53) F.1 F.2.1 dX8_fits_49 (by decide) ?_
              exact z_zret F hr hlocks hZ (bI_1 (by rw [e]; exact c_45)) (by omega) (by rw [e]) dX8_fits_53 (by omega) (by omega)

theorem mX8_rules_7 : Cond.fieldLink RX8 7 "LockedChainModel" "isFalse" "[Z" ∈ wsX8_rules := by decide +kernel
set_option maxHeartbeats 4000000 in
set_option maxRecDepth 100000 in
theorem k_X8_rules (l : Launch) (w : zW) (dom : Nat → Prop) (A : Nat → Prop) (hDA : ∀ i, dom i → A (w.2.1 + i)) (sz : Nat) (G : zM) (hd : ∀ i, 64 ≤ i ∧ i < 71 → dom i) (hI : Inv G) (x : Int) (h0 : 0 ≤ x ∧ x < 7) (hx : x < G 64 0) : Met l yX8_rules wsX8_rules { frames := 5, cells := 0, slots := 0, locals := 115 } (zPre w dom sz G [.ref (w.2.1 + (64)), .int (zI (x))]) (zQv w dom sz (fun C => C = rulesM G x) A) (0) (0) A := by
  refine Met.ofW (cc := cX8_rules) (maxL := 2) (ret := none) (by decide) rfl ?_
  intro p e s m args below meth c s₁ B hml hv
  obtain ⟨rfl, hsz, hP, hK⟩ := hv
  have F : CallFix p m c cX8_rules 2 s _ wsX8_rules RX8 := ⟨B.exec, B.bytes, hml, findClass_of_methodNamed B.named, atoms_spec (ws := wsX8_rules) B.pre⟩
  have hr := B.returns
  have hlocks := B.notSynchronized
  have hZ : Zs w dom A s.heap sz G s.heap [] := ⟨hsz, hP, va_S.rf⟩
  have hl := lv_entry ([.ref (w.2.1 + (64)), .int (zI (x))]) (n := 2) (Nat.le_of_ble_eq_true rfl)
  rw [lg_entry_eq]
  generalize (lg_sl ([.ref (w.2.1 + (64)), .int (zI (x))]) ++ List.replicate (2 - (lg_sl ([.ref (w.2.1 + (64)), .int (zI (x))])).length) Slot.unset).toArray = ls at hl ⊢
  have hl : lv_has ls 2 [(0, .ref (w.2.1 + (64))), (1, .int (zI (x)))] := hl
  have hin8 : ∀ v ∈ u_ws RX8 TX8 10, v ∈ wsX8_rules := by decide +kernel
  have L_0 : ∀ (nf : Nat) (M : zM) (k : Nat), (muI M x < (nf : Int)) → (Inv M) → (M 64 0 = G 64 0) → (muI M x < (k : Int)) → (rulesF x k M = rulesM G x) →  ∀ (H : Heap) (locs : List Loc) (ls : Array Slot), Zs w dom A s.heap sz M H locs → lv_has ls 2 [(0, .ref (w.2.1 + (64))), (1, .int (zI (x)))] → W p l e (headSpec wsX8_rules { frames := 5, cells := 0, slots := 0, locals := 115 }).room s m ([.ref (w.2.1 + (64)), .int (zI (x))] : List Value).toArray below meth c H locs (0) (0) (MQ below (zQv w dom sz (fun C => C = rulesM G x) A) ([.ref (w.2.1 + (64)), .int (zI (x))] : List Value).toArray s (0) (0) A) (F0 m 0 ls []) := by
    intro nf
    induction nf with
    | zero => intro M  k  h0_0 h0_1 h0_2 h0_3 h0_4; exact absurd h0_0 (by have := muI_rng h0_1 h0; omega)
    | succ nf ih_0 =>
      intro M  k  h0_0 h0_1 h0_2 h0_3 h0_4 H locs ls hZ hl
      have hM := h0_1
      have hn := hM.1
      have hL := hM.2.2.2.1
      have iS := seat_rng hM h0
      have hmu := muI_rng hM h0
      have fl01 := (hM.2.2.2.2.1 x h0.1 h0.2).1.1
      refine z_aload_n F dX8_rules_0 rfl (lv_at hl 0 rfl) ?_
      refine z_get F hK hZ (64) (hd _ (by omega)) rfl (by decide) rfl hin8 3 (by decide) mX8_rules_7 rfl rfl dX8_rules_1 ?_
      refine z_iload_n F dX8_rules_4 rfl (lv_at hl 1 rfl) ?_
      refine z_zald F hK hZ (65) (hd _ (by omega)) rfl (by decide) (by omega) (by omega) dX8_rules_5 ?_
      have r_1 := hZ.2.1.1 (65) (x)
      refine z_if_ne (tgt := 44) F (by omega) dX8_rules_6 (by decide) (fun c_6 => ?_) (fun c_6 => ?_)
      · skip
        have e : rulesF x k M = M := rulesF_end (by omega) (Or.inl c_6)
        exact z_vret F hr hlocks hZ (by rw [← h0_4, e]) dX8_rules_44 (by omega) (by omega)
      · skip
        refine z_aload_n F dX8_rules_9 rfl (lv_at hl 0 rfl) ?_
        refine z_iload_n F dX8_rules_10 rfl (lv_at hl 1 rfl) ?_
        refine z_bxi hZ (va_runV (As := [.int (zI (x))]) (rest := []) F (k_X8_isDone l w dom A hDA sz M hd x (by omega)) (cwV 1 F.2.2.2.2 gX8_rules_X8_isDone rfl rfl rfl (by decide +kernel) ⟨Nat.le_of_ble_eq_true rfl, Nat.le_of_ble_eq_true rfl⟩) (z_preV hK hZ (64) (hd _ (by omega)) rfl (by decide) rfl _) rfl rfl hl.1 rfl (lv_room (Nat.le_of_ble_eq_true rfl)) dX8_rules_11 ⟨Nat.le_of_ble_eq_true rfl, Nat.le_of_ble_eq_true rfl⟩) (fun H locs hZ => ?_)
        refine z_ifB_ne (tgt := 44) F dX8_rules_14 (by decide) (fun c_14 => ?_) (fun c_14 => ?_)
        · skip
          have e : rulesF x k M = M := rulesF_end (by omega) (Or.inr c_14)
          exact z_vret F hr hlocks hZ (by rw [← h0_4, e]) dX8_rules_44 (by omega) (by omega)
        · skip
          refine z_aload_n F dX8_rules_17 rfl (lv_at hl 0 rfl) ?_
          refine z_iload_n F dX8_rules_18 rfl (lv_at hl 1 rfl) ?_
          refine z_bxi hZ (va_runV (As := [.int (zI (x))]) (rest := []) F (k_X8_fits l w dom A hDA sz M hd hM x h0 (by omega)) (cwV 1 F.2.2.2.2 gX8_rules_X8_fits rfl rfl rfl (by decide +kernel) ⟨Nat.le_of_ble_eq_true rfl, Nat.le_of_ble_eq_true rfl⟩) (z_preV hK hZ (64) (hd _ (by omega)) rfl (by decide) rfl _) rfl rfl hl.1 rfl (lv_room (Nat.le_of_ble_eq_true rfl)) dX8_rules_19 ⟨Nat.le_of_ble_eq_true rfl, Nat.le_of_ble_eq_true rfl⟩) (fun H locs hZ => ?_)
          refine z_ifB_eq (tgt := 44) F dX8_rules_22 (by decide) (fun c_22 => ?_) (fun c_22 => ?_)
          · skip
            rw [getD_no c_22] at hZ
            have e : rulesF x k M = M := rulesF_no c_22
            exact z_vret F hr hlocks hZ (by rw [← h0_4, e]) dX8_rules_44 (by omega) (by omega)
          · skip
            obtain ⟨M2, e2⟩ : ∃ M2, fitsM M x = some M2 := Option.isSome_iff_exists.mp c_22
            rw [e2] at hZ
            have hZ : Zs w dom A s.heap sz M2 _ _ := hZ
            have g := Gd_fits hM ⟨h0.1, by omega⟩ (by omega) (by omega) e2
            have tk := Nx_tick g.1.1 h0
            refine z_aload_n F dX8_rules_25 rfl (lv_at hl 0 rfl) ?_
            refine z_iload_n F dX8_rules_26 rfl (lv_at hl 1 rfl) ?_
            refine z_bipush F (by decide) dX8_rules_27 ?_
            refine z_aload_n F dX8_rules_29 rfl (lv_at hl 0 rfl) ?_
            refine z_iload_n F dX8_rules_30 rfl (lv_at hl 1 rfl) ?_
            refine z_bipush F (by decide) dX8_rules_31 ?_
            refine z_bxi hZ (va_runV (As := [.int (zI (x)), .int (zI (19))]) (rest := [.int (zI (19)), .int (zI (x)), .ref (w.2.1 + (64))]) F (k_X8_get l w dom A hDA sz M2 hd x 19 (by omega)) (cwV 2 F.2.2.2.2 gX8_rules_X8_get rfl rfl rfl (by decide +kernel) ⟨Nat.le_of_ble_eq_true rfl, Nat.le_of_ble_eq_true rfl⟩) (z_preV hK hZ (64) (hd _ (by omega)) rfl (by decide) rfl _) rfl rfl hl.1 rfl (lv_room (Nat.le_of_ble_eq_true rfl)) dX8_rules_33 ⟨Nat.le_of_ble_eq_true rfl, Nat.le_of_ble_eq_true rfl⟩) (fun H locs hZ => ?_)
            have r_2 := hZ.2.1.1 (67) (20 * x + 19)
            refine z_iconst F dX8_rules_36 ?_
            refine z_iadd F dX8_rules_37 ?_
            rw [zI_wr (M2 67 (20 * x + 19) + 1)]
            have hwr := wr_rng (M2 67 (20 * x + 19) + 1)
            refine z_bxv hZ (va_runV (As := [.int (zI (x)), .int (zI (19)), .int (zI (wr (M2 67 (20 * x + 19) + 1)))]) (rest := []) F (k_X8_set l w dom A hDA sz M2 hd x 19 (wr (M2 67 (20 * x + 19) + 1)) (by omega) (by omega)) (cwV 3 F.2.2.2.2 gX8_rules_X8_set rfl rfl rfl (by decide +kernel) ⟨Nat.le_of_ble_eq_true rfl, Nat.le_of_ble_eq_true rfl⟩) (z_preV hK hZ (64) (hd _ (by omega)) rfl (by decide) rfl _) rfl rfl hl.1 rfl (lv_room (Nat.le_of_ble_eq_true rfl)) dX8_rules_38 ⟨Nat.le_of_ble_eq_true rfl, Nat.le_of_ble_eq_true rfl⟩) (fun H locs hZ => ?_)
            refine lv_goto (tgt := 0) F.1 F.2.1 dX8_rules_41 (by decide) ?_
            exact ih_0 (tickM M2 x) (k - 1) (by have := g.2; have := tk.2; omega) tk.1.1 (by rw [tk.1.2.1.1, g.1.2.1.1]; exact h0_2) (by have := g.2; have := tk.2; omega) (by rw [← h0_4, rulesF_go (by omega) (by omega) e2]) _ _ _ hZ (lv_sub hl [0, 1] rfl)
  exact L_0 9000 G fuelR (by have := muI_rng hI h0; omega) hI rfl (by have := muI_rng hI h0; unfold fuelR; omega) rfl _ _ _ hZ (lv_sub hl [0, 1] rfl)

theorem mX8_comes_26 : Cond.fieldLink RX8 26 "LockedChainModel" "came" "[Z" ∈ wsX8_comes := by decide +kernel
set_option maxHeartbeats 4000000 in
set_option maxRecDepth 100000 in
theorem k_X8_comes (l : Launch) (w : zW) (dom : Nat → Prop) (A : Nat → Prop) (hDA : ∀ i, dom i → A (w.2.1 + i)) (sz : Nat) (G : zM) (hd : ∀ i, 64 ≤ i ∧ i < 71 → dom i) (hI : Inv G) (y x : Int) (h1 : 0 ≤ y ∧ y < G 64 7) (h2 : 0 ≤ x ∧ x < G 64 0) : Met l yX8_comes wsX8_comes { frames := 6, cells := 0, slots := 0, locals := 136 } (zPre w dom sz G [.ref (w.2.1 + (64)), .int (zI (y)), .int (zI (x))]) (zQv w dom sz (fun C => C = comesM G y x) A) (0) (0) A := by
  refine Met.ofW (cc := cX8_comes) (maxL := 3) (ret := none) (by decide) rfl ?_
  intro p e s m args below meth c s₁ B hml hv
  obtain ⟨rfl, hsz, hP, hK⟩ := hv
  have F : CallFix p m c cX8_comes 3 s _ wsX8_comes RX8 := ⟨B.exec, B.bytes, hml, findClass_of_methodNamed B.named, atoms_spec (ws := wsX8_comes) B.pre⟩
  have hr := B.returns
  have hlocks := B.notSynchronized
  have hZ : Zs w dom A s.heap sz G s.heap [] := ⟨hsz, hP, va_S.rf⟩
  have hl := lv_entry ([.ref (w.2.1 + (64)), .int (zI (y)), .int (zI (x))]) (n := 3) (Nat.le_of_ble_eq_true rfl)
  rw [lg_entry_eq]
  generalize (lg_sl ([.ref (w.2.1 + (64)), .int (zI (y)), .int (zI (x))]) ++ List.replicate (3 - (lg_sl ([.ref (w.2.1 + (64)), .int (zI (y)), .int (zI (x))])).length) Slot.unset).toArray = ls at hl ⊢
  have hl : lv_has ls 3 [(0, .ref (w.2.1 + (64))), (1, .int (zI (y))), (2, .int (zI (x)))] := hl
  have hin8 : ∀ v ∈ u_ws RX8 TX8 10, v ∈ wsX8_comes := by decide +kernel
  have hn := hI.1
  have hL := hI.2.2.2.1
  have hC := Nx_came hI h1 h2
  have hCn := hC.2.1.1
  refine z_aload_n F dX8_comes_0 rfl (lv_at hl 0 rfl) ?_
  refine z_get F hK hZ (64) (hd _ (by omega)) rfl (by decide) rfl hin8 9 (by decide) mX8_comes_26 rfl rfl dX8_comes_1 ?_
  refine z_bipush F (by decide) dX8_comes_4 ?_
  refine z_iload_n F dX8_comes_6 rfl (lv_at hl 1 rfl) ?_
  refine z_imul F dX8_comes_7 ?_
  refine z_iload_n F dX8_comes_8 rfl (lv_at hl 2 rfl) ?_
  refine z_iadd F dX8_comes_9 ?_
  refine z_iconst F dX8_comes_10 ?_
  refine z_zast F hK hZ hDA (70) (hd _ (by omega)) rfl (by decide) (by omega) (by omega) (by omega) dX8_comes_11 (fun H locs hZ => ?_)
  refine z_aload_n F dX8_comes_12 rfl (lv_at hl 0 rfl) ?_
  refine z_iload_n F dX8_comes_13 rfl (lv_at hl 2 rfl) ?_
  refine z_bxv hZ (va_runV (As := [.int (zI (x))]) (rest := []) F (k_X8_rules l w dom A hDA sz (up G (70) (7 * y + x) (1)) hd hC.1 x (by omega) (by omega)) (cwV 1 F.2.2.2.2 gX8_comes_X8_rules rfl rfl rfl (by decide +kernel) ⟨Nat.le_of_ble_eq_true rfl, Nat.le_of_ble_eq_true rfl⟩) (z_preV hK hZ (64) (hd _ (by omega)) rfl (by decide) rfl _) rfl rfl hl.1 rfl (lv_room (Nat.le_of_ble_eq_true rfl)) dX8_comes_14 ⟨Nat.le_of_ble_eq_true rfl, Nat.le_of_ble_eq_true rfl⟩) (fun H locs hZ => ?_)
  exact z_vret F hr hlocks hZ rfl dX8_comes_17 (by omega) (by omega)

set_option maxHeartbeats 4000000 in
set_option maxRecDepth 100000 in
theorem k_X8_ends (l : Launch) (w : zW) (dom : Nat → Prop) (A : Nat → Prop) (hDA : ∀ i, dom i → A (w.2.1 + i)) (sz : Nat) (G : zM) (hd : ∀ i, 64 ≤ i ∧ i < 71 → dom i) (hI : Inv G) (x k : Int) (h1 : 0 ≤ x ∧ x < G 64 0) (h2 : 0 ≤ k ∧ k < 3) (hf : G 65 x = 0) (hh : G 67 (20 * x + 0) ≤ 5) : Met l yX8_ends wsX8_ends { frames := 6, cells := 0, slots := 0, locals := 136 } (zPre w dom sz G [.ref (w.2.1 + (64)), .int (zI (x)), .int (zI (k))]) (zQv w dom sz (fun C => C = endsM G x k) A) (0) (0) A := by
  refine Met.ofW (cc := cX8_ends) (maxL := 3) (ret := none) (by decide) rfl ?_
  intro p e s m args below meth c s₁ B hml hv
  obtain ⟨rfl, hsz, hP, hK⟩ := hv
  have F : CallFix p m c cX8_ends 3 s _ wsX8_ends RX8 := ⟨B.exec, B.bytes, hml, findClass_of_methodNamed B.named, atoms_spec (ws := wsX8_ends) B.pre⟩
  have hr := B.returns
  have hlocks := B.notSynchronized
  have hZ : Zs w dom A s.heap sz G s.heap [] := ⟨hsz, hP, va_S.rf⟩
  have hl := lv_entry ([.ref (w.2.1 + (64)), .int (zI (x)), .int (zI (k))]) (n := 3) (Nat.le_of_ble_eq_true rfl)
  rw [lg_entry_eq]
  generalize (lg_sl ([.ref (w.2.1 + (64)), .int (zI (x)), .int (zI (k))]) ++ List.replicate (3 - (lg_sl ([.ref (w.2.1 + (64)), .int (zI (x)), .int (zI (k))])).length) Slot.unset).toArray = ls at hl ⊢
  have hl : lv_has ls 3 [(0, .ref (w.2.1 + (64))), (1, .int (zI (x))), (2, .int (zI (k)))] := hl
  have hn := hI.1
  have hL := hI.2.2.2.1
  have h0 : 0 ≤ x ∧ x < 7 := by omega
  have iS := seat_rng hI h0
  have hR := Nx_ring hI h1 h2 hf hh
  have hRn := hR.2.1.1
  have e0 : setM G x (11 + k) 0 67 (20 * x + 0) = G 67 (20 * x + 0) := setM_ne _ _ _ _ _ (by omega)
  have e1 : setM G x (11 + k) 0 67 (20 * x + 1) = G 67 (20 * x + 1) := setM_ne _ _ _ _ _ (by omega)
  refine z_aload_n F dX8_ends_0 rfl (lv_at hl 0 rfl) ?_
  refine z_iload_n F dX8_ends_1 rfl (lv_at hl 1 rfl) ?_
  refine z_bipush F (by decide) dX8_ends_2 ?_
  refine z_iload_n F dX8_ends_4 rfl (lv_at hl 2 rfl) ?_
  refine z_iadd F dX8_ends_5 ?_
  refine z_iconst F dX8_ends_6 ?_
  refine z_bxv hZ (va_runV (As := [.int (zI (x)), .int (zI (11 + k)), .int (zI (0))]) (rest := []) F (k_X8_set l w dom A hDA sz G hd x (11 + k) 0 (by omega) (by omega)) (cwV 3 F.2.2.2.2 gX8_ends_X8_set rfl rfl rfl (by decide +kernel) ⟨Nat.le_of_ble_eq_true rfl, Nat.le_of_ble_eq_true rfl⟩) (z_preV hK hZ (64) (hd _ (by omega)) rfl (by decide) rfl _) rfl rfl hl.1 rfl (lv_room (Nat.le_of_ble_eq_true rfl)) dX8_ends_7 ⟨Nat.le_of_ble_eq_true rfl, Nat.le_of_ble_eq_true rfl⟩) (fun H locs hZ => ?_)
  refine z_aload_n F dX8_ends_10 rfl (lv_at hl 0 rfl) ?_
  refine z_iload_n F dX8_ends_11 rfl (lv_at hl 1 rfl) ?_
  refine z_bipush F (by decide) dX8_ends_12 ?_
  refine z_iload_n F dX8_ends_14 rfl (lv_at hl 2 rfl) ?_
  refine z_iadd F dX8_ends_15 ?_
  refine z_bxi hZ (va_runV (As := [.int (zI (x)), .int (zI (14 + k))]) (rest := []) F (k_X8_get l w dom A hDA sz (setM G x (11 + k) 0) hd x (14 + k) (by omega)) (cwV 2 F.2.2.2.2 gX8_ends_X8_get rfl rfl rfl (by decide +kernel) ⟨Nat.le_of_ble_eq_true rfl, Nat.le_of_ble_eq_true rfl⟩) (z_preV hK hZ (64) (hd _ (by omega)) rfl (by decide) rfl _) rfl rfl hl.1 rfl (lv_room (Nat.le_of_ble_eq_true rfl)) dX8_ends_16 ⟨Nat.le_of_ble_eq_true rfl, Nat.le_of_ble_eq_true rfl⟩) (fun H locs hZ => ?_)
  have r_1 := hZ.2.1.1 (67) (20 * x + (14 + k))
  refine z_bipush F (by decide) dX8_ends_19 ?_
  refine z_aload_n F dX8_ends_21 rfl (lv_at hl 0 rfl) ?_
  refine z_iload_n F dX8_ends_22 rfl (lv_at hl 1 rfl) ?_
  refine z_iconst F dX8_ends_23 ?_
  refine z_bxi hZ (va_runV (As := [.int (zI (x)), .int (zI (0))]) (rest := [.int (zI (10)), .int (zI ((setM G x (11 + k) 0) 67 (20 * x + (14 + k))))]) F (k_X8_get l w dom A hDA sz (setM G x (11 + k) 0) hd x 0 (by omega)) (cwV 2 F.2.2.2.2 gX8_ends_X8_get rfl rfl rfl (by decide +kernel) ⟨Nat.le_of_ble_eq_true rfl, Nat.le_of_ble_eq_true rfl⟩) (z_preV hK hZ (64) (hd _ (by omega)) rfl (by decide) rfl _) rfl rfl hl.1 rfl (lv_room (Nat.le_of_ble_eq_true rfl)) dX8_ends_24 ⟨Nat.le_of_ble_eq_true rfl, Nat.le_of_ble_eq_true rfl⟩) (fun H locs hZ => ?_)
  have r_2 := hZ.2.1.1 (67) (20 * x + 0)
  refine z_imul F dX8_ends_27 ?_
  refine z_aload_n F dX8_ends_28 rfl (lv_at hl 0 rfl) ?_
  refine z_iload_n F dX8_ends_29 rfl (lv_at hl 1 rfl) ?_
  refine z_iconst F dX8_ends_30 ?_
  refine z_bxi hZ (va_runV (As := [.int (zI (x)), .int (zI (1))]) (rest := [.int (zI (10 * ((setM G x (11 + k) 0) 67 (20 * x + 0)))), .int (zI ((setM G x (11 + k) 0) 67 (20 * x + (14 + k))))]) F (k_X8_get l w dom A hDA sz (setM G x (11 + k) 0) hd x 1 (by omega)) (cwV 2 F.2.2.2.2 gX8_ends_X8_get rfl rfl rfl (by decide +kernel) ⟨Nat.le_of_ble_eq_true rfl, Nat.le_of_ble_eq_true rfl⟩) (z_preV hK hZ (64) (hd _ (by omega)) rfl (by decide) rfl _) rfl rfl hl.1 rfl (lv_room (Nat.le_of_ble_eq_true rfl)) dX8_ends_31 ⟨Nat.le_of_ble_eq_true rfl, Nat.le_of_ble_eq_true rfl⟩) (fun H locs hZ => ?_)
  have r_3 := hZ.2.1.1 (67) (20 * x + 1)
  refine z_iadd F dX8_ends_34 ?_
  refine z_icmp_ne (tgt := 104) F (by omega) (by omega) dX8_ends_35 (by decide) (fun c_35 => ?_) (fun c_35 => ?_)
  · skip
    have e : ringM G x k = setM G x (11 + k) 0 := by
      unfold ringM
      (repeat' split) <;> first | rfl | (exfalso; omega)
    rw [← e] at hZ
    refine z_aload_n F dX8_ends_104 rfl (lv_at hl 0 rfl) ?_
    refine z_iload_n F dX8_ends_105 rfl (lv_at hl 1 rfl) ?_
    refine z_bxv hZ (va_runV (As := [.int (zI (x))]) (rest := []) F (k_X8_rules l w dom A hDA sz (ringM G x k) hd hR.1 x (by omega) (by omega)) (cwV 1 F.2.2.2.2 gX8_ends_X8_rules rfl rfl rfl (by decide +kernel) ⟨Nat.le_of_ble_eq_true rfl, Nat.le_of_ble_eq_true rfl⟩) (z_preV hK hZ (64) (hd _ (by omega)) rfl (by decide) rfl _) rfl rfl hl.1 rfl (lv_room (Nat.le_of_ble_eq_true rfl)) dX8_ends_106 ⟨Nat.le_of_ble_eq_true rfl, Nat.le_of_ble_eq_true rfl⟩) (fun H locs hZ => ?_)
    exact z_vret F hr hlocks hZ rfl dX8_ends_109 (by omega) (by omega)
  · skip
    refine z_iload_n F dX8_ends_38 rfl (lv_at hl 2 rfl) ?_
    refine z_if_ne (tgt := 61) F (by omega) dX8_ends_39 (by decide) (fun c_39 => ?_) (fun c_39 => ?_)
    · skip
      refine z_iload_n F dX8_ends_61 rfl (lv_at hl 2 rfl) ?_
      refine z_iconst F dX8_ends_62 ?_
      refine z_icmp_ne (tgt := 86) F (by omega) (by omega) dX8_ends_63 (by decide) (fun c_63 => ?_) (fun c_63 => ?_)
      · skip
        refine z_iload_n F dX8_ends_86 rfl (lv_at hl 2 rfl) ?_
        refine z_iconst F dX8_ends_87 ?_
        refine z_icmp_ne (tgt := 104) F (by omega) (by omega) dX8_ends_88 (by decide) (fun c_88 => ?_) (fun c_88 => ?_)
        · skip
          have e : ringM G x k = setM G x (11 + k) 0 := by
            unfold ringM
            (repeat' split) <;> first | rfl | (exfalso; omega)
          rw [← e] at hZ
          refine z_aload_n F dX8_ends_104 rfl (lv_at hl 0 rfl) ?_
          refine z_iload_n F dX8_ends_105 rfl (lv_at hl 1 rfl) ?_
          refine z_bxv hZ (va_runV (As := [.int (zI (x))]) (rest := []) F (k_X8_rules l w dom A hDA sz (ringM G x k) hd hR.1 x (by omega) (by omega)) (cwV 1 F.2.2.2.2 gX8_ends_X8_rules rfl rfl rfl (by decide +kernel) ⟨Nat.le_of_ble_eq_true rfl, Nat.le_of_ble_eq_true rfl⟩) (z_preV hK hZ (64) (hd _ (by omega)) rfl (by decide) rfl _) rfl rfl hl.1 rfl (lv_room (Nat.le_of_ble_eq_true rfl)) dX8_ends_106 ⟨Nat.le_of_ble_eq_true rfl, Nat.le_of_ble_eq_true rfl⟩) (fun H locs hZ => ?_)
          exact z_vret F hr hlocks hZ rfl dX8_ends_109 (by omega) (by omega)
        · skip
          refine z_aload_n F dX8_ends_91 rfl (lv_at hl 0 rfl) ?_
          refine z_iload_n F dX8_ends_92 rfl (lv_at hl 1 rfl) ?_
          refine z_aload_n F dX8_ends_93 rfl (lv_at hl 0 rfl) ?_
          refine z_iload_n F dX8_ends_94 rfl (lv_at hl 1 rfl) ?_
          refine z_iconst F dX8_ends_95 ?_
          refine z_bxi hZ (va_runV (As := [.int (zI (x)), .int (zI (1))]) (rest := [.int (zI (x)), .ref (w.2.1 + (64))]) F (k_X8_get l w dom A hDA sz (setM G x (11 + k) 0) hd x 1 (by omega)) (cwV 2 F.2.2.2.2 gX8_ends_X8_get rfl rfl rfl (by decide +kernel) ⟨Nat.le_of_ble_eq_true rfl, Nat.le_of_ble_eq_true rfl⟩) (z_preV hK hZ (64) (hd _ (by omega)) rfl (by decide) rfl _) rfl rfl hl.1 rfl (lv_room (Nat.le_of_ble_eq_true rfl)) dX8_ends_96 ⟨Nat.le_of_ble_eq_true rfl, Nat.le_of_ble_eq_true rfl⟩) (fun H locs hZ => ?_)
          have r_4 := hZ.2.1.1 (67) (20 * x + 1)
          refine z_iconst F dX8_ends_99 ?_
          refine z_iadd F dX8_ends_100 ?_
          have n_5 : (setM G x (11 + k) 0) 64 0 = G 64 0 := rfl
          have n_6 : (setM G x (11 + k) 0) 64 7 = G 64 7 := rfl
          have n_7 : (setM G x (11 + k) 0) 67 (20 * x + 0) = G 67 (20 * x + 0) := by rw [setM_ne _ _ _ _ _ (by omega)]
          have n_8 : (setM G x (11 + k) 0) 67 (20 * x + 1) = G 67 (20 * x + 1) := by rw [setM_ne _ _ _ _ _ (by omega)]
          refine z_bxv hZ (va_runV (As := [.int (zI (x)), .int (zI ((setM G x (11 + k) 0) 67 (20 * x + 1) + 1))]) (rest := []) F (k_X8_starts l w dom A hDA sz (setM G x (11 + k) 0) hd (by omega) (by omega) x ((setM G x (11 + k) 0) 67 (20 * x + 1) + 1) (by omega) (by omega) (by omega)) (cwV 2 F.2.2.2.2 gX8_ends_X8_starts rfl rfl rfl (by decide +kernel) ⟨Nat.le_of_ble_eq_true rfl, Nat.le_of_ble_eq_true rfl⟩) (z_preV hK hZ (64) (hd _ (by omega)) rfl (by decide) rfl _) rfl rfl hl.1 rfl (lv_room (Nat.le_of_ble_eq_true rfl)) dX8_ends_101 ⟨Nat.le_of_ble_eq_true rfl, Nat.le_of_ble_eq_true rfl⟩) (fun H locs hZ => ?_)
          have e : ringM G x k = startsM (setM G x (11 + k) 0) x ((setM G x (11 + k) 0) 67 (20 * x + 1) + 1) := by
            unfold ringM
            (repeat' split) <;> first | rfl | (exfalso; omega)
          rw [← e] at hZ
          refine z_aload_n F dX8_ends_104 rfl (lv_at hl 0 rfl) ?_
          refine z_iload_n F dX8_ends_105 rfl (lv_at hl 1 rfl) ?_
          refine z_bxv hZ (va_runV (As := [.int (zI (x))]) (rest := []) F (k_X8_rules l w dom A hDA sz (ringM G x k) hd hR.1 x (by omega) (by omega)) (cwV 1 F.2.2.2.2 gX8_ends_X8_rules rfl rfl rfl (by decide +kernel) ⟨Nat.le_of_ble_eq_true rfl, Nat.le_of_ble_eq_true rfl⟩) (z_preV hK hZ (64) (hd _ (by omega)) rfl (by decide) rfl _) rfl rfl hl.1 rfl (lv_room (Nat.le_of_ble_eq_true rfl)) dX8_ends_106 ⟨Nat.le_of_ble_eq_true rfl, Nat.le_of_ble_eq_true rfl⟩) (fun H locs hZ => ?_)
          exact z_vret F hr hlocks hZ rfl dX8_ends_109 (by omega) (by omega)
      · skip
        refine z_aload_n F dX8_ends_66 rfl (lv_at hl 0 rfl) ?_
        refine z_iload_n F dX8_ends_67 rfl (lv_at hl 1 rfl) ?_
        refine z_iconst F dX8_ends_68 ?_
        refine z_bxi hZ (va_runV (As := [.int (zI (x)), .int (zI (2))]) (rest := []) F (k_X8_get l w dom A hDA sz (setM G x (11 + k) 0) hd x 2 (by omega)) (cwV 2 F.2.2.2.2 gX8_ends_X8_get rfl rfl rfl (by decide +kernel) ⟨Nat.le_of_ble_eq_true rfl, Nat.le_of_ble_eq_true rfl⟩) (z_preV hK hZ (64) (hd _ (by omega)) rfl (by decide) rfl _) rfl rfl hl.1 rfl (lv_room (Nat.le_of_ble_eq_true rfl)) dX8_ends_69 ⟨Nat.le_of_ble_eq_true rfl, Nat.le_of_ble_eq_true rfl⟩) (fun H locs hZ => ?_)
        have r_9 := hZ.2.1.1 (67) (20 * x + 2)
        refine z_iconst F dX8_ends_72 ?_
        refine z_icmp_ne (tgt := 86) F (by omega) (by omega) dX8_ends_73 (by decide) (fun c_73 => ?_) (fun c_73 => ?_)
        · skip
          refine z_iload_n F dX8_ends_86 rfl (lv_at hl 2 rfl) ?_
          refine z_iconst F dX8_ends_87 ?_
          refine z_icmp_ne (tgt := 104) F (by omega) (by omega) dX8_ends_88 (by decide) (fun c_88 => ?_) (fun c_88 => ?_)
          · skip
            have e : ringM G x k = setM G x (11 + k) 0 := by
              unfold ringM
              (repeat' split) <;> first | rfl | (exfalso; omega)
            rw [← e] at hZ
            refine z_aload_n F dX8_ends_104 rfl (lv_at hl 0 rfl) ?_
            refine z_iload_n F dX8_ends_105 rfl (lv_at hl 1 rfl) ?_
            refine z_bxv hZ (va_runV (As := [.int (zI (x))]) (rest := []) F (k_X8_rules l w dom A hDA sz (ringM G x k) hd hR.1 x (by omega) (by omega)) (cwV 1 F.2.2.2.2 gX8_ends_X8_rules rfl rfl rfl (by decide +kernel) ⟨Nat.le_of_ble_eq_true rfl, Nat.le_of_ble_eq_true rfl⟩) (z_preV hK hZ (64) (hd _ (by omega)) rfl (by decide) rfl _) rfl rfl hl.1 rfl (lv_room (Nat.le_of_ble_eq_true rfl)) dX8_ends_106 ⟨Nat.le_of_ble_eq_true rfl, Nat.le_of_ble_eq_true rfl⟩) (fun H locs hZ => ?_)
            exact z_vret F hr hlocks hZ rfl dX8_ends_109 (by omega) (by omega)
          · skip
            refine z_aload_n F dX8_ends_91 rfl (lv_at hl 0 rfl) ?_
            refine z_iload_n F dX8_ends_92 rfl (lv_at hl 1 rfl) ?_
            refine z_aload_n F dX8_ends_93 rfl (lv_at hl 0 rfl) ?_
            refine z_iload_n F dX8_ends_94 rfl (lv_at hl 1 rfl) ?_
            refine z_iconst F dX8_ends_95 ?_
            refine z_bxi hZ (va_runV (As := [.int (zI (x)), .int (zI (1))]) (rest := [.int (zI (x)), .ref (w.2.1 + (64))]) F (k_X8_get l w dom A hDA sz (setM G x (11 + k) 0) hd x 1 (by omega)) (cwV 2 F.2.2.2.2 gX8_ends_X8_get rfl rfl rfl (by decide +kernel) ⟨Nat.le_of_ble_eq_true rfl, Nat.le_of_ble_eq_true rfl⟩) (z_preV hK hZ (64) (hd _ (by omega)) rfl (by decide) rfl _) rfl rfl hl.1 rfl (lv_room (Nat.le_of_ble_eq_true rfl)) dX8_ends_96 ⟨Nat.le_of_ble_eq_true rfl, Nat.le_of_ble_eq_true rfl⟩) (fun H locs hZ => ?_)
            have r_10 := hZ.2.1.1 (67) (20 * x + 1)
            refine z_iconst F dX8_ends_99 ?_
            refine z_iadd F dX8_ends_100 ?_
            have n_11 : (setM G x (11 + k) 0) 64 0 = G 64 0 := rfl
            have n_12 : (setM G x (11 + k) 0) 64 7 = G 64 7 := rfl
            have n_13 : (setM G x (11 + k) 0) 67 (20 * x + 0) = G 67 (20 * x + 0) := by rw [setM_ne _ _ _ _ _ (by omega)]
            have n_14 : (setM G x (11 + k) 0) 67 (20 * x + 1) = G 67 (20 * x + 1) := by rw [setM_ne _ _ _ _ _ (by omega)]
            refine z_bxv hZ (va_runV (As := [.int (zI (x)), .int (zI ((setM G x (11 + k) 0) 67 (20 * x + 1) + 1))]) (rest := []) F (k_X8_starts l w dom A hDA sz (setM G x (11 + k) 0) hd (by omega) (by omega) x ((setM G x (11 + k) 0) 67 (20 * x + 1) + 1) (by omega) (by omega) (by omega)) (cwV 2 F.2.2.2.2 gX8_ends_X8_starts rfl rfl rfl (by decide +kernel) ⟨Nat.le_of_ble_eq_true rfl, Nat.le_of_ble_eq_true rfl⟩) (z_preV hK hZ (64) (hd _ (by omega)) rfl (by decide) rfl _) rfl rfl hl.1 rfl (lv_room (Nat.le_of_ble_eq_true rfl)) dX8_ends_101 ⟨Nat.le_of_ble_eq_true rfl, Nat.le_of_ble_eq_true rfl⟩) (fun H locs hZ => ?_)
            have e : ringM G x k = startsM (setM G x (11 + k) 0) x ((setM G x (11 + k) 0) 67 (20 * x + 1) + 1) := by
              unfold ringM
              (repeat' split) <;> first | rfl | (exfalso; omega)
            rw [← e] at hZ
            refine z_aload_n F dX8_ends_104 rfl (lv_at hl 0 rfl) ?_
            refine z_iload_n F dX8_ends_105 rfl (lv_at hl 1 rfl) ?_
            refine z_bxv hZ (va_runV (As := [.int (zI (x))]) (rest := []) F (k_X8_rules l w dom A hDA sz (ringM G x k) hd hR.1 x (by omega) (by omega)) (cwV 1 F.2.2.2.2 gX8_ends_X8_rules rfl rfl rfl (by decide +kernel) ⟨Nat.le_of_ble_eq_true rfl, Nat.le_of_ble_eq_true rfl⟩) (z_preV hK hZ (64) (hd _ (by omega)) rfl (by decide) rfl _) rfl rfl hl.1 rfl (lv_room (Nat.le_of_ble_eq_true rfl)) dX8_ends_106 ⟨Nat.le_of_ble_eq_true rfl, Nat.le_of_ble_eq_true rfl⟩) (fun H locs hZ => ?_)
            exact z_vret F hr hlocks hZ rfl dX8_ends_109 (by omega) (by omega)
        · skip
          refine z_aload_n F dX8_ends_76 rfl (lv_at hl 0 rfl) ?_
          refine z_iload_n F dX8_ends_77 rfl (lv_at hl 1 rfl) ?_
          refine z_iconst F dX8_ends_78 ?_
          refine z_iconst F dX8_ends_79 ?_
          have n_15 : (setM G x (11 + k) 0) 64 0 = G 64 0 := rfl
          have n_16 : (setM G x (11 + k) 0) 64 7 = G 64 7 := rfl
          have n_17 : (setM G x (11 + k) 0) 67 (20 * x + 0) = G 67 (20 * x + 0) := by rw [setM_ne _ _ _ _ _ (by omega)]
          have n_18 : (setM G x (11 + k) 0) 67 (20 * x + 1) = G 67 (20 * x + 1) := by rw [setM_ne _ _ _ _ _ (by omega)]
          refine z_bxv hZ (va_runV (As := [.int (zI (x)), .int (zI (2)), .int (zI (-1))]) (rest := []) F (k_X8_casts l w dom A hDA sz (setM G x (11 + k) 0) hd x 2 (-1) (by omega) (by omega) (by omega) (by omega)) (cwV 3 F.2.2.2.2 gX8_ends_X8_casts rfl rfl rfl (by decide +kernel) ⟨Nat.le_of_ble_eq_true rfl, Nat.le_of_ble_eq_true rfl⟩) (z_preV hK hZ (64) (hd _ (by omega)) rfl (by decide) rfl _) rfl rfl hl.1 rfl (lv_room (Nat.le_of_ble_eq_true rfl)) dX8_ends_80 ⟨Nat.le_of_ble_eq_true rfl, Nat.le_of_ble_eq_true rfl⟩) (fun H locs hZ => ?_)
          refine lv_goto (tgt := 104) F.1 F.2.1 dX8_ends_83 (by decide) ?_
          have e : ringM G x k = castsM (setM G x (11 + k) 0) x 2 (-1) := by
            unfold ringM
            (repeat' split) <;> first | rfl | (exfalso; omega)
          rw [← e] at hZ
          refine z_aload_n F dX8_ends_104 rfl (lv_at hl 0 rfl) ?_
          refine z_iload_n F dX8_ends_105 rfl (lv_at hl 1 rfl) ?_
          refine z_bxv hZ (va_runV (As := [.int (zI (x))]) (rest := []) F (k_X8_rules l w dom A hDA sz (ringM G x k) hd hR.1 x (by omega) (by omega)) (cwV 1 F.2.2.2.2 gX8_ends_X8_rules rfl rfl rfl (by decide +kernel) ⟨Nat.le_of_ble_eq_true rfl, Nat.le_of_ble_eq_true rfl⟩) (z_preV hK hZ (64) (hd _ (by omega)) rfl (by decide) rfl _) rfl rfl hl.1 rfl (lv_room (Nat.le_of_ble_eq_true rfl)) dX8_ends_106 ⟨Nat.le_of_ble_eq_true rfl, Nat.le_of_ble_eq_true rfl⟩) (fun H locs hZ => ?_)
          exact z_vret F hr hlocks hZ rfl dX8_ends_109 (by omega) (by omega)
    · skip
      refine z_aload_n F dX8_ends_42 rfl (lv_at hl 0 rfl) ?_
      refine z_iload_n F dX8_ends_43 rfl (lv_at hl 1 rfl) ?_
      refine z_iconst F dX8_ends_44 ?_
      refine z_bxi hZ (va_runV (As := [.int (zI (x)), .int (zI (2))]) (rest := []) F (k_X8_get l w dom A hDA sz (setM G x (11 + k) 0) hd x 2 (by omega)) (cwV 2 F.2.2.2.2 gX8_ends_X8_get rfl rfl rfl (by decide +kernel) ⟨Nat.le_of_ble_eq_true rfl, Nat.le_of_ble_eq_true rfl⟩) (z_preV hK hZ (64) (hd _ (by omega)) rfl (by decide) rfl _) rfl rfl hl.1 rfl (lv_room (Nat.le_of_ble_eq_true rfl)) dX8_ends_45 ⟨Nat.le_of_ble_eq_true rfl, Nat.le_of_ble_eq_true rfl⟩) (fun H locs hZ => ?_)
      have r_19 := hZ.2.1.1 (67) (20 * x + 2)
      refine z_if_ne (tgt := 61) F (by omega) dX8_ends_48 (by decide) (fun c_48 => ?_) (fun c_48 => ?_)
      · skip
        refine z_iload_n F dX8_ends_61 rfl (lv_at hl 2 rfl) ?_
        refine z_iconst F dX8_ends_62 ?_
        refine z_icmp_ne (tgt := 86) F (by omega) (by omega) dX8_ends_63 (by decide) (fun c_63 => ?_) (fun c_63 => ?_)
        · skip
          refine z_iload_n F dX8_ends_86 rfl (lv_at hl 2 rfl) ?_
          refine z_iconst F dX8_ends_87 ?_
          refine z_icmp_ne (tgt := 104) F (by omega) (by omega) dX8_ends_88 (by decide) (fun c_88 => ?_) (fun c_88 => ?_)
          · skip
            have e : ringM G x k = setM G x (11 + k) 0 := by
              unfold ringM
              (repeat' split) <;> first | rfl | (exfalso; omega)
            rw [← e] at hZ
            refine z_aload_n F dX8_ends_104 rfl (lv_at hl 0 rfl) ?_
            refine z_iload_n F dX8_ends_105 rfl (lv_at hl 1 rfl) ?_
            refine z_bxv hZ (va_runV (As := [.int (zI (x))]) (rest := []) F (k_X8_rules l w dom A hDA sz (ringM G x k) hd hR.1 x (by omega) (by omega)) (cwV 1 F.2.2.2.2 gX8_ends_X8_rules rfl rfl rfl (by decide +kernel) ⟨Nat.le_of_ble_eq_true rfl, Nat.le_of_ble_eq_true rfl⟩) (z_preV hK hZ (64) (hd _ (by omega)) rfl (by decide) rfl _) rfl rfl hl.1 rfl (lv_room (Nat.le_of_ble_eq_true rfl)) dX8_ends_106 ⟨Nat.le_of_ble_eq_true rfl, Nat.le_of_ble_eq_true rfl⟩) (fun H locs hZ => ?_)
            exact z_vret F hr hlocks hZ rfl dX8_ends_109 (by omega) (by omega)
          · skip
            refine z_aload_n F dX8_ends_91 rfl (lv_at hl 0 rfl) ?_
            refine z_iload_n F dX8_ends_92 rfl (lv_at hl 1 rfl) ?_
            refine z_aload_n F dX8_ends_93 rfl (lv_at hl 0 rfl) ?_
            refine z_iload_n F dX8_ends_94 rfl (lv_at hl 1 rfl) ?_
            refine z_iconst F dX8_ends_95 ?_
            refine z_bxi hZ (va_runV (As := [.int (zI (x)), .int (zI (1))]) (rest := [.int (zI (x)), .ref (w.2.1 + (64))]) F (k_X8_get l w dom A hDA sz (setM G x (11 + k) 0) hd x 1 (by omega)) (cwV 2 F.2.2.2.2 gX8_ends_X8_get rfl rfl rfl (by decide +kernel) ⟨Nat.le_of_ble_eq_true rfl, Nat.le_of_ble_eq_true rfl⟩) (z_preV hK hZ (64) (hd _ (by omega)) rfl (by decide) rfl _) rfl rfl hl.1 rfl (lv_room (Nat.le_of_ble_eq_true rfl)) dX8_ends_96 ⟨Nat.le_of_ble_eq_true rfl, Nat.le_of_ble_eq_true rfl⟩) (fun H locs hZ => ?_)
            have r_20 := hZ.2.1.1 (67) (20 * x + 1)
            refine z_iconst F dX8_ends_99 ?_
            refine z_iadd F dX8_ends_100 ?_
            have n_21 : (setM G x (11 + k) 0) 64 0 = G 64 0 := rfl
            have n_22 : (setM G x (11 + k) 0) 64 7 = G 64 7 := rfl
            have n_23 : (setM G x (11 + k) 0) 67 (20 * x + 0) = G 67 (20 * x + 0) := by rw [setM_ne _ _ _ _ _ (by omega)]
            have n_24 : (setM G x (11 + k) 0) 67 (20 * x + 1) = G 67 (20 * x + 1) := by rw [setM_ne _ _ _ _ _ (by omega)]
            refine z_bxv hZ (va_runV (As := [.int (zI (x)), .int (zI ((setM G x (11 + k) 0) 67 (20 * x + 1) + 1))]) (rest := []) F (k_X8_starts l w dom A hDA sz (setM G x (11 + k) 0) hd (by omega) (by omega) x ((setM G x (11 + k) 0) 67 (20 * x + 1) + 1) (by omega) (by omega) (by omega)) (cwV 2 F.2.2.2.2 gX8_ends_X8_starts rfl rfl rfl (by decide +kernel) ⟨Nat.le_of_ble_eq_true rfl, Nat.le_of_ble_eq_true rfl⟩) (z_preV hK hZ (64) (hd _ (by omega)) rfl (by decide) rfl _) rfl rfl hl.1 rfl (lv_room (Nat.le_of_ble_eq_true rfl)) dX8_ends_101 ⟨Nat.le_of_ble_eq_true rfl, Nat.le_of_ble_eq_true rfl⟩) (fun H locs hZ => ?_)
            have e : ringM G x k = startsM (setM G x (11 + k) 0) x ((setM G x (11 + k) 0) 67 (20 * x + 1) + 1) := by
              unfold ringM
              (repeat' split) <;> first | rfl | (exfalso; omega)
            rw [← e] at hZ
            refine z_aload_n F dX8_ends_104 rfl (lv_at hl 0 rfl) ?_
            refine z_iload_n F dX8_ends_105 rfl (lv_at hl 1 rfl) ?_
            refine z_bxv hZ (va_runV (As := [.int (zI (x))]) (rest := []) F (k_X8_rules l w dom A hDA sz (ringM G x k) hd hR.1 x (by omega) (by omega)) (cwV 1 F.2.2.2.2 gX8_ends_X8_rules rfl rfl rfl (by decide +kernel) ⟨Nat.le_of_ble_eq_true rfl, Nat.le_of_ble_eq_true rfl⟩) (z_preV hK hZ (64) (hd _ (by omega)) rfl (by decide) rfl _) rfl rfl hl.1 rfl (lv_room (Nat.le_of_ble_eq_true rfl)) dX8_ends_106 ⟨Nat.le_of_ble_eq_true rfl, Nat.le_of_ble_eq_true rfl⟩) (fun H locs hZ => ?_)
            exact z_vret F hr hlocks hZ rfl dX8_ends_109 (by omega) (by omega)
        · skip
          refine z_aload_n F dX8_ends_66 rfl (lv_at hl 0 rfl) ?_
          refine z_iload_n F dX8_ends_67 rfl (lv_at hl 1 rfl) ?_
          refine z_iconst F dX8_ends_68 ?_
          refine z_bxi hZ (va_runV (As := [.int (zI (x)), .int (zI (2))]) (rest := []) F (k_X8_get l w dom A hDA sz (setM G x (11 + k) 0) hd x 2 (by omega)) (cwV 2 F.2.2.2.2 gX8_ends_X8_get rfl rfl rfl (by decide +kernel) ⟨Nat.le_of_ble_eq_true rfl, Nat.le_of_ble_eq_true rfl⟩) (z_preV hK hZ (64) (hd _ (by omega)) rfl (by decide) rfl _) rfl rfl hl.1 rfl (lv_room (Nat.le_of_ble_eq_true rfl)) dX8_ends_69 ⟨Nat.le_of_ble_eq_true rfl, Nat.le_of_ble_eq_true rfl⟩) (fun H locs hZ => ?_)
          have r_25 := hZ.2.1.1 (67) (20 * x + 2)
          refine z_iconst F dX8_ends_72 ?_
          refine z_icmp_ne (tgt := 86) F (by omega) (by omega) dX8_ends_73 (by decide) (fun c_73 => ?_) (fun c_73 => ?_)
          · skip
            refine z_iload_n F dX8_ends_86 rfl (lv_at hl 2 rfl) ?_
            refine z_iconst F dX8_ends_87 ?_
            refine z_icmp_ne (tgt := 104) F (by omega) (by omega) dX8_ends_88 (by decide) (fun c_88 => ?_) (fun c_88 => ?_)
            · skip
              have e : ringM G x k = setM G x (11 + k) 0 := by
                unfold ringM
                (repeat' split) <;> first | rfl | (exfalso; omega)
              rw [← e] at hZ
              refine z_aload_n F dX8_ends_104 rfl (lv_at hl 0 rfl) ?_
              refine z_iload_n F dX8_ends_105 rfl (lv_at hl 1 rfl) ?_
              refine z_bxv hZ (va_runV (As := [.int (zI (x))]) (rest := []) F (k_X8_rules l w dom A hDA sz (ringM G x k) hd hR.1 x (by omega) (by omega)) (cwV 1 F.2.2.2.2 gX8_ends_X8_rules rfl rfl rfl (by decide +kernel) ⟨Nat.le_of_ble_eq_true rfl, Nat.le_of_ble_eq_true rfl⟩) (z_preV hK hZ (64) (hd _ (by omega)) rfl (by decide) rfl _) rfl rfl hl.1 rfl (lv_room (Nat.le_of_ble_eq_true rfl)) dX8_ends_106 ⟨Nat.le_of_ble_eq_true rfl, Nat.le_of_ble_eq_true rfl⟩) (fun H locs hZ => ?_)
              exact z_vret F hr hlocks hZ rfl dX8_ends_109 (by omega) (by omega)
            · skip
              refine z_aload_n F dX8_ends_91 rfl (lv_at hl 0 rfl) ?_
              refine z_iload_n F dX8_ends_92 rfl (lv_at hl 1 rfl) ?_
              refine z_aload_n F dX8_ends_93 rfl (lv_at hl 0 rfl) ?_
              refine z_iload_n F dX8_ends_94 rfl (lv_at hl 1 rfl) ?_
              refine z_iconst F dX8_ends_95 ?_
              refine z_bxi hZ (va_runV (As := [.int (zI (x)), .int (zI (1))]) (rest := [.int (zI (x)), .ref (w.2.1 + (64))]) F (k_X8_get l w dom A hDA sz (setM G x (11 + k) 0) hd x 1 (by omega)) (cwV 2 F.2.2.2.2 gX8_ends_X8_get rfl rfl rfl (by decide +kernel) ⟨Nat.le_of_ble_eq_true rfl, Nat.le_of_ble_eq_true rfl⟩) (z_preV hK hZ (64) (hd _ (by omega)) rfl (by decide) rfl _) rfl rfl hl.1 rfl (lv_room (Nat.le_of_ble_eq_true rfl)) dX8_ends_96 ⟨Nat.le_of_ble_eq_true rfl, Nat.le_of_ble_eq_true rfl⟩) (fun H locs hZ => ?_)
              have r_26 := hZ.2.1.1 (67) (20 * x + 1)
              refine z_iconst F dX8_ends_99 ?_
              refine z_iadd F dX8_ends_100 ?_
              have n_27 : (setM G x (11 + k) 0) 64 0 = G 64 0 := rfl
              have n_28 : (setM G x (11 + k) 0) 64 7 = G 64 7 := rfl
              have n_29 : (setM G x (11 + k) 0) 67 (20 * x + 0) = G 67 (20 * x + 0) := by rw [setM_ne _ _ _ _ _ (by omega)]
              have n_30 : (setM G x (11 + k) 0) 67 (20 * x + 1) = G 67 (20 * x + 1) := by rw [setM_ne _ _ _ _ _ (by omega)]
              refine z_bxv hZ (va_runV (As := [.int (zI (x)), .int (zI ((setM G x (11 + k) 0) 67 (20 * x + 1) + 1))]) (rest := []) F (k_X8_starts l w dom A hDA sz (setM G x (11 + k) 0) hd (by omega) (by omega) x ((setM G x (11 + k) 0) 67 (20 * x + 1) + 1) (by omega) (by omega) (by omega)) (cwV 2 F.2.2.2.2 gX8_ends_X8_starts rfl rfl rfl (by decide +kernel) ⟨Nat.le_of_ble_eq_true rfl, Nat.le_of_ble_eq_true rfl⟩) (z_preV hK hZ (64) (hd _ (by omega)) rfl (by decide) rfl _) rfl rfl hl.1 rfl (lv_room (Nat.le_of_ble_eq_true rfl)) dX8_ends_101 ⟨Nat.le_of_ble_eq_true rfl, Nat.le_of_ble_eq_true rfl⟩) (fun H locs hZ => ?_)
              have e : ringM G x k = startsM (setM G x (11 + k) 0) x ((setM G x (11 + k) 0) 67 (20 * x + 1) + 1) := by
                unfold ringM
                (repeat' split) <;> first | rfl | (exfalso; omega)
              rw [← e] at hZ
              refine z_aload_n F dX8_ends_104 rfl (lv_at hl 0 rfl) ?_
              refine z_iload_n F dX8_ends_105 rfl (lv_at hl 1 rfl) ?_
              refine z_bxv hZ (va_runV (As := [.int (zI (x))]) (rest := []) F (k_X8_rules l w dom A hDA sz (ringM G x k) hd hR.1 x (by omega) (by omega)) (cwV 1 F.2.2.2.2 gX8_ends_X8_rules rfl rfl rfl (by decide +kernel) ⟨Nat.le_of_ble_eq_true rfl, Nat.le_of_ble_eq_true rfl⟩) (z_preV hK hZ (64) (hd _ (by omega)) rfl (by decide) rfl _) rfl rfl hl.1 rfl (lv_room (Nat.le_of_ble_eq_true rfl)) dX8_ends_106 ⟨Nat.le_of_ble_eq_true rfl, Nat.le_of_ble_eq_true rfl⟩) (fun H locs hZ => ?_)
              exact z_vret F hr hlocks hZ rfl dX8_ends_109 (by omega) (by omega)
          · skip
            refine z_aload_n F dX8_ends_76 rfl (lv_at hl 0 rfl) ?_
            refine z_iload_n F dX8_ends_77 rfl (lv_at hl 1 rfl) ?_
            refine z_iconst F dX8_ends_78 ?_
            refine z_iconst F dX8_ends_79 ?_
            have n_31 : (setM G x (11 + k) 0) 64 0 = G 64 0 := rfl
            have n_32 : (setM G x (11 + k) 0) 64 7 = G 64 7 := rfl
            have n_33 : (setM G x (11 + k) 0) 67 (20 * x + 0) = G 67 (20 * x + 0) := by rw [setM_ne _ _ _ _ _ (by omega)]
            have n_34 : (setM G x (11 + k) 0) 67 (20 * x + 1) = G 67 (20 * x + 1) := by rw [setM_ne _ _ _ _ _ (by omega)]
            refine z_bxv hZ (va_runV (As := [.int (zI (x)), .int (zI (2)), .int (zI (-1))]) (rest := []) F (k_X8_casts l w dom A hDA sz (setM G x (11 + k) 0) hd x 2 (-1) (by omega) (by omega) (by omega) (by omega)) (cwV 3 F.2.2.2.2 gX8_ends_X8_casts rfl rfl rfl (by decide +kernel) ⟨Nat.le_of_ble_eq_true rfl, Nat.le_of_ble_eq_true rfl⟩) (z_preV hK hZ (64) (hd _ (by omega)) rfl (by decide) rfl _) rfl rfl hl.1 rfl (lv_room (Nat.le_of_ble_eq_true rfl)) dX8_ends_80 ⟨Nat.le_of_ble_eq_true rfl, Nat.le_of_ble_eq_true rfl⟩) (fun H locs hZ => ?_)
            refine lv_goto (tgt := 104) F.1 F.2.1 dX8_ends_83 (by decide) ?_
            have e : ringM G x k = castsM (setM G x (11 + k) 0) x 2 (-1) := by
              unfold ringM
              (repeat' split) <;> first | rfl | (exfalso; omega)
            rw [← e] at hZ
            refine z_aload_n F dX8_ends_104 rfl (lv_at hl 0 rfl) ?_
            refine z_iload_n F dX8_ends_105 rfl (lv_at hl 1 rfl) ?_
            refine z_bxv hZ (va_runV (As := [.int (zI (x))]) (rest := []) F (k_X8_rules l w dom A hDA sz (ringM G x k) hd hR.1 x (by omega) (by omega)) (cwV 1 F.2.2.2.2 gX8_ends_X8_rules rfl rfl rfl (by decide +kernel) ⟨Nat.le_of_ble_eq_true rfl, Nat.le_of_ble_eq_true rfl⟩) (z_preV hK hZ (64) (hd _ (by omega)) rfl (by decide) rfl _) rfl rfl hl.1 rfl (lv_room (Nat.le_of_ble_eq_true rfl)) dX8_ends_106 ⟨Nat.le_of_ble_eq_true rfl, Nat.le_of_ble_eq_true rfl⟩) (fun H locs hZ => ?_)
            exact z_vret F hr hlocks hZ rfl dX8_ends_109 (by omega) (by omega)
      · skip
        refine z_aload_n F dX8_ends_51 rfl (lv_at hl 0 rfl) ?_
        refine z_iload_n F dX8_ends_52 rfl (lv_at hl 1 rfl) ?_
        refine z_iconst F dX8_ends_53 ?_
        refine z_iconst F dX8_ends_54 ?_
        have n_35 : (setM G x (11 + k) 0) 64 0 = G 64 0 := rfl
        have n_36 : (setM G x (11 + k) 0) 64 7 = G 64 7 := rfl
        have n_37 : (setM G x (11 + k) 0) 67 (20 * x + 0) = G 67 (20 * x + 0) := by rw [setM_ne _ _ _ _ _ (by omega)]
        have n_38 : (setM G x (11 + k) 0) 67 (20 * x + 1) = G 67 (20 * x + 1) := by rw [setM_ne _ _ _ _ _ (by omega)]
        refine z_bxv hZ (va_runV (As := [.int (zI (x)), .int (zI (1)), .int (zI (-1))]) (rest := []) F (k_X8_casts l w dom A hDA sz (setM G x (11 + k) 0) hd x 1 (-1) (by omega) (by omega) (by omega) (by omega)) (cwV 3 F.2.2.2.2 gX8_ends_X8_casts rfl rfl rfl (by decide +kernel) ⟨Nat.le_of_ble_eq_true rfl, Nat.le_of_ble_eq_true rfl⟩) (z_preV hK hZ (64) (hd _ (by omega)) rfl (by decide) rfl _) rfl rfl hl.1 rfl (lv_room (Nat.le_of_ble_eq_true rfl)) dX8_ends_55 ⟨Nat.le_of_ble_eq_true rfl, Nat.le_of_ble_eq_true rfl⟩) (fun H locs hZ => ?_)
        refine lv_goto (tgt := 104) F.1 F.2.1 dX8_ends_58 (by decide) ?_
        have e : ringM G x k = castsM (setM G x (11 + k) 0) x 1 (-1) := by
          unfold ringM
          (repeat' split) <;> first | rfl | (exfalso; omega)
        rw [← e] at hZ
        refine z_aload_n F dX8_ends_104 rfl (lv_at hl 0 rfl) ?_
        refine z_iload_n F dX8_ends_105 rfl (lv_at hl 1 rfl) ?_
        refine z_bxv hZ (va_runV (As := [.int (zI (x))]) (rest := []) F (k_X8_rules l w dom A hDA sz (ringM G x k) hd hR.1 x (by omega) (by omega)) (cwV 1 F.2.2.2.2 gX8_ends_X8_rules rfl rfl rfl (by decide +kernel) ⟨Nat.le_of_ble_eq_true rfl, Nat.le_of_ble_eq_true rfl⟩) (z_preV hK hZ (64) (hd _ (by omega)) rfl (by decide) rfl _) rfl rfl hl.1 rfl (lv_room (Nat.le_of_ble_eq_true rfl)) dX8_ends_106 ⟨Nat.le_of_ble_eq_true rfl, Nat.le_of_ble_eq_true rfl⟩) (fun H locs hZ => ?_)
        exact z_vret F hr hlocks hZ rfl dX8_ends_109 (by omega) (by omega)
