set_option maxHeartbeats 4000000 in
set_option maxRecDepth 100000 in
theorem k_X7_hold (l : Launch) (w : zW) (dom : Nat → Prop) (A : Nat → Prop) (hDA : ∀ i, dom i → A (w.2.1 + i)) (sz : Nat) (G : zM) (X : zM) (mm : Nat) (hd : ∀ i, i < 64 → dom i) (hdl : ∀ i, 71 ≤ i ∧ i < 71 + mm → dom i) (hM : Sim G X mm) (hI : Inv X) (x v : Int) (hx : -2147483648 ≤ x ∧ x < 2147483648) (hv : -2147483648 ≤ v ∧ v < 2147483648) : Met l yX7_hold wsX7_hold { frames := 2, cells := 0, slots := 0, locals := 41 } (zPre w dom sz G [.ref (w.2.1 + (0)), .int (zI (x)), .int (zI (v))]) (zQi w dom sz (rHold X x v) (fun C => Sim C (mHold X x v) mm) A) (0) (0) A := by
  refine Met.ofW (cc := cX7_hold) (maxL := 4) (ret := (some .int)) (by decide) rfl ?_
  intro p e s m args below meth c s₁ B hml hv
  obtain ⟨rfl, hsz, hP, hK⟩ := hv
  have F : CallFix p m c cX7_hold 4 s _ wsX7_hold RX7 := ⟨B.exec, B.bytes, hml, findClass_of_methodNamed B.named, atoms_spec (ws := wsX7_hold) B.pre⟩
  have hr := B.returns
  have hlocks := B.notSynchronized
  have hZ : Zs w dom A s.heap sz G s.heap [] := ⟨hsz, hP, va_S.rf⟩
  have hl := lv_entry ([.ref (w.2.1 + (0)), .int (zI (x)), .int (zI (v))]) (n := 4) (Nat.le_of_ble_eq_true rfl)
  rw [lg_entry_eq]
  generalize (lg_sl ([.ref (w.2.1 + (0)), .int (zI (x)), .int (zI (v))]) ++ List.replicate (4 - (lg_sl ([.ref (w.2.1 + (0)), .int (zI (x)), .int (zI (v))])).length) Slot.unset).toArray = ls at hl ⊢
  have hl : lv_has ls 4 [(0, .ref (w.2.1 + (0))), (1, .int (zI (x))), (2, .int (zI (v)))] := hl
  have hn := hI.1
  have hLL := hI.2.2.2.1
  have hS : PostS G X mm := hM.1
  obtain ⟨hS1, hS2, hS3, hS4, hS5⟩ := hM.1
  have hC0 := hM.2.1
  refine z_aload_n F dX7_hold_0 rfl (lv_at hl 0 rfl) ?_
  refine z_iload_n F dX7_hold_1 rfl (lv_at hl 1 rfl) ?_
  refine z_bxr hZ (va_runV (As := [.int (zI (x))]) (rest := []) F (k_X7_seated l w dom A hDA sz G X mm hd hdl hM hI x (by omega)) (cwV 1 F.2.2.2.2 gX7_hold_X7_seated rfl rfl rfl (by decide +kernel) ⟨Nat.le_of_ble_eq_true rfl, Nat.le_of_ble_eq_true rfl⟩) (z_preV hK hZ (0) (hd _ (by omega)) rfl (by decide) rfl _) rfl rfl hl.1 rfl (lv_room (Nat.le_of_ble_eq_true rfl)) dX7_hold_2 ⟨Nat.le_of_ble_eq_true rfl, Nat.le_of_ble_eq_true rfl⟩) (fun H locs hZ => ?_)
  refine z_vstore_n (lv' := [(3, zV w (stV X x)), (0, .ref (w.2.1 + (0))), (1, .int (zI (x))), (2, .int (zI (v)))]) F dX7_hold_5 rfl hl (by decide) (by unfold zV; (repeat' split) <;> rfl) (fun ls hl => ?_)
  refine z_vload_n (w := w) F dX7_hold_6 rfl (lv_at hl 0 rfl) ?_
  refine z_ifnull (tgt := 20) F dX7_hold_7 (by decide) (fun c_7 => ?_) (fun c_7 => ?_)
  · skip
    have hng := stV_neg c_7
    have hbad : ¬ ((0 ≤ x ∧ x ≤ X 64 0 - 1) ∧ 1 ≤ v ∧ v ≤ 99) := by omega
    refine z_iconst F dX7_hold_20 ?_
    exact z_iret F hr hlocks hZ (by rw [rHold, if_pos hbad]) (by rw [mHold, if_pos hbad]; exact hM) dX7_hold_21 (by omega) (by omega)
  · skip
    obtain ⟨j, rfl, hj0, hj, hz⟩ := stV_pos hn (by assumption)
    rw [hz, zV_nat] at hl
    refine z_iload_n F dX7_hold_10 rfl (lv_at hl 3 rfl) ?_
    refine z_if_le (tgt := 20) F (by omega) dX7_hold_11 (by decide) (fun c_11 => ?_) (fun c_11 => ?_)
    · skip
      have hbad : ¬ ((0 ≤ (j : Int) ∧ (j : Int) ≤ X 64 0 - 1) ∧ 1 ≤ v ∧ v ≤ 99) := by omega
      refine z_iconst F dX7_hold_20 ?_
      exact z_iret F hr hlocks hZ (by rw [rHold, if_pos hbad]) (by rw [mHold, if_pos hbad]; exact hM) dX7_hold_21 (by omega) (by omega)
    · skip
      refine z_iload_n F dX7_hold_14 rfl (lv_at hl 3 rfl) ?_
      refine z_bipush F (by decide) dX7_hold_15 ?_
      refine z_icmp_lt (tgt := 22) F (by omega) (by omega) dX7_hold_17 (by decide) (fun c_17 => ?_) (fun c_17 => ?_)
      · skip
        refine z_aload_n F dX7_hold_22 rfl (lv_at hl 0 rfl) ?_
        refine z_iload_n F dX7_hold_23 rfl (lv_at hl 3 rfl) ?_
        have h9 : 0 ≤ G (8 + 8 * j) 9 ∧ G (8 + 8 * j) 9 ≤ 100 := by rw [(hM.2.2.2 j hj).2.2.1]; exact cntB_rng _ _
        refine z_bxi hZ (va_runV (As := [.int (zI (v))]) (rest := []) F (k_X6_take l w dom A hDA sz G hd j hj v (by omega) h9) (cwV 1 F.2.2.2.2 gX7_hold_X6_take rfl rfl rfl (by decide +kernel) ⟨Nat.le_of_ble_eq_true rfl, Nat.le_of_ble_eq_true rfl⟩) (z_preV hK hZ (8 + 8 * j) (hd _ (by omega)) (shp_seat j hj) (by decide) rfl _) rfl rfl hl.1 rfl (lv_room (Nat.le_of_ble_eq_true rfl)) dX7_hold_24 ⟨Nat.le_of_ble_eq_true rfl, Nat.le_of_ble_eq_true rfl⟩) (fun H locs hZ => ?_)
        refine z_topI (show (if G (8 + 8 * j + 6) v ≠ 0 then 0 else 1) = bI (¬ X 66 (100 * (j : Int) + v) ≠ 0) from by rw [(hM.2.2.2 j hj).2.2.2.2.2.2.1 v (by omega) (by omega), ite_01]) ?_
        refine z_ifB_eq (tgt := 34) F dX7_hold_27 (by decide) (fun c_27 => ?_) (fun c_27 => ?_)
        · skip
          refine z_iconst F dX7_hold_34 ?_
          exact z_iret F hr hlocks hZ (by rw [rHold, if_neg (by omega)]; first | rw [if_neg c_27] | rw [if_pos (Classical.not_not.mp c_27)]) (by rw [mHold, if_neg (by omega)]; exact Sim_hold hM hI hj (by omega)) dX7_hold_35 (by omega) (by omega)
        · skip
          refine z_iconst F dX7_hold_30 ?_
          refine lv_goto (tgt := 35) F.1 F.2.1 dX7_hold_31 (by decide) ?_
          exact z_iret F hr hlocks hZ (by rw [rHold, if_neg (by omega)]; first | rw [if_neg c_27] | rw [if_pos (Classical.not_not.mp c_27)]) (by rw [mHold, if_neg (by omega)]; exact Sim_hold hM hI hj (by omega)) dX7_hold_35 (by omega) (by omega)
      · skip
        have hbad : ¬ ((0 ≤ (j : Int) ∧ (j : Int) ≤ X 64 0 - 1) ∧ 1 ≤ v ∧ v ≤ 99) := by omega
        refine z_iconst F dX7_hold_20 ?_
        exact z_iret F hr hlocks hZ (by rw [rHold, if_pos hbad]) (by rw [mHold, if_pos hbad]; exact hM) dX7_hold_21 (by omega) (by omega)
