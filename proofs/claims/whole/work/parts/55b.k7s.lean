theorem mX7_seats_10 : Cond.fieldLink RX7 10 "LockedChain" "council" "LLockedChain$Council;" ∈ wsX7_seats := by decide +kernel
theorem mX7_seats_19 : Cond.fieldLink RX7 19 "LockedChain" "post" "LLockedChain$Post;" ∈ wsX7_seats := by decide +kernel
theorem mX7_seats_34 : Cond.fieldLink RX7 34 "LockedChain" "table" "[LLockedChain$Seat;" ∈ wsX7_seats := by decide +kernel
theorem mX7_seats_41 : Cond.fieldLink RX7 41 "LockedChain" "begun" "Z" ∈ wsX7_seats := by decide +kernel
theorem mX7_seats_45 : Cond.fieldLink RX7 45 "LockedChain" "seatings" "I" ∈ wsX7_seats := by decide +kernel
set_option maxHeartbeats 4000000 in
set_option maxRecDepth 100000 in
theorem k_X7_seats (l : Launch) (w : zW) (dom : Nat → Prop) (A : Nat → Prop) (hDA : ∀ i, dom i → A (w.2.1 + i)) (sz : Nat) (G : zM) (X : zM) (mm : Nat) (hd : ∀ i, i < 64 → dom i) (hdl : ∀ i, 71 ≤ i ∧ i < 71 + mm → dom i) (hM : Sim G X mm) (hI : Inv X) (n : Int) (hn : -2147483648 ≤ n ∧ n < 2147483648) : Met l yX7_seats wsX7_seats { frames := 3, cells := 0, slots := 0, locals := 64 } (zPre w dom sz G [.ref (w.2.1 + (0)), .int (zI (n))]) (zQi w dom sz (rSeats X n) (fun C => Sim C (mSeats X n) mm) A) (0) (0) A := by
  refine Met.ofW (cc := cX7_seats) (maxL := 3) (ret := (some .int)) (by decide) rfl ?_
  intro p e s m args below meth c s₁ B hml hv
  obtain ⟨rfl, hsz, hP, hK⟩ := hv
  have F : CallFix p m c cX7_seats 3 s _ wsX7_seats RX7 := ⟨B.exec, B.bytes, hml, findClass_of_methodNamed B.named, atoms_spec (ws := wsX7_seats) B.pre⟩
  have hr := B.returns
  have hlocks := B.notSynchronized
  have hZ : Zs w dom A s.heap sz G s.heap [] := ⟨hsz, hP, va_S.rf⟩
  have hl := lv_entry ([.ref (w.2.1 + (0)), .int (zI (n))]) (n := 3) (Nat.le_of_ble_eq_true rfl)
  rw [lg_entry_eq]
  generalize (lg_sl ([.ref (w.2.1 + (0)), .int (zI (n))]) ++ List.replicate (3 - (lg_sl ([.ref (w.2.1 + (0)), .int (zI (n))])).length) Slot.unset).toArray = ls at hl ⊢
  have hl : lv_has ls 3 [(0, .ref (w.2.1 + (0))), (1, .int (zI (n)))] := hl
  have hin7 : ∀ v ∈ u_ws RX7 TX7 6, v ∈ wsX7_seats := by decide +kernel
  have hn := hI.1
  have hLL := hI.2.2.2.1
  have hS : PostS G X mm := hM.1
  obtain ⟨hS1, hS2, hS3, hS4, hS5⟩ := hM.1
  have hC0 := hM.2.1
  have hT1 := hI.2.1
  refine z_iload_n F dX7_seats_0 rfl (lv_at hl 1 rfl) ?_
  refine z_iconst F dX7_seats_1 ?_
  refine z_icmp_lt (tgt := 11) F (by omega) (by omega) dX7_seats_2 (by decide) (fun c_2 => ?_) (fun c_2 => ?_)
  · skip
    have hbad : ¬ (4 ≤ n ∧ n ≤ 7) := by omega
    refine z_iconst F dX7_seats_11 ?_
    exact z_iret F hr hlocks hZ (by rw [rSeats, if_pos hbad]) (by rw [mSeats, if_pos hbad]; exact hM) dX7_seats_12 (by omega) (by omega)
  · skip
    refine z_iload_n F dX7_seats_5 rfl (lv_at hl 1 rfl) ?_
    refine z_bipush F (by decide) dX7_seats_6 ?_
    refine z_icmp_le (tgt := 13) F (by omega) (by omega) dX7_seats_8 (by decide) (fun c_8 => ?_) (fun c_8 => ?_)
    · skip
      refine z_aload_n F dX7_seats_13 rfl (lv_at hl 0 rfl) ?_
      refine z_get F hK hZ (0) (hd _ (by omega)) rfl (by decide) rfl hin7 5 (by decide) mX7_seats_45 rfl rfl dX7_seats_14 ?_
      have r_1 := hZ.2.1.1 (0) (5)
      refine z_topI (show G 0 5 = X 64 1 from hC0.2.1) ?_
      have r_2 : -2147483648 ≤ X 64 1 ∧ X 64 1 < 2147483648 := by rw [← show G 0 5 = X 64 1 from hC0.2.1]; exact hZ.2.1.1 _ _
      refine z_bipush F (by decide) dX7_seats_17 ?_
      refine z_icmp_lt (tgt := 25) F (by omega) (by omega) dX7_seats_19 (by decide) (fun c_19 => ?_) (fun c_19 => ?_)
      · skip
        refine z_aload_n F dX7_seats_25 rfl (lv_at hl 0 rfl) ?_
        refine lv_dup F.1 F.2.1 dX7_seats_26 rfl ?_
        refine z_get F hK hZ (0) (hd _ (by omega)) rfl (by decide) rfl hin7 5 (by decide) mX7_seats_45 rfl rfl dX7_seats_27 ?_
        have r_3 := hZ.2.1.1 (0) (5)
        refine z_topI (show G 0 5 = X 64 1 from hC0.2.1) ?_
        have r_4 : -2147483648 ≤ X 64 1 ∧ X 64 1 < 2147483648 := by rw [← show G 0 5 = X 64 1 from hC0.2.1]; exact hZ.2.1.1 _ _
        refine z_iconst F dX7_seats_30 ?_
        refine z_iadd F dX7_seats_31 ?_
        refine z_put (z := X 64 1 + 1) F hK hZ hDA (0) (hd _ (by omega)) rfl (by decide) rfl hin7 tyX7 tyX7_ok nmX7 5 (by decide) mX7_seats_45 rfl rfl rfl rfl (by omega) (kz := 5) rfl rfl (Nat.le_of_ble_eq_true rfl) dX7_seats_32 (fun H locs hZ => ?_)
        refine z_aload_n F dX7_seats_35 rfl (lv_at hl 0 rfl) ?_
        refine z_iconst F dX7_seats_36 ?_
        refine z_put (z := 0) F hK hZ hDA (0) (hd _ (by omega)) rfl (by decide) rfl hin7 tyX7 tyX7_ok nmX7 4 (by decide) mX7_seats_41 rfl rfl rfl rfl (by omega) (kz := 4) rfl rfl (Nat.le_of_ble_eq_true rfl) dX7_seats_37 (fun H locs hZ => ?_)
        refine z_aload_n F dX7_seats_40 rfl (lv_at hl 0 rfl) ?_
        refine z_get F hK hZ (0) (hd _ (by omega)) rfl (by decide) rfl hin7 0 (by decide) mX7_seats_10 rfl rfl dX7_seats_41 ?_
        refine z_iload_n F dX7_seats_44 rfl (lv_at hl 1 rfl) ?_
        refine z_bxv hZ (va_runV (As := [.int (zI (n))]) (rest := []) F (k_X1_resize l w dom A hDA sz (up (up G (0) (5) (X 64 1 + 1)) (0) (4) (0)) hd n (by omega)) (cwV 1 F.2.2.2.2 gX7_seats_X1_resize rfl rfl rfl (by decide +kernel) ⟨Nat.le_of_ble_eq_true rfl, Nat.le_of_ble_eq_true rfl⟩) (z_preV hK hZ (1) (hd _ (by omega)) rfl (by decide) rfl _) rfl rfl hl.1 rfl (lv_room (Nat.le_of_ble_eq_true rfl)) dX7_seats_45 ⟨Nat.le_of_ble_eq_true rfl, Nat.le_of_ble_eq_true rfl⟩) (fun H locs hZ => ?_)
        refine z_aload_n F dX7_seats_48 rfl (lv_at hl 0 rfl) ?_
        refine z_get F hK hZ (0) (hd _ (by omega)) rfl (by decide) rfl hin7 1 (by decide) mX7_seats_19 rfl rfl dX7_seats_49 ?_
        refine z_bxv hZ (va_runV (As := []) (rest := []) F (k_X4_clear l w dom A hDA sz (up (up (up G (0) (5) (X 64 1 + 1)) (0) (4) (0)) (1) (0) (n)) hd) (cwV 0 F.2.2.2.2 gX7_seats_X4_clear rfl rfl rfl (by decide +kernel) ⟨Nat.le_of_ble_eq_true rfl, Nat.le_of_ble_eq_true rfl⟩) (z_preV hK hZ (2) (hd _ (by omega)) rfl (by decide) rfl _) rfl rfl hl.1 rfl (lv_room (Nat.le_of_ble_eq_true rfl)) dX7_seats_52 ⟨Nat.le_of_ble_eq_true rfl, Nat.le_of_ble_eq_true rfl⟩) (fun H locs hZ => ?_)
        refine z_iconst F dX7_seats_55 ?_
        refine z_istore_n (lv' := [(2, .int (zI (0))), (0, .ref (w.2.1 + (0))), (1, .int (zI (n)))]) F dX7_seats_56 rfl hl (by decide) rfl (fun ls hl => ?_)
        have L_57 : ∀ (nf : Nat) (i : Nat) (M : zM), (8 ≤ i + nf) → (i ≤ 7) → (M = clN (stsB G (X 64 1 + 1) n) i) →  ∀ (H : Heap) (locs : List Loc) (ls : Array Slot), Zs w dom A s.heap sz M H locs → lv_has ls 3 [(0, .ref (w.2.1 + (0))), (1, .int (zI (n))), (2, .int (zI ((i : Int))))] → W p l e (headSpec wsX7_seats { frames := 3, cells := 0, slots := 0, locals := 64 }).room s m ([.ref (w.2.1 + (0)), .int (zI (n))] : List Value).toArray below meth c H locs (0 + 0 + 0) (0 + 0 + 0) (MQ below (zQi w dom sz (rSeats X n) (fun C => Sim C (mSeats X n) mm) A) ([.ref (w.2.1 + (0)), .int (zI (n))] : List Value).toArray s (0) (0) A) (F0 m 57 ls []) := by
          intro nf
          induction nf with
          | zero => intro i  M  h57_0 h57_1 h57_2; exact absurd h57_0 (by omega)
          | succ nf ih_57 =>
            intro i  M  h57_0 h57_1 h57_2 H locs ls hZ hl
            refine z_iload_n F dX7_seats_57 rfl (lv_at hl 2 rfl) ?_
            refine z_aload_n F dX7_seats_58 rfl (lv_at hl 0 rfl) ?_
            refine z_get F hK hZ (0) (hd _ (by omega)) rfl (by decide) rfl hin7 3 (by decide) mX7_seats_34 rfl rfl dX7_seats_59 ?_
            refine z_alen F hK hZ (7) (hd _ (by omega)) (by decide) rfl dX7_seats_62 ?_
            refine z_icmp_ge (tgt := 90) F (by omega) (by omega) dX7_seats_63 (by decide) (fun c_63 => ?_) (fun c_63 => ?_)
            · skip
              refine z_iload_n F dX7_seats_90 rfl (lv_at hl 1 rfl) ?_
              exact z_iret F hr hlocks hZ (by rw [rSeats, if_neg (by omega), if_neg (by omega)]) (by rw [mSeats, if_neg (by omega), if_neg (by omega), h57_2, show i = 7 by omega]; exact Sim_seats hM) dX7_seats_91 (by omega) (by omega)
            · skip
              refine z_aload_n F dX7_seats_66 rfl (lv_at hl 0 rfl) ?_
              refine z_get F hK hZ (0) (hd _ (by omega)) rfl (by decide) rfl hin7 3 (by decide) mX7_seats_34 rfl rfl dX7_seats_67 ?_
              refine z_iload_n F dX7_seats_70 rfl (lv_at hl 2 rfl) ?_
              refine z_aald F hK hZ (7) (hd _ (by omega)) (by decide) rfl (by decide) (by omega) (by omega) dX7_seats_71 ?_
              have hT : M 7 (i : Int) = ((8 + 8 * i : Nat) : Int) := by rw [h57_2]; exact sts_tab hM _ _ i (by omega)
              rw [show M (7) ((i : Int)) = ((8 + 8 * i : Nat) : Int) from hT, zV_nat]
              refine lv_ifnull F.1 F.2.1 dX7_seats_72 ?_
              refine z_aload_n F dX7_seats_75 rfl (lv_at hl 0 rfl) ?_
              refine z_get F hK hZ (0) (hd _ (by omega)) rfl (by decide) rfl hin7 3 (by decide) mX7_seats_34 rfl rfl dX7_seats_76 ?_
              refine z_iload_n F dX7_seats_79 rfl (lv_at hl 2 rfl) ?_
              refine z_aald F hK hZ (7) (hd _ (by omega)) (by decide) rfl (by decide) (by omega) (by omega) dX7_seats_80 ?_
              rw [show M (7) ((i : Int)) = ((8 + 8 * i : Nat) : Int) from hT, zV_nat]
              refine z_bxv hZ (va_runV (As := []) (rest := []) F (k_X6_clear l w dom A hDA sz M hd i (by omega)) (cwV 0 F.2.2.2.2 gX7_seats_X6_clear rfl rfl rfl (by decide +kernel) ⟨Nat.le_of_ble_eq_true rfl, Nat.le_of_ble_eq_true rfl⟩) (z_preV hK hZ (8 + 8 * i) (hd _ (by omega)) (shp_seat i (by omega)) (by decide) rfl _) rfl rfl hl.1 rfl (lv_room (Nat.le_of_ble_eq_true rfl)) dX7_seats_81 ⟨Nat.le_of_ble_eq_true rfl, Nat.le_of_ble_eq_true rfl⟩) (fun H locs hZ => ?_)
              refine z_iinc (k := 2) (z := (i : Int)) (lv' := [(2, .int (zI ((i : Int) + 1))), (0, .ref (w.2.1 + (0))), (1, .int (zI (n)))]) F dX7_seats_84 hl rfl (by decide) rfl (fun ls hl => ?_)
              refine lv_goto (tgt := 57) F.1 F.2.1 dX7_seats_87 (by decide) ?_
              exact ih_57 (i + 1) (cClr M i) (by omega) (by omega) (by rw [h57_2]; rfl) _ _ _ hZ (lv_sub hl [1, 2, 0] rfl)
        exact L_57 8 0 _ (by omega) (by omega) rfl _ _ _ hZ (lv_sub hl [1, 2, 0] rfl)
      · skip
        have hfull : X 64 1 = 20 := by omega
        refine z_bipush F (by decide) dX7_seats_22 ?_
        exact z_iret F hr hlocks hZ (by rw [rSeats, if_neg (by omega), if_pos hfull]) (by rw [mSeats, if_neg (by omega), if_pos hfull]; exact hM) dX7_seats_24 (by omega) (by omega)
    · skip
      have hbad : ¬ (4 ≤ n ∧ n ≤ 7) := by omega
      refine z_iconst F dX7_seats_11 ?_
      exact z_iret F hr hlocks hZ (by rw [rSeats, if_pos hbad]) (by rw [mSeats, if_pos hbad]; exact hM) dX7_seats_12 (by omega) (by omega)
