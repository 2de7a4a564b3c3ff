theorem mX7_bringAllLetters_10 : Cond.fieldLink RX7 10 "LockedChain" "council" "LLockedChain$Council;" ∈ wsX7_bringAllLetters := by decide +kernel
theorem mX7_bringAllLetters_19 : Cond.fieldLink RX7 19 "LockedChain" "post" "LLockedChain$Post;" ∈ wsX7_bringAllLetters := by decide +kernel
theorem mX7_bringAllLetters_28 : Cond.fieldLink RX7 28 "LockedChain" "rules" "LLockedChain$Rules;" ∈ wsX7_bringAllLetters := by decide +kernel
set_option maxHeartbeats 4000000 in
set_option maxRecDepth 100000 in
theorem k_X7_bringAllLetters (l : Launch) (w : zW) (A : Nat → Prop) (hA : ∀ i, i < 64 ∨ 71 ≤ i → A (w.2.1 + i)) (mm : Nat) (G X : zM) (hM : Sim G X mm) (hI : Inv X) : Met l yX7_bringAllLetters wsX7_bringAllLetters { frames := 7, cells := (mU mm (bringM X).1 - mm), slots := (8 * (mU mm (bringM X).1 - mm)), locals := 155 } (zPre w (dC mm) (w.2.1 + (71 + mm)) G [.ref (w.2.1 + (0))]) (zQi w (dC (mU mm (bringM X).1)) (w.2.1 + (71 + mU mm (bringM X).1)) ((bringM X).2) (fun C => Sim C (bringM X).1 (mU mm (bringM X).1)) A) ((mU mm (bringM X).1 - mm)) ((8 * (mU mm (bringM X).1 - mm))) A := by
  refine Met.ofW (cc := cX7_bringAllLetters) (maxL := 6) (ret := (some .boolean)) (by decide) rfl ?_
  intro p e s m args below meth c s₁ B hml hv
  obtain ⟨rfl, hsz, hP, hK⟩ := hv
  have F : CallFix p m c cX7_bringAllLetters 6 s _ wsX7_bringAllLetters RX7 := ⟨B.exec, B.bytes, hml, findClass_of_methodNamed B.named, atoms_spec (ws := wsX7_bringAllLetters) B.pre⟩
  have hr := B.returns
  have hlocks := B.notSynchronized
  have hZ : Zs w (dC mm) A s.heap (w.2.1 + (71 + mm)) G s.heap [] := ⟨hsz, hP, va_S.rf⟩
  have hl := lv_entry ([.ref (w.2.1 + (0))]) (n := 6) (Nat.le_of_ble_eq_true rfl)
  rw [lg_entry_eq]
  generalize (lg_sl ([.ref (w.2.1 + (0))]) ++ List.replicate (6 - (lg_sl ([.ref (w.2.1 + (0))])).length) Slot.unset).toArray = ls at hl ⊢
  have hl : lv_has ls 6 [(0, .ref (w.2.1 + (0)))] := hl
  have hin7 : ∀ v ∈ u_ws RX7 TX7 6, v ∈ wsX7_bringAllLetters := by decide +kernel
  have hn := hI.1
  have hLL := hI.2.2.2.1
  have hS : PostS G X mm := hM.1
  obtain ⟨hS1, hS2, hS3, hS4, hS5⟩ := hM.1
  have hC0 := hM.2.1
  have hu := mU_c mm (bringM X).1
  rw [← mU_self hM.1.2.1.1] at hZ
  refine z_iconst F dX7_bringAllLetters_0 ?_
  refine z_istore_n (lv' := [(1, .int (zI (0))), (0, .ref (w.2.1 + (0)))]) F dX7_bringAllLetters_1 rfl hl (by decide) rfl (fun ls hl => ?_)
  refine z_iconst F dX7_bringAllLetters_2 ?_
  refine z_istore_n (lv' := [(2, .int (zI (0))), (1, .int (zI (0))), (0, .ref (w.2.1 + (0)))]) F dX7_bringAllLetters_3 rfl hl (by decide) rfl (fun ls hl => ?_)
  have L_4 : ∀ (nf : Nat) (i : Nat) (Cy Xy : zM) (b : Int), (402 ≤ i + nf) → (i ≤ 400) → (Sim Cy Xy (mU mm Xy) ∧ Inv Xy) → (b = 0 ∨ b = 1) → (brL (401 - i) i Xy b = bringM X) →  ∀ (H : Heap) (locs : List Loc) (ls : Array Slot), Zs w (dC (mU mm Xy)) A s.heap (w.2.1 + (71 + mU mm Xy)) Cy H locs → lv_has ls 6 [(0, .ref (w.2.1 + (0))), (1, .int (zI (b))), (2, .int (zI ((i : Int))))] → W p l e (headSpec wsX7_bringAllLetters { frames := 7, cells := (mU mm (bringM X).1 - mm), slots := (8 * (mU mm (bringM X).1 - mm)), locals := 155 }).room s m ([.ref (w.2.1 + (0))] : List Value).toArray below meth c H locs (mU mm Xy - mm) (8 * (mU mm Xy - mm)) (MQ below (zQi w (dC (mU mm (bringM X).1)) (w.2.1 + (71 + mU mm (bringM X).1)) ((bringM X).2) (fun C => Sim C (bringM X).1 (mU mm (bringM X).1)) A) ([.ref (w.2.1 + (0))] : List Value).toArray s ((mU mm (bringM X).1 - mm)) ((8 * (mU mm (bringM X).1 - mm))) A) (F0 m 4 ls []) := by
    intro nf
    induction nf with
    | zero => intro i  Cy Xy  b  h4_0 h4_1 h4_2 h4_3 h4_4; exact absurd h4_0 (by omega)
    | succ nf ih_4 =>
      intro i  Cy Xy  b  h4_0 h4_1 h4_2 h4_3 h4_4 H locs ls hZ hl
      have hMy := h4_2.1
      have hIy := h4_2.2
      have hC0y := hMy.2.1
      have hny := hIy.1
      have hLLy := hIy.2.2.2.1
      have hTy := (by have z := (Nx_brL (401 - i) i h4_2.2 h4_3).1.2.2.2.2; rw [h4_4] at z; exact z : Xy 64 7 ≤ (bringM X).1 64 7)
      refine z_iload_n F dX7_bringAllLetters_4 rfl (lv_at hl 2 rfl) ?_
      refine z_aload_n F dX7_bringAllLetters_5 rfl (lv_at hl 0 rfl) ?_
      refine z_get F hK hZ (0) (dC_s (by omega)) rfl (by decide) rfl hin7 1 (by decide) mX7_bringAllLetters_19 rfl rfl dX7_bringAllLetters_6 ?_
      refine z_bxi hZ (va_runV (As := []) (rest := [.int (zI ((i : Int)))]) F (k_X4_sent l w (dC (mU mm Xy)) A (dC_A hA) (w.2.1 + (71 + (mU mm Xy))) Cy (fun i h => dC_s h)) (cwV 0 F.2.2.2.2 gX7_bringAllLetters_X4_sent rfl rfl rfl (by decide +kernel) ⟨Nat.le_of_ble_eq_true rfl, Nat.le_of_ble_eq_true rfl⟩) (z_preV hK hZ (2) (dC_s (by omega)) rfl (by decide) rfl _) rfl rfl hl.1 rfl (lv_room (Nat.le_of_ble_eq_true rfl)) dX7_bringAllLetters_9 ⟨mU_at hTy, mU_at8 hTy⟩) (fun H locs hZ => ?_)
      refine z_topI (show Cy 2 3 = Xy 64 7 from hMy.1.1) ?_
      refine z_icmp_ge (tgt := 101) F (by omega) (by omega) dX7_bringAllLetters_12 (by decide) (fun c_12 => ?_) (fun c_12 => ?_)
      · skip
        have hbr : bringM X = (Xy, b) := by rw [← h4_4, brL_end (by omega)]
        have hst : (bringM X).1 = Xy := by rw [hbr]
        have hfin : Sim Cy (bringM X).1 (mU mm (bringM X).1) := by rw [hst]; exact hMy
        rw [← hst] at hZ
        refine z_iload_n F dX7_bringAllLetters_101 rfl (lv_at hl 1 rfl) ?_
        exact z_zret F hr hlocks hZ (by rw [hbr]) (by omega) hfin dX7_bringAllLetters_102 (by rw [hst]; exact Nat.le_refl _) (by rw [hst]; exact Nat.le_refl _)
      · skip
        have hTn : (brS (i : Int) (Xy 64 0).toNat 0 Xy b).1 64 7 ≤ (bringM X).1 64 7 := by have z := (Nx_brS (l := (i : Int)) (Xy 64 0).toNat 0 hIy (b := b) (by omega) (by omega) h4_3); have z2 := (Nx_brL (401 - (i + 1)) (i + 1) z.1.1 z.2).1.2.2.2.2; rw [← Nat.sub_sub, ← brL_S (k := 401 - i) (by omega) c_12, h4_4] at z2; exact z2
        refine z_iload_n F dX7_bringAllLetters_15 rfl (lv_at hl 2 rfl) ?_
        refine z_sipush F (by decide) dX7_bringAllLetters_16 ?_
        refine z_icmp_ge (tgt := 101) F (by omega) (by omega) dX7_bringAllLetters_19 (by decide) (fun c_19 => ?_) (fun c_19 => ?_)
        · skip
          have hbr : bringM X = (Xy, b) := by rw [← h4_4, brL_end (by omega)]
          have hst : (bringM X).1 = Xy := by rw [hbr]
          have hfin : Sim Cy (bringM X).1 (mU mm (bringM X).1) := by rw [hst]; exact hMy
          rw [← hst] at hZ
          refine z_iload_n F dX7_bringAllLetters_101 rfl (lv_at hl 1 rfl) ?_
          exact z_zret F hr hlocks hZ (by rw [hbr]) (by omega) hfin dX7_bringAllLetters_102 (by rw [hst]; exact Nat.le_refl _) (by rw [hst]; exact Nat.le_refl _)
        · skip
          refine z_aload_n F dX7_bringAllLetters_22 rfl (lv_at hl 0 rfl) ?_
          refine z_get F hK hZ (0) (dC_s (by omega)) rfl (by decide) rfl hin7 1 (by decide) mX7_bringAllLetters_19 rfl rfl dX7_bringAllLetters_23 ?_
          refine z_iload_n F dX7_bringAllLetters_26 rfl (lv_at hl 2 rfl) ?_
          refine z_bxr hZ (va_runV (As := [.int (zI ((i : Int)))]) (rest := []) F (k_X4_at l w (dC (mU mm Xy)) A (dC_A hA) (w.2.1 + (71 + (mU mm Xy))) Cy (fun i h => dC_s h) ((i : Int)) (by omega)) (cwV 1 F.2.2.2.2 gX7_bringAllLetters_X4_at rfl rfl rfl (by decide +kernel) ⟨Nat.le_of_ble_eq_true rfl, Nat.le_of_ble_eq_true rfl⟩) (z_preV hK hZ (2) (dC_s (by omega)) rfl (by decide) rfl _) rfl rfl hl.1 rfl (lv_room (Nat.le_of_ble_eq_true rfl)) dX7_bringAllLetters_27 ⟨mU_at hTy, mU_at8 hTy⟩) (fun H locs hZ => ?_)
          rw [show (if 0 ≤ (i : Int) ∧ (i : Int) < Cy 2 3 ∧ (i : Int) < 400 then Cy 3 ((i : Int)) else -1) = atV Xy ((i : Int)) from at_eq hMy.1 ((i : Int))]
          rw [atV_in (X := Xy) (i := i) (by omega), zV_nat]
          refine z_astore_n (lv' := [(3, .ref (w.2.1 + (71 + i))), (0, .ref (w.2.1 + (0))), (1, .int (zI (b))), (2, .int (zI ((i : Int))))]) F dX7_bringAllLetters_30 rfl hl (by decide) rfl (fun ls hl => ?_)
          obtain ⟨b0, hb0⟩ : ∃ q : Int, q = b := ⟨_, rfl⟩
          subst hb0
          refine z_iconst F dX7_bringAllLetters_31 ?_
          refine z_istore (lv' := [(4, .int (zI (0))), (3, .ref (w.2.1 + (71 + i))), (0, .ref (w.2.1 + (0))), (1, .int (zI (b0))), (2, .int (zI ((i : Int))))]) F dX7_bringAllLetters_32 hl (by decide) rfl (fun ls hl => ?_)
          have L_34 : ∀ (nf : Nat) (j : Nat) (Cz Xz : zM) (b : Int), ((Xy 64 0).toNat + 1 ≤ j + nf) → (j ≤ (Xy 64 0).toNat) → (Sim Cz Xz (mU mm Xz) ∧ Inv Xz) → (Xz 64 0 = Xy 64 0 ∧ Xy 64 7 ≤ Xz 64 7) → (b = 0 ∨ b = 1) → (brS (i : Int) ((Xy 64 0).toNat - j) j Xz b = brS (i : Int) (Xy 64 0).toNat 0 Xy b0) →  ∀ (H : Heap) (locs : List Loc) (ls : Array Slot), Zs w (dC (mU mm Xz)) A s.heap (w.2.1 + (71 + mU mm Xz)) Cz H locs → lv_has ls 6 [(0, .ref (w.2.1 + (0))), (1, .int (zI (b))), (2, .int (zI ((i : Int)))), (3, .ref (w.2.1 + (71 + i))), (4, .int (zI ((j : Int))))] → W p l e (headSpec wsX7_bringAllLetters { frames := 7, cells := (mU mm (bringM X).1 - mm), slots := (8 * (mU mm (bringM X).1 - mm)), locals := 155 }).room s m ([.ref (w.2.1 + (0))] : List Value).toArray below meth c H locs (mU mm Xz - mm) (8 * (mU mm Xz - mm)) (MQ below (zQi w (dC (mU mm (bringM X).1)) (w.2.1 + (71 + mU mm (bringM X).1)) ((bringM X).2) (fun C => Sim C (bringM X).1 (mU mm (bringM X).1)) A) ([.ref (w.2.1 + (0))] : List Value).toArray s ((mU mm (bringM X).1 - mm)) ((8 * (mU mm (bringM X).1 - mm))) A) (F0 m 34 ls []) := by
            intro nf
            induction nf with
            | zero => intro j  Cz Xz  b  h34_0 h34_1 h34_2 h34_3 h34_4 h34_5; exact absurd h34_0 (by omega)
            | succ nf ih_34 =>
              intro j  Cz Xz  b  h34_0 h34_1 h34_2 h34_3 h34_4 h34_5 H locs ls hZ hl
              have hMz := h34_2.1
              have hIz := h34_2.2
              have hC0z := hMz.2.1
              have hnz := hIz.1
              have hLLz := hIz.2.2.2.1
              have hTz := (by have z := (Nx_brS (l := (i : Int)) ((Xy 64 0).toNat - j) j h34_2.2 (b := b) (by have := h34_3.2; omega) (by rw [h34_3.1]; have := h4_2.2.1; omega) h34_4).1.2.2.2.2; rw [h34_5] at z; exact Int.le_trans z hTn : Xz 64 7 ≤ (bringM X).1 64 7)
              have hiz := hMz.1.2.1.1
              have hiw := h34_3.2
              refine z_iload F dX7_bringAllLetters_34 (lv_at hl 4 rfl) ?_
              refine z_aload_n F dX7_bringAllLetters_36 rfl (lv_at hl 0 rfl) ?_
              refine z_get F hK hZ (0) (dC_s (by omega)) rfl (by decide) rfl hin7 0 (by decide) mX7_bringAllLetters_10 rfl rfl dX7_bringAllLetters_37 ?_
              refine z_bxi hZ (va_runV (As := []) (rest := [.int (zI ((j : Int)))]) F (k_X1_size l w (dC (mU mm Xz)) A (dC_A hA) (w.2.1 + (71 + (mU mm Xz))) Cz (fun i h => dC_s h)) (cwV 0 F.2.2.2.2 gX7_bringAllLetters_X1_size rfl rfl rfl (by decide +kernel) ⟨Nat.le_of_ble_eq_true rfl, Nat.le_of_ble_eq_true rfl⟩) (z_preV hK hZ (1) (dC_s (by omega)) rfl (by decide) rfl _) rfl rfl hl.1 rfl (lv_room (Nat.le_of_ble_eq_true rfl)) dX7_bringAllLetters_40 ⟨mU_at hTz, mU_at8 hTz⟩) (fun H locs hZ => ?_)
              refine z_topI (show Cz 1 0 = Xz 64 0 from hC0z.2.2) ?_
              refine z_icmp_ge (tgt := 95) F (by omega) (by omega) dX7_bringAllLetters_43 (by decide) (fun c_43 => ?_) (fun c_43 => ?_)
              · skip
                have hbs : brS (i : Int) (Xy 64 0).toNat 0 Xy b0 = (Xz, b) := by rw [← h34_5, show (Xy 64 0).toNat - j = 0 by omega]; rfl
                refine z_iinc (k := 2) (z := (i : Int)) (lv' := [(2, .int (zI ((i : Int) + 1))), (0, .ref (w.2.1 + (0))), (1, .int (zI (b))), (3, .ref (w.2.1 + (71 + i))), (4, .int (zI ((j : Int))))]) F dX7_bringAllLetters_95 hl rfl (by decide) rfl (fun ls hl => ?_)
                refine lv_goto (tgt := 4) F.1 F.2.1 dX7_bringAllLetters_98 (by decide) ?_
                exact W.widen (Nat.le_refl _) (Nat.le_refl _) (ih_4 (i + 1) Cz Xz b (by omega) (by omega) h34_2 h34_4 (by rw [← h4_4, brL_S (by omega) c_12, Nat.sub_sub, hbs]) _ _ _ hZ (lv_sub hl [1, 2, 0] rfl))
              · skip
                refine z_aload_n F dX7_bringAllLetters_46 rfl (lv_at hl 0 rfl) ?_
                refine z_iload F dX7_bringAllLetters_47 (lv_at hl 4 rfl) ?_
                refine z_bxr hZ (va_runV (As := [.int (zI ((j : Int)))]) (rest := []) F (k_X7_honest l w (dC (mU mm Xz)) A (dC_A hA) (w.2.1 + (71 + (mU mm Xz))) Cz Xz (mU mm Xz) (fun i h => dC_s h) (fun i h => dC_l h) hMz hIz ((j : Int)) (by omega)) (cwV 1 F.2.2.2.2 gX7_bringAllLetters_X7_honest rfl rfl rfl (by decide +kernel) ⟨Nat.le_of_ble_eq_true rfl, Nat.le_of_ble_eq_true rfl⟩) (z_preV hK hZ (0) (dC_s (by omega)) rfl (by decide) rfl _) rfl rfl hl.1 rfl (lv_room (Nat.le_of_ble_eq_true rfl)) dX7_bringAllLetters_49 ⟨mU_at hTz, mU_at8 hTz⟩) (fun H locs hZ => ?_)
                refine z_vstore (lv' := [(5, zV w (hoV Xz ((j : Int)))), (0, .ref (w.2.1 + (0))), (1, .int (zI (b))), (2, .int (zI ((i : Int)))), (3, .ref (w.2.1 + (71 + i))), (4, .int (zI ((j : Int))))]) F dX7_bringAllLetters_52 hl (by decide) (by unfold zV; (repeat' split) <;> rfl) (fun ls hl => ?_)
                refine z_aload_n F dX7_bringAllLetters_54 rfl (lv_at hl 4 rfl) ?_
                refine lv_ifnull F.1 F.2.1 dX7_bringAllLetters_55 ?_
                refine z_vload (w := w) F dX7_bringAllLetters_58 (lv_at hl 0 rfl) ?_
                refine z_ifnull (tgt := 89) F dX7_bringAllLetters_60 (by decide) (fun c_60 => ?_) (fun c_60 => ?_)
                · skip
                  refine z_iinc (k := 5) (z := (j : Int)) (lv' := [(4, .int (zI ((j : Int) + 1))), (5, zV w (hoV Xz ((j : Int)))), (0, .ref (w.2.1 + (0))), (1, .int (zI (b))), (2, .int (zI ((i : Int)))), (3, .ref (w.2.1 + (71 + i)))]) F dX7_bringAllLetters_89 hl rfl (by decide) (by unfold zV; (repeat' split) <;> rfl) (fun ls hl => ?_)
                  refine lv_goto (tgt := 34) F.1 F.2.1 dX7_bringAllLetters_92 (by decide) ?_
                  exact W.widen (Nat.le_refl _) (Nat.le_refl _) (ih_34 (j + 1) Cz Xz b (by omega) (by omega) h34_2 h34_3 h34_4 (by rw [← h34_5, brS_f (k := (Xy 64 0).toNat - j) (t := j) (M := Xz) (b := b) (by omega) (by first | exact fun q => hoV_neg (by omega) c_60 q.1 | exact fun q => c_69 q.2), Nat.sub_sub]) _ _ _ hZ (lv_sub hl [2, 3, 4, 5, 0] rfl))
                · skip
                  obtain ⟨hj_j, hj0_j, hf_j, hz_j⟩ := hoV_pos hnz (by assumption)
                  rw [hz_j, zV_nat] at hl
                  refine z_aload_n F dX7_bringAllLetters_63 rfl (lv_at hl 4 rfl) ?_
                  refine z_iload F dX7_bringAllLetters_64 (lv_at hl 5 rfl) ?_
                  refine z_bxi hZ (va_runV (As := [.int (zI ((j : Int)))]) (rest := []) F (k_X2_cameTo l w (dC (mU mm Xz)) A (dC_A hA) (w.2.1 + (71 + (mU mm Xz))) Cz i (dC_l (by omega)) (cam_rng hMz.1 (by omega)) ((j : Int)) (by omega)) (cwV 1 F.2.2.2.2 gX7_bringAllLetters_X2_cameTo rfl rfl rfl (by decide +kernel) ⟨Nat.le_of_ble_eq_true rfl, Nat.le_of_ble_eq_true rfl⟩) (z_preV hK hZ (71 + i) (dC_l (by omega)) (shp_let i) (by decide) rfl _) rfl rfl hl.1 rfl (lv_room (Nat.le_of_ble_eq_true rfl)) dX7_bringAllLetters_66 ⟨mU_at hTz, mU_at8 hTz⟩) (fun H locs hZ => ?_)
                  refine z_topI (cam_bI hMz.1 (l := i) (s := (j : Int)) (by omega) (by omega)) ?_
                  refine z_ifB_ne (tgt := 89) F dX7_bringAllLetters_69 (by decide) (fun c_69 => ?_) (fun c_69 => ?_)
                  · skip
                    refine z_iinc (k := 5) (z := (j : Int)) (lv' := [(4, .int (zI ((j : Int) + 1))), (5, .ref (w.2.1 + (8 + 8 * j))), (0, .ref (w.2.1 + (0))), (1, .int (zI (b))), (2, .int (zI ((i : Int)))), (3, .ref (w.2.1 + (71 + i)))]) F dX7_bringAllLetters_89 hl rfl (by decide) rfl (fun ls hl => ?_)
                    refine lv_goto (tgt := 34) F.1 F.2.1 dX7_bringAllLetters_92 (by decide) ?_
                    exact W.widen (Nat.le_refl _) (Nat.le_refl _) (ih_34 (j + 1) Cz Xz b (by omega) (by omega) h34_2 h34_3 h34_4 (by rw [← h34_5, brS_f (k := (Xy 64 0).toNat - j) (t := j) (M := Xz) (b := b) (by omega) (by first | exact fun q => hoV_neg (by omega) c_60 q.1 | exact fun q => c_69 q.2), Nat.sub_sub]) _ _ _ hZ (lv_sub hl [2, 3, 4, 5, 0] rfl))
                  · skip
                    refine z_aload_n F dX7_bringAllLetters_72 rfl (lv_at hl 4 rfl) ?_
                    refine z_iload F dX7_bringAllLetters_73 (lv_at hl 5 rfl) ?_
                    refine z_bxv hZ (va_runV (As := [.int (zI ((j : Int)))]) (rest := []) F (k_X2_reach l w (dC (mU mm Xz)) A (dC_A hA) (w.2.1 + (71 + (mU mm Xz))) Cz i (dC_l (by omega)) ((j : Int)) (by omega)) (cwV 1 F.2.2.2.2 gX7_bringAllLetters_X2_reach rfl rfl rfl (by decide +kernel) ⟨Nat.le_of_ble_eq_true rfl, Nat.le_of_ble_eq_true rfl⟩) (z_preV hK hZ (71 + i) (dC_l (by omega)) (shp_let i) (by decide) rfl _) rfl rfl hl.1 rfl (lv_room (Nat.le_of_ble_eq_true rfl)) dX7_bringAllLetters_75 ⟨mU_at hTz, mU_at8 hTz⟩) (fun H locs hZ => ?_)
                    obtain ⟨C1, hG1⟩ : ∃ zz : zM, zz = up Cz (71 + i) 6 (orS (Cz (71 + i) 6) ((j : Int))) := ⟨_, rfl⟩
                    obtain ⟨X1, hX1⟩ : ∃ zz : zM, zz = up Xz 70 (7 * (i : Int) + ((j : Int))) 1 := ⟨_, rfl⟩
                    have hnc : Nx Xz X1 := by rw [hX1]; exact Nx_came hIz (by omega) (by omega)
                    have h71 : mU mm Xz = mU mm X1 := mU_eq7 (by rw [hX1, up_cell _ _ _ (by decide)])
                    have hM1 : Sim C1 X1 (mU mm X1) := by rw [← h71, hG1, hX1]; exact Sim_reach hMz (by omega) (by omega)
                    have hI1 := hnc.1
                    have hC01 := hM1.2.1
                    rw [← hG1, h71] at hZ
                    have hcm : rulesM X1 (j : Int) = comesM Xz (i : Int) (j : Int) := by rw [hX1]; rfl
                    have hT1 : X1 64 7 ≤ (bringM X).1 64 7 := by rw [hX1, up_cell _ _ _ (by decide)]; exact hTz
                    refine W.widen (show mU mm Xz - mm + 0 + 0 + 0 + 0 ≤ mU mm X1 - mm by rw [h71]; exact Nat.le_refl _) (show 8 * (mU mm Xz - mm) + 0 + 0 + 0 + 0 ≤ 8 * (mU mm X1 - mm) by rw [h71]; exact Nat.le_refl _) ?_
                    refine z_aload_n F dX7_bringAllLetters_78 rfl (lv_at hl 1 rfl) ?_
                    refine z_get F hK hZ (0) (dC_s (by omega)) rfl (by decide) rfl hin7 2 (by decide) mX7_bringAllLetters_28 rfl rfl dX7_bringAllLetters_79 ?_
                    refine z_aload F dX7_bringAllLetters_82 (lv_at hl 0 rfl) ?_
                    have hf1 : X1 65 (j : Int) = 0 := by rw [hnc.2.2.1]; exact hf_j
                    have h6401 : X1 64 0 = Xz 64 0 := hnc.2.1.1
                    have hnr := Nx_rules hI1 (s := (j : Int)) (by omega)
                    have hb2 := h34_5.symm.trans (brS_t (k := (Xy 64 0).toNat - j) (t := j) (M := Xz) (b := b) (by omega) ⟨hf_j, Classical.not_not.mp c_69⟩)
                    rw [Nat.sub_sub, ← hcm] at hb2
                    have hn2 := hnc.tr hnr
                    have hT2 : rulesM X1 (j : Int) 64 7 ≤ (bringM X).1 64 7 := by have z := (Nx_brS (l := (i : Int)) ((Xy 64 0).toNat - (j + 1)) (j + 1) hnr.1 (b := 1) (by rw [← hn2.2.1.1] at *; have := hn2.2.2.2.2; omega) (by rw [hn2.2.1.1]; omega) (Or.inr rfl)).1.2.2.2.2; rw [← hb2] at z; omega
                    have hle2 : X1 64 7 ≤ (rulesM X1 j) 64 7 := hnr.2.2.2.2
                    have hT2 : (rulesM X1 j) 64 7 ≤ (bringM X).1 64 7 := hT2
                    refine z_backv hZ (va_runV (As := [.ref (w.2.1 + (8 + 8 * j))]) (rest := []) F (k_X5_go l w A hA (mU mm X1) C1 X1 hM1 hI1 j (by omega) hf1) (cwV 1 F.2.2.2.2 gX7_bringAllLetters_X5_go rfl rfl rfl (by decide +kernel) ⟨Nat.le_of_ble_eq_true rfl, Nat.le_of_ble_eq_true rfl⟩) (z_preV hK hZ (6) (dC_s (by omega)) rfl (by decide) rfl _) rfl rfl hl.1 rfl (lv_room (Nat.le_of_ble_eq_true rfl)) dX7_bringAllLetters_84 ⟨mU_st hle2 hT2, mU_st8 hle2 hT2⟩) (fun C2 H locs hC2 hZ => ?_)
                    have hq2 : mU (mU mm X1) (rulesM X1 j) = mU mm (rulesM X1 j) := mU_mU hle2
                    rw [hq2] at hZ hC2
                    refine W.widen (show mU mm X1 - mm + (mU (mU mm X1) (rulesM X1 j) - (mU mm X1)) ≤ mU mm (rulesM X1 j) - mm from mU_st hle2 (Int.le_refl _)) (show 8 * (mU mm X1 - mm) + (8 * (mU (mU mm X1) (rulesM X1 j) - (mU mm X1))) ≤ 8 * (mU mm (rulesM X1 j) - mm) from mU_st8 hle2 (Int.le_refl _)) ?_
                    obtain ⟨X2, hX2⟩ : ∃ zz : zM, zz = (rulesM X1 j) := ⟨_, rfl⟩
                    rw [← hX2] at hZ hC2 hT2 hle2
                    rw [← hX2]
                    have hM2 := hC2
                    have hI2 : Inv X2 := by rw [hX2]; exact hnr.1
                    have hC02 := hM2.2.1
                    rw [← hX2] at hb2 hn2
                    refine z_iconst F dX7_bringAllLetters_87 ?_
                    refine z_istore_n (lv' := [(1, .int (zI (1))), (5, .ref (w.2.1 + (8 + 8 * j))), (0, .ref (w.2.1 + (0))), (2, .int (zI ((i : Int)))), (3, .ref (w.2.1 + (71 + i))), (4, .int (zI ((j : Int))))]) F dX7_bringAllLetters_88 rfl hl (by decide) rfl (fun ls hl => ?_)
                    refine z_iinc (k := 5) (z := (j : Int)) (lv' := [(4, .int (zI ((j : Int) + 1))), (1, .int (zI (1))), (5, .ref (w.2.1 + (8 + 8 * j))), (0, .ref (w.2.1 + (0))), (2, .int (zI ((i : Int)))), (3, .ref (w.2.1 + (71 + i)))]) F dX7_bringAllLetters_89 hl rfl (by decide) rfl (fun ls hl => ?_)
                    refine lv_goto (tgt := 34) F.1 F.2.1 dX7_bringAllLetters_92 (by decide) ?_
                    exact W.widen (Nat.le_refl _) (Nat.le_refl _) (ih_34 (j + 1) C2 X2 1 (by omega) (by omega) ⟨hM2, hI2⟩ ⟨by rw [hn2.2.1.1]; exact h34_3.1, Int.le_trans h34_3.2 hn2.2.2.2.2⟩ (Or.inr rfl) hb2.symm _ _ _ hZ (lv_sub hl [3, 1, 4, 5, 0] rfl))
          exact W.widen (Nat.le_refl _) (Nat.le_refl _) (L_34 ((Xy 64 0).toNat + 1) 0 Cy Xy b0 (by omega) (by omega) ⟨hMy, hIy⟩ ⟨rfl, Int.le_refl _⟩ h4_3 rfl _ _ _ hZ (lv_sub hl [2, 3, 4, 1, 0] rfl))
  exact W.widen (Nat.zero_le _) (Nat.zero_le _) (L_4 402 0 G X 0 (by omega) (by omega) ⟨by rw [mU_self hM.1.2.1.1]; exact hM, hI⟩ (Or.inl rfl) rfl _ _ _ hZ (lv_sub hl [2, 1, 0] rfl))
