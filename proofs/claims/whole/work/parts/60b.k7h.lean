theorem mX7_ringAllTimers_10 : Cond.fieldLink RX7 10 "LockedChain" "council" "LLockedChain$Council;" ∈ wsX7_ringAllTimers := by decide +kernel
theorem mX7_ringAllTimers_28 : Cond.fieldLink RX7 28 "LockedChain" "rules" "LLockedChain$Rules;" ∈ wsX7_ringAllTimers := by decide +kernel
set_option maxHeartbeats 4000000 in
set_option maxRecDepth 100000 in
theorem k_X7_ringAllTimers (l : Launch) (w : zW) (A : Nat → Prop) (hA : ∀ i, i < 64 ∨ 71 ≤ i → A (w.2.1 + i)) (mm : Nat) (G X : zM) (hM : Sim G X mm) (hI : Inv X) : Met l yX7_ringAllTimers wsX7_ringAllTimers { frames := 7, cells := (mU mm (ringT X).1 - mm), slots := (8 * (mU mm (ringT X).1 - mm)), locals := 155 } (zPre w (dC mm) (w.2.1 + (71 + mm)) G [.ref (w.2.1 + (0))]) (zQi w (dC (mU mm (ringT X).1)) (w.2.1 + (71 + mU mm (ringT X).1)) ((ringT X).2) (fun C => Sim C (ringT X).1 (mU mm (ringT X).1)) A) ((mU mm (ringT X).1 - mm)) ((8 * (mU mm (ringT X).1 - mm))) A := by
  refine Met.ofW (cc := cX7_ringAllTimers) (maxL := 5) (ret := (some .boolean)) (by decide) rfl ?_
  intro p e s m args below meth c s₁ B hml hv
  obtain ⟨rfl, hsz, hP, hK⟩ := hv
  have F : CallFix p m c cX7_ringAllTimers 5 s _ wsX7_ringAllTimers RX7 := ⟨B.exec, B.bytes, hml, findClass_of_methodNamed B.named, atoms_spec (ws := wsX7_ringAllTimers) B.pre⟩
  have hr := B.returns
  have hlocks := B.notSynchronized
  have hZ : Zs w (dC mm) A s.heap (w.2.1 + (71 + mm)) G s.heap [] := ⟨hsz, hP, va_S.rf⟩
  have hl := lv_entry ([.ref (w.2.1 + (0))]) (n := 5) (Nat.le_of_ble_eq_true rfl)
  rw [lg_entry_eq]
  generalize (lg_sl ([.ref (w.2.1 + (0))]) ++ List.replicate (5 - (lg_sl ([.ref (w.2.1 + (0))])).length) Slot.unset).toArray = ls at hl ⊢
  have hl : lv_has ls 5 [(0, .ref (w.2.1 + (0)))] := hl
  have hin7 : ∀ v ∈ u_ws RX7 TX7 6, v ∈ wsX7_ringAllTimers := by decide +kernel
  have hn := hI.1
  have hLL := hI.2.2.2.1
  have hS : PostS G X mm := hM.1
  obtain ⟨hS1, hS2, hS3, hS4, hS5⟩ := hM.1
  have hC0 := hM.2.1
  have hu := mU_c mm (ringT X).1
  rw [← mU_self hM.1.2.1.1] at hZ
  refine z_iconst F dX7_ringAllTimers_0 ?_
  refine z_istore_n (lv' := [(1, .int (zI (0))), (0, .ref (w.2.1 + (0)))]) F dX7_ringAllTimers_1 rfl hl (by decide) rfl (fun ls hl => ?_)
  refine z_iconst F dX7_ringAllTimers_2 ?_
  refine z_istore_n (lv' := [(2, .int (zI (0))), (1, .int (zI (0))), (0, .ref (w.2.1 + (0)))]) F dX7_ringAllTimers_3 rfl hl (by decide) rfl (fun ls hl => ?_)
  have L_4 : ∀ (nf : Nat) (i : Nat) (Cy Xy : zM) (b : Int), ((X 64 0).toNat + 1 ≤ i + nf) → (i ≤ (X 64 0).toNat) → (Sim Cy Xy (mU mm Xy) ∧ Inv Xy) → (Xy 64 0 = X 64 0) → (b = 0 ∨ b = 1) → (rgS ((X 64 0).toNat - i) i Xy b = ringT X) →  ∀ (H : Heap) (locs : List Loc) (ls : Array Slot), Zs w (dC (mU mm Xy)) A s.heap (w.2.1 + (71 + mU mm Xy)) Cy H locs → lv_has ls 5 [(0, .ref (w.2.1 + (0))), (1, .int (zI (b))), (2, .int (zI ((i : Int))))] → W p l e (headSpec wsX7_ringAllTimers { frames := 7, cells := (mU mm (ringT X).1 - mm), slots := (8 * (mU mm (ringT X).1 - mm)), locals := 155 }).room s m ([.ref (w.2.1 + (0))] : List Value).toArray below meth c H locs (mU mm Xy - mm) (8 * (mU mm Xy - mm)) (MQ below (zQi w (dC (mU mm (ringT X).1)) (w.2.1 + (71 + mU mm (ringT X).1)) ((ringT X).2) (fun C => Sim C (ringT X).1 (mU mm (ringT X).1)) A) ([.ref (w.2.1 + (0))] : List Value).toArray s ((mU mm (ringT X).1 - mm)) ((8 * (mU mm (ringT X).1 - mm))) A) (F0 m 4 ls []) := by
    intro nf
    induction nf with
    | zero => intro i  Cy Xy  b  h4_0 h4_1 h4_2 h4_3 h4_4 h4_5; exact absurd h4_0 (by omega)
    | succ nf ih_4 =>
      intro i  Cy Xy  b  h4_0 h4_1 h4_2 h4_3 h4_4 h4_5 H locs ls hZ hl
      have hMy := h4_2.1
      have hIy := h4_2.2
      have hC0y := hMy.2.1
      have hny := hIy.1
      have hLLy := hIy.2.2.2.1
      have hTy := (by have z := (Nx_rgS ((X 64 0).toNat - i) i h4_2.2 (by omega) h4_4).1.2.2.2.2; rw [h4_5] at z; exact z : Xy 64 7 ≤ (ringT X).1 64 7)
      refine z_iload_n F dX7_ringAllTimers_4 rfl (lv_at hl 2 rfl) ?_
      refine z_aload_n F dX7_ringAllTimers_5 rfl (lv_at hl 0 rfl) ?_
      refine z_get F hK hZ (0) (dC_s (by omega)) rfl (by decide) rfl hin7 0 (by decide) mX7_ringAllTimers_10 rfl rfl dX7_ringAllTimers_6 ?_
      refine z_bxi hZ (va_runV (As := []) (rest := [.int (zI ((i : Int)))]) F (k_X1_size l w (dC (mU mm Xy)) A (dC_A hA) (w.2.1 + (71 + (mU mm Xy))) Cy (fun i h => dC_s h)) (cwV 0 F.2.2.2.2 gX7_ringAllTimers_X1_size rfl rfl rfl (by decide +kernel) ⟨Nat.le_of_ble_eq_true rfl, Nat.le_of_ble_eq_true rfl⟩) (z_preV hK hZ (1) (dC_s (by omega)) rfl (by decide) rfl _) rfl rfl hl.1 rfl (lv_room (Nat.le_of_ble_eq_true rfl)) dX7_ringAllTimers_9 ⟨mU_at hTy, mU_at8 hTy⟩) (fun H locs hZ => ?_)
      refine z_topI (show Cy 1 0 = Xy 64 0 from hC0y.2.2) ?_
      refine z_icmp_ge (tgt := 75) F (by omega) (by omega) dX7_ringAllTimers_12 (by decide) (fun c_12 => ?_) (fun c_12 => ?_)
      · skip
        have hrs : ringT X = (Xy, b) := by rw [← h4_5, show (X 64 0).toNat - i = 0 by omega]; rfl
        have hst : (ringT X).1 = Xy := by rw [hrs]
        have hfin : Sim Cy (ringT X).1 (mU mm (ringT X).1) := by rw [hst]; exact hMy
        rw [← hst] at hZ
        refine z_iload_n F dX7_ringAllTimers_75 rfl (lv_at hl 1 rfl) ?_
        exact z_zret F hr hlocks hZ (by rw [hrs]) (by omega) hfin dX7_ringAllTimers_76 (by rw [hst]; exact Nat.le_refl _) (by rw [hst]; exact Nat.le_refl _)
      · skip
        have hTn : (rgK (i : Int) 3 0 Xy b).1 64 7 ≤ (ringT X).1 64 7 := by have z := (Nx_rgK (s := (i : Int)) 3 0 hIy (b := b) (by omega) (by omega) h4_4); have z2 := (Nx_rgS ((X 64 0).toNat - (i + 1)) (i + 1) z.1.1 (by rw [z.1.2.1.1]; omega) z.2).1.2.2.2.2; rw [← Nat.sub_sub, ← rgS_S (k := (X 64 0).toNat - i) (t := i) (M := Xy) (b := b) (by omega), h4_5] at z2; exact z2
        refine z_aload_n F dX7_ringAllTimers_15 rfl (lv_at hl 0 rfl) ?_
        refine z_iload_n F dX7_ringAllTimers_16 rfl (lv_at hl 2 rfl) ?_
        refine z_bxr hZ (va_runV (As := [.int (zI ((i : Int)))]) (rest := []) F (k_X7_honest l w (dC (mU mm Xy)) A (dC_A hA) (w.2.1 + (71 + (mU mm Xy))) Cy Xy (mU mm Xy) (fun i h => dC_s h) (fun i h => dC_l h) hMy hIy ((i : Int)) (by omega)) (cwV 1 F.2.2.2.2 gX7_ringAllTimers_X7_honest rfl rfl rfl (by decide +kernel) ⟨Nat.le_of_ble_eq_true rfl, Nat.le_of_ble_eq_true rfl⟩) (z_preV hK hZ (0) (dC_s (by omega)) rfl (by decide) rfl _) rfl rfl hl.1 rfl (lv_room (Nat.le_of_ble_eq_true rfl)) dX7_ringAllTimers_17 ⟨mU_at hTy, mU_at8 hTy⟩) (fun H locs hZ => ?_)
        refine z_vstore_n (lv' := [(3, zV w (hoV Xy ((i : Int)))), (0, .ref (w.2.1 + (0))), (1, .int (zI (b))), (2, .int (zI ((i : Int))))]) F dX7_ringAllTimers_20 rfl hl (by decide) (by unfold zV; (repeat' split) <;> rfl) (fun ls hl => ?_)
        obtain ⟨b0, hb0⟩ : ∃ q : Int, q = b := ⟨_, rfl⟩
        subst hb0
        refine z_iconst F dX7_ringAllTimers_21 ?_
        refine z_istore (lv' := [(4, .int (zI (0))), (3, zV w (hoV Xy ((i : Int)))), (0, .ref (w.2.1 + (0))), (1, .int (zI (b0))), (2, .int (zI ((i : Int))))]) F dX7_ringAllTimers_22 hl (by decide) (by unfold zV; (repeat' split) <;> rfl) (fun ls hl => ?_)
        have L_24 : ∀ (nf : Nat) (j : Nat) (Cz Xz : zM) (b : Int), (4 ≤ j + nf) → (j ≤ 3) → (Sim Cz Xz (mU mm Xz) ∧ Inv Xz) → (Xz 64 0 = Xy 64 0 ∧ Xz 65 = Xy 65) → (b = 0 ∨ b = 1) → (rgK (i : Int) (3 - j) j Xz b = rgK (i : Int) 3 0 Xy b0) →  ∀ (H : Heap) (locs : List Loc) (ls : Array Slot), Zs w (dC (mU mm Xz)) A s.heap (w.2.1 + (71 + mU mm Xz)) Cz H locs → lv_has ls 5 [(0, .ref (w.2.1 + (0))), (1, .int (zI (b))), (2, .int (zI ((i : Int)))), (3, zV w (hoV Xy ((i : Int)))), (4, .int (zI ((j : Int))))] → W p l e (headSpec wsX7_ringAllTimers { frames := 7, cells := (mU mm (ringT X).1 - mm), slots := (8 * (mU mm (ringT X).1 - mm)), locals := 155 }).room s m ([.ref (w.2.1 + (0))] : List Value).toArray below meth c H locs (mU mm Xz - mm) (8 * (mU mm Xz - mm)) (MQ below (zQi w (dC (mU mm (ringT X).1)) (w.2.1 + (71 + mU mm (ringT X).1)) ((ringT X).2) (fun C => Sim C (ringT X).1 (mU mm (ringT X).1)) A) ([.ref (w.2.1 + (0))] : List Value).toArray s ((mU mm (ringT X).1 - mm)) ((8 * (mU mm (ringT X).1 - mm))) A) (F0 m 24 ls []) := by
          intro nf
          induction nf with
          | zero => intro j  Cz Xz  b  h24_0 h24_1 h24_2 h24_3 h24_4 h24_5; exact absurd h24_0 (by omega)
          | succ nf ih_24 =>
            intro j  Cz Xz  b  h24_0 h24_1 h24_2 h24_3 h24_4 h24_5 H locs ls hZ hl
            have hMz := h24_2.1
            have hIz := h24_2.2
            have hC0z := hMz.2.1
            have hnz := hIz.1
            have hLLz := hIz.2.2.2.1
            have hTz := (by have z := (Nx_rgK (s := (i : Int)) (3 - j) j h24_2.2 (b := b) (by rw [h24_3.1]; omega) (by omega) h24_4).1.2.2.2.2; rw [h24_5] at z; exact Int.le_trans z hTn : Xz 64 7 ≤ (ringT X).1 64 7)
            refine z_iload F dX7_ringAllTimers_24 (lv_at hl 4 rfl) ?_
            refine z_iconst F dX7_ringAllTimers_26 ?_
            refine z_icmp_ge (tgt := 69) F (by omega) (by omega) dX7_ringAllTimers_27 (by decide) (fun c_27 => ?_) (fun c_27 => ?_)
            · skip
              have hrk : rgK (i : Int) 3 0 Xy b0 = (Xz, b) := by rw [← h24_5, show 3 - j = 0 by omega]; rfl
              refine z_iinc (k := 2) (z := (i : Int)) (lv' := [(2, .int (zI ((i : Int) + 1))), (0, .ref (w.2.1 + (0))), (1, .int (zI (b))), (3, zV w (hoV Xy ((i : Int)))), (4, .int (zI ((j : Int))))]) F dX7_ringAllTimers_69 hl rfl (by decide) (by unfold zV; (repeat' split) <;> rfl) (fun ls hl => ?_)
              refine lv_goto (tgt := 4) F.1 F.2.1 dX7_ringAllTimers_72 (by decide) ?_
              exact W.widen (Nat.le_refl _) (Nat.le_refl _) (ih_4 (i + 1) Cz Xz b (by omega) (by omega) h24_2 (by rw [h24_3.1]; exact h4_3) h24_4 (by rw [← h4_5, rgS_S (k := (X 64 0).toNat - i) (t := i) (M := Xy) (b := b0) (by omega), hrk, Nat.sub_sub]) _ _ _ hZ (lv_sub hl [1, 2, 0] rfl))
            · skip
              refine z_vload_n (w := w) F dX7_ringAllTimers_30 rfl (lv_at hl 3 rfl) ?_
              refine z_ifnull (tgt := 63) F dX7_ringAllTimers_31 (by decide) (fun c_31 => ?_) (fun c_31 => ?_)
              · skip
                have hnt : ¬ Xz 67 (20 * (i : Int) + (11 + (j : Int))) = 1 := tim_no hIz (by omega) (by omega) (by rw [h24_3.2]; exact hoV_neg (by omega) c_31)
                refine z_iinc (k := 4) (z := (j : Int)) (lv' := [(4, .int (zI ((j : Int) + 1))), (0, .ref (w.2.1 + (0))), (1, .int (zI (b))), (2, .int (zI ((i : Int)))), (3, zV w (hoV Xy ((i : Int))))]) F dX7_ringAllTimers_63 hl rfl (by decide) (by unfold zV; (repeat' split) <;> rfl) (fun ls hl => ?_)
                refine lv_goto (tgt := 24) F.1 F.2.1 dX7_ringAllTimers_66 (by decide) ?_
                exact W.widen (Nat.le_refl _) (Nat.le_refl _) (ih_24 (j + 1) Cz Xz b (by omega) (by omega) h24_2 h24_3 h24_4 (by rw [← h24_5, rgK_f (s := (i : Int)) (k := 3 - j) (t := j) (M := Xz) (b := b) (by omega) hnt, Nat.sub_sub]) _ _ _ hZ (lv_sub hl [1, 2, 3, 4, 0] (by unfold zV; (repeat' split) <;> rfl)))
              · skip
                obtain ⟨hj_i, hj0_i, hf_i, hz_i⟩ := hoV_pos hny (by assumption)
                have hl0 := hl
                rw [hz_i, zV_nat] at hl
                refine z_aload_n F dX7_ringAllTimers_34 rfl (lv_at hl 3 rfl) ?_
                refine z_iload F dX7_ringAllTimers_35 (lv_at hl 4 rfl) ?_
                refine z_bxi hZ (va_runV (As := [.int (zI ((j : Int)))]) (rest := []) F (k_X6_isSet l w (dC (mU mm Xz)) A (dC_A hA) (w.2.1 + (71 + (mU mm Xz))) Cz (fun i h => dC_s h) i hj_i ((j : Int)) (by omega)) (cwV 1 F.2.2.2.2 gX7_ringAllTimers_X6_isSet rfl rfl rfl (by decide +kernel) ⟨Nat.le_of_ble_eq_true rfl, Nat.le_of_ble_eq_true rfl⟩) (z_preV hK hZ (8 + 8 * i) (dC_s (by omega)) (shp_seat i hj_i) (by decide) rfl _) rfl rfl hl.1 rfl (lv_room (Nat.le_of_ble_eq_true rfl)) dX7_ringAllTimers_37 ⟨mU_at hTz, mU_at8 hTz⟩) (fun H locs hZ => ?_)
                refine z_topI (tm_set hMz hIz (j := i) (k := (j : Int)) (by omega) (by omega)) ?_
                refine z_ifB_eq (tgt := 63) F dX7_ringAllTimers_40 (by decide) (fun c_40 => ?_) (fun c_40 => ?_)
                · skip
                  have hnt : ¬ Xz 67 (20 * (i : Int) + (11 + (j : Int))) = 1 := by omega
                  refine z_iinc (k := 4) (z := (j : Int)) (lv' := [(4, .int (zI ((j : Int) + 1))), (0, .ref (w.2.1 + (0))), (1, .int (zI (b))), (2, .int (zI ((i : Int)))), (3, .ref (w.2.1 + (8 + 8 * i)))]) F dX7_ringAllTimers_63 hl rfl (by decide) rfl (fun ls hl => ?_)
                  refine lv_goto (tgt := 24) F.1 F.2.1 dX7_ringAllTimers_66 (by decide) ?_
                  exact W.widen (Nat.le_refl _) (Nat.le_refl _) (ih_24 (j + 1) Cz Xz b (by omega) (by omega) h24_2 h24_3 h24_4 (by rw [← h24_5, rgK_f (s := (i : Int)) (k := 3 - j) (t := j) (M := Xz) (b := b) (by omega) hnt, Nat.sub_sub]) _ _ _ hZ (lv_sub hl [1, 2, 3, 4, 0] (by rw [hz_i, zV_nat]; rfl)))
                · skip
                  refine z_aload_n F dX7_ringAllTimers_43 rfl (lv_at hl 0 rfl) ?_
                  refine z_get F hK hZ (0) (dC_s (by omega)) rfl (by decide) rfl hin7 2 (by decide) mX7_ringAllTimers_28 rfl rfl dX7_ringAllTimers_44 ?_
                  refine z_aload_n F dX7_ringAllTimers_47 rfl (lv_at hl 3 rfl) ?_
                  refine z_iload F dX7_ringAllTimers_48 (lv_at hl 4 rfl) ?_
                  have hts := tim_set hIz (s := (i : Int)) (k := (j : Int)) (by omega) (by omega) c_40
                  have hns := Nx_ring hIz (s := (i : Int)) (k := (j : Int)) (by omega) (by omega) hts.1 hts.2.1
                  have hnr := Nx_rules hns.1 (s := (i : Int)) (by rw [hns.2.1.1]; omega)
                  have hn2 := hns.tr hnr
                  have hb2 : rgK (i : Int) 3 0 Xy b0 = rgK (i : Int) (3 - (j + 1)) (j + 1) (rulesM (ringM Xz (i : Int) (j : Int)) (i : Int)) 1 := by have z := h24_5.symm.trans (rgK_t (s := (i : Int)) (k := 3 - j) (t := j) (M := Xz) (b := b) (by omega) hts.2.2.1); rw [Nat.sub_sub] at z; exact z
                  have hT2 : (rulesM (ringM Xz (i : Int) (j : Int)) (i : Int)) 64 7 ≤ (ringT X).1 64 7 := by have z := (Nx_rgK (s := (i : Int)) (3 - (j + 1)) (j + 1) hnr.1 (b := 1) (by rw [hn2.2.1.1]; omega) (by omega) (Or.inr rfl)).1.2.2.2.2; rw [← hb2] at z; exact Int.le_trans z hTn
                  have hle1 : Xz 64 7 ≤ (ringM Xz i ((j : Int))) 64 7 := hns.2.2.2.2
                  have hT1 : (ringM Xz i ((j : Int))) 64 7 ≤ (ringT X).1 64 7 := Int.le_trans hnr.2.2.2.2 hT2
                  refine z_backv hZ (va_runV (As := [.ref (w.2.1 + (8 + 8 * i)), .int (zI ((j : Int)))]) (rest := []) F (k_X5_ring l w A hA (mU mm Xz) Cz Xz hMz hIz i (by omega) hts.2.1 ((j : Int)) (by omega) hts.2.2.1) (cwV 2 F.2.2.2.2 gX7_ringAllTimers_X5_ring rfl rfl rfl (by decide +kernel) ⟨Nat.le_of_ble_eq_true rfl, Nat.le_of_ble_eq_true rfl⟩) (z_preV hK hZ (6) (dC_s (by omega)) rfl (by decide) rfl _) rfl rfl hl.1 rfl (lv_room (Nat.le_of_ble_eq_true rfl)) dX7_ringAllTimers_50 ⟨mU_st hle1 hT1, mU_st8 hle1 hT1⟩) (fun C1 H locs hC1 hZ => ?_)
                  have hq1 : mU (mU mm Xz) (ringM Xz i ((j : Int))) = mU mm (ringM Xz i ((j : Int))) := mU_mU hle1
                  rw [hq1] at hZ hC1
                  refine W.widen (show mU mm Xz - mm + 0 + (mU (mU mm Xz) (ringM Xz i ((j : Int))) - (mU mm Xz)) ≤ mU mm (ringM Xz i ((j : Int))) - mm from mU_st hle1 (Int.le_refl _)) (show 8 * (mU mm Xz - mm) + 0 + (8 * (mU (mU mm Xz) (ringM Xz i ((j : Int))) - (mU mm Xz))) ≤ 8 * (mU mm (ringM Xz i ((j : Int))) - mm) from mU_st8 hle1 (Int.le_refl _)) ?_
                  obtain ⟨X1, hX1⟩ : ∃ zz : zM, zz = (ringM Xz i ((j : Int))) := ⟨_, rfl⟩
                  rw [← hX1] at hZ hC1 hT1 hle1
                  rw [← hX1]
                  have hM1 := hC1
                  have hI1 : Inv X1 := by rw [hX1]; exact hns.1
                  have hC01 := hM1.2.1
                  rw [← hX1] at hns hnr hn2 hb2 hT2
                  have h651 : X1 65 (i : Int) = 0 := by rw [hns.2.2.1]; exact hts.1
                  have h6401 : X1 64 0 = Xz 64 0 := hns.2.1.1
                  refine z_aload_n F dX7_ringAllTimers_53 rfl (lv_at hl 0 rfl) ?_
                  refine z_get F hK hZ (0) (dC_s (by omega)) rfl (by decide) rfl hin7 2 (by decide) mX7_ringAllTimers_28 rfl rfl dX7_ringAllTimers_54 ?_
                  refine z_aload_n F dX7_ringAllTimers_57 rfl (lv_at hl 3 rfl) ?_
                  have hle2 : X1 64 7 ≤ (rulesM X1 i) 64 7 := hnr.2.2.2.2
                  have hT2 : (rulesM X1 i) 64 7 ≤ (ringT X).1 64 7 := hT2
                  refine z_backv hZ (va_runV (As := [.ref (w.2.1 + (8 + 8 * i))]) (rest := []) F (k_X5_go l w A hA (mU mm X1) C1 X1 hM1 hI1 i (by omega) h651) (cwV 1 F.2.2.2.2 gX7_ringAllTimers_X5_go rfl rfl rfl (by decide +kernel) ⟨Nat.le_of_ble_eq_true rfl, Nat.le_of_ble_eq_true rfl⟩) (z_preV hK hZ (6) (dC_s (by omega)) rfl (by decide) rfl _) rfl rfl hl.1 rfl (lv_room (Nat.le_of_ble_eq_true rfl)) dX7_ringAllTimers_58 ⟨mU_st hle2 hT2, mU_st8 hle2 hT2⟩) (fun C2 H locs hC2 hZ => ?_)
                  have hq2 : mU (mU mm X1) (rulesM X1 i) = mU mm (rulesM X1 i) := mU_mU hle2
                  rw [hq2] at hZ hC2
                  refine W.widen (show mU mm X1 - mm + (mU (mU mm X1) (rulesM X1 i) - (mU mm X1)) ≤ mU mm (rulesM X1 i) - mm from mU_st hle2 (Int.le_refl _)) (show 8 * (mU mm X1 - mm) + (8 * (mU (mU mm X1) (rulesM X1 i) - (mU mm X1))) ≤ 8 * (mU mm (rulesM X1 i) - mm) from mU_st8 hle2 (Int.le_refl _)) ?_
                  obtain ⟨X2, hX2⟩ : ∃ zz : zM, zz = (rulesM X1 i) := ⟨_, rfl⟩
                  rw [← hX2] at hZ hC2 hT2 hle2
                  rw [← hX2]
                  have hM2 := hC2
                  have hI2 : Inv X2 := by rw [hX2]; exact hnr.1
                  have hC02 := hM2.2.1
                  rw [← hX2] at hb2 hn2
                  refine z_iconst F dX7_ringAllTimers_61 ?_
                  refine z_istore_n (lv' := [(1, .int (zI (1))), (0, .ref (w.2.1 + (0))), (2, .int (zI ((i : Int)))), (3, .ref (w.2.1 + (8 + 8 * i))), (4, .int (zI ((j : Int))))]) F dX7_ringAllTimers_62 rfl hl (by decide) rfl (fun ls hl => ?_)
                  refine z_iinc (k := 4) (z := (j : Int)) (lv' := [(4, .int (zI ((j : Int) + 1))), (1, .int (zI (1))), (0, .ref (w.2.1 + (0))), (2, .int (zI ((i : Int)))), (3, .ref (w.2.1 + (8 + 8 * i)))]) F dX7_ringAllTimers_63 hl rfl (by decide) rfl (fun ls hl => ?_)
                  refine lv_goto (tgt := 24) F.1 F.2.1 dX7_ringAllTimers_66 (by decide) ?_
                  exact W.widen (Nat.le_refl _) (Nat.le_refl _) (ih_24 (j + 1) C2 X2 1 (by omega) (by omega) ⟨hM2, hI2⟩ ⟨by rw [hn2.2.1.1]; exact h24_3.1, by rw [hn2.2.2.1]; exact h24_3.2⟩ (Or.inr rfl) hb2.symm _ _ _ hZ (lv_sub hl [2, 1, 3, 4, 0] (by rw [hz_i, zV_nat]; rfl)))
        exact W.widen (Nat.le_refl _) (Nat.le_refl _) (L_24 4 0 Cy Xy b0 (by omega) (by omega) ⟨hMy, hIy⟩ ⟨rfl, rfl⟩ h4_4 rfl _ _ _ hZ (lv_sub hl [2, 3, 4, 1, 0] (by unfold zV; (repeat' split) <;> rfl)))
  exact W.widen (Nat.zero_le _) (Nat.zero_le _) (L_4 ((X 64 0).toNat + 1) 0 G X 0 (by omega) (by omega) ⟨by rw [mU_self hM.1.2.1.1]; exact hM, hI⟩ rfl (Or.inl rfl) rfl _ _ _ hZ (lv_sub hl [2, 1, 0] rfl))
