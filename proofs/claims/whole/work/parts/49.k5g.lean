set_option maxHeartbeats 4000000 in
set_option maxRecDepth 100000 in
theorem k_X5_go (l : Launch) (w : zW) (A : Nat → Prop) (hA : ∀ i, i < 64 ∨ 71 ≤ i → A (w.2.1 + i)) (mm : Nat) (G X : zM) (hM : Sim G X mm) (hI : Inv X) (j : Nat) (hj0 : (j : Int) < X 64 0) (hf : X 65 (j : Int) = 0) : Met l yX5_go wsX5_go { frames := 6, cells := (mU mm (rulesM X j) - mm), slots := (8 * (mU mm (rulesM X j) - mm)), locals := 132 } (zPre w (dC mm) (w.2.1 + (71 + mm)) G [.ref (w.2.1 + (6)), .ref (w.2.1 + (8 + 8 * j))]) (zQv w (dC (mU mm (rulesM X j))) (w.2.1 + (71 + mU mm (rulesM X j))) (fun C => Sim C (rulesM X j) (mU mm (rulesM X j))) A) ((mU mm (rulesM X j) - mm)) ((8 * (mU mm (rulesM X j) - mm))) A := by
  refine Met.ofW (cc := cX5_go) (maxL := 4) (ret := none) (by decide) rfl ?_
  intro p e s m args below meth c s₁ B hml hv
  obtain ⟨rfl, hsz, hP, hK⟩ := hv
  have F : CallFix p m c cX5_go 4 s _ wsX5_go RX5 := ⟨B.exec, B.bytes, hml, findClass_of_methodNamed B.named, atoms_spec (ws := wsX5_go) B.pre⟩
  have hr := B.returns
  have hlocks := B.notSynchronized
  have hZ : Zs w (dC mm) A s.heap (w.2.1 + (71 + mm)) G s.heap [] := ⟨hsz, hP, va_S.rf⟩
  have hl := lv_entry ([.ref (w.2.1 + (6)), .ref (w.2.1 + (8 + 8 * j))]) (n := 4) (Nat.le_of_ble_eq_true rfl)
  rw [lg_entry_eq]
  generalize (lg_sl ([.ref (w.2.1 + (6)), .ref (w.2.1 + (8 + 8 * j))]) ++ List.replicate (4 - (lg_sl ([.ref (w.2.1 + (6)), .ref (w.2.1 + (8 + 8 * j))])).length) Slot.unset).toArray = ls at hl ⊢
  have hl : lv_has ls 4 [(0, .ref (w.2.1 + (6))), (1, .ref (w.2.1 + (8 + 8 * j)))] := hl
  have hn := hI.1
  have hLL := hI.2.2.2.1
  have hj : j < 7 := by omega
  have hmx := muI_rng hI (s := (j : Int)) (by omega)
  refine z_iconst F dX5_go_0 ?_
  refine z_istore_n (lv' := [(2, .int (zI (1))), (0, .ref (w.2.1 + (6))), (1, .ref (w.2.1 + (8 + 8 * j)))]) F dX5_go_1 rfl hl (by decide) rfl (fun ls hl => ?_)
  refine z_iconst F dX5_go_2 ?_
  refine z_istore_n (lv' := [(3, .int (zI (0))), (2, .int (zI (1))), (0, .ref (w.2.1 + (6))), (1, .ref (w.2.1 + (8 + 8 * j)))]) F dX5_go_3 rfl hl (by decide) rfl (fun ls hl => ?_)
  have L_4 : ∀ (nf : Nat) (i : Nat) (b : Int) (Cy Xy : zM) (u : Nat), (9005 ≤ i + nf) → ((i : Int) + muI Xy j ≤ 9001 - b) → (b = 0 ∨ b = 1) → (Sim Cy Xy u) → (Inv Xy) → (Nx X Xy) → ((b = 1 ∧ rulesM Xy j = (rulesM X j)) ∨ (b = 0 ∧ Xy = (rulesM X j))) → (u = mU mm Xy) → (i ≤ 9001) →  ∀ (H : Heap) (locs : List Loc) (ls : Array Slot), Zs w (dC u) A s.heap (w.2.1 + (71 + u)) Cy H locs → lv_has ls 4 [(0, .ref (w.2.1 + (6))), (1, .ref (w.2.1 + (8 + 8 * j))), (2, .int (zI (b))), (3, .int (zI ((i : Int))))] → W p l e (headSpec wsX5_go { frames := 6, cells := (mU mm (rulesM X j) - mm), slots := (8 * (mU mm (rulesM X j) - mm)), locals := 132 }).room s m ([.ref (w.2.1 + (6)), .ref (w.2.1 + (8 + 8 * j))] : List Value).toArray below meth c H locs (u - mm) (8 * (u - mm)) (MQ below (zQv w (dC (mU mm (rulesM X j))) (w.2.1 + (71 + mU mm (rulesM X j))) (fun C => Sim C (rulesM X j) (mU mm (rulesM X j))) A) ([.ref (w.2.1 + (6)), .ref (w.2.1 + (8 + 8 * j))] : List Value).toArray s ((mU mm (rulesM X j) - mm)) ((8 * (mU mm (rulesM X j) - mm))) A) (F0 m 4 ls []) := by
    intro nf
    induction nf with
    | zero => intro i  b  Cy Xy  u  h4_0 h4_1 h4_2 h4_3 h4_4 h4_5 h4_6 h4_7 h4_8; exact absurd h4_0 (by omega)
    | succ nf ih_4 =>
      intro i  b  Cy Xy  u  h4_0 h4_1 h4_2 h4_3 h4_4 h4_5 h4_6 h4_7 h4_8 H locs ls hZ hl
      have hMy := h4_3
      have hIy := h4_4
      have hjy : 0 ≤ (j : Int) ∧ (j : Int) < Xy 64 0 := by rw [h4_5.2.1.1]; omega
      have hfy : Xy 65 (j : Int) = 0 := by rw [h4_5.2.2.1]; exact hf
      have sfy := Sim_f hMy hj
      have hny := hIy.1
      have hry := muI_rng hIy (s := (j : Int)) (by omega)
      have hmu : mm ≤ u := by rw [h4_7]; exact mU_ge _ _
      have hfl : Xy 64 7 ≤ (rulesM X j) 64 7 := h4_6.elim (fun z => by rw [← z.2]; exact (Nx_rules hIy hjy).2.2.2.2) (fun z => by rw [← z.2]; exact Int.le_refl _)
      have hmUt : ∀ {D : zM}, D 64 7 ≤ (rulesM X j) 64 7 → mU u D ≤ mU mm (rulesM X j) := fun h => by rw [h4_7]; exact mU_two hfl h
      have hut0 : u ≤ mU mm (rulesM X j) := by rw [h4_7]; exact mU_mono hfl
      refine z_iload_n F dX5_go_4 rfl (lv_at hl 3 rfl) ?_
      refine z_ldc F (v := 1000000) 1000000 (by decide) (by decide +kernel) dX5_go_5 ?_
      refine z_icmp_ge (tgt := 97) F (by omega) (by omega) dX5_go_7 (by decide) (fun c_7 => ?_) (fun c_7 => ?_)
      · skip
        exfalso; omega
      · skip
        refine z_iload_n F dX5_go_10 rfl (lv_at hl 2 rfl) ?_
        refine z_if_eq (tgt := 97) F (by omega) dX5_go_11 (by decide) (fun c_11 => ?_) (fun c_11 => ?_)
        · skip
          have hst : (rulesM X j) = Xy := (h4_6.resolve_left (fun z => by have z1 := z.1; omega)).2.symm
          have hue : u = mU mm (rulesM X j) := by rw [hst]; exact h4_7
          have hfin : Sim (Cy) (rulesM X j) (mU mm (rulesM X j)) := by rw [← hue, hst]; exact hMy
          have hce : u - mm ≤ mU mm (rulesM X j) - mm := by rw [← hue]; exact Nat.le_refl _
          rw [hue] at hZ
          exact z_vret F hr hlocks hZ hfin dX5_go_97 hce (Nat.mul_le_mul_left 8 hce)
        · skip
          have hRy : rulesM Xy j = (rulesM X j) := (h4_6.resolve_right (fun z => by have z1 := z.1; omega)).2
          have hb1 : b = 1 := by omega
          clear h4_2 h4_6
          refine z_aload_n F dX5_go_14 rfl (lv_at hl 1 rfl) ?_
          refine z_bxi hZ (va_runV (As := []) (rest := []) F (k_X6_isDone l w (dC u) A (dC_A hA) (w.2.1 + (71 + u)) Cy (fun i h => dC_s h) j hj) (cwV 0 F.2.2.2.2 gX5_go_X6_isDone rfl rfl rfl (by decide +kernel) ⟨Nat.le_of_ble_eq_true rfl, Nat.le_of_ble_eq_true rfl⟩) (z_preV hK hZ (8 + 8 * j) (dC_s (by omega)) (shp_seat j hj) (by decide) rfl _) rfl rfl hl.1 rfl (lv_room (Nat.le_of_ble_eq_true rfl)) dX5_go_15 ⟨rm_a hmu hut0, rm_a8 hmu hut0⟩) (fun H locs hZ => ?_)
          refine z_ifB_ne (tgt := 97) F dX5_go_18 (by decide) (fun c_18 => ?_) (fun c_18 => ?_)
          · skip
            have hst : (rulesM X j) = Xy := by rw [← hRy]; exact go_end (by omega)
            have hue : u = mU mm (rulesM X j) := by rw [hst]; exact h4_7
            have hfin : Sim (Cy) (rulesM X j) (mU mm (rulesM X j)) := by rw [← hue, hst]; exact hMy
            have hce : u - mm ≤ mU mm (rulesM X j) - mm := by rw [← hue]; exact Nat.le_refl _
            rw [hue] at hZ
            exact z_vret F hr hlocks hZ hfin dX5_go_97 hce (Nat.mul_le_mul_left 8 hce)
          · skip
            have hhy : Xy 67 (20 * (j : Int) + 0) ≤ 5 := by omega
            refine z_aload_n F dX5_go_21 rfl (lv_at hl 0 rfl) ?_
            refine z_aload_n F dX5_go_22 rfl (lv_at hl 1 rfl) ?_
            have huC0 := mU_ge u ((decidesM Xy j).getD Xy)
            have hD0 : ((decidesM Xy j).getD Xy) 64 7 ≤ (rulesM X j) 64 7 := by have z := go_le hIy hjy hfy hhy (decidesM Xy j) (fun hb => by rw [fits8, orM_yes hb]; exact some_getD hb); rw [hRy] at z; exact z
            have hvC0 : mU u ((decidesM Xy j).getD Xy) ≤ mU mm (rulesM X j) := hmUt hD0
            refine z_backi hZ (va_runV (As := [.ref (w.2.1 + (8 + 8 * j))]) (rest := []) F (k_X5_decides l w A hA u Cy Xy hMy hIy j (by omega) (by omega)) (cwV 1 F.2.2.2.2 gX5_go_X5_decides rfl rfl rfl (by decide +kernel) ⟨Nat.le_of_ble_eq_true rfl, Nat.le_of_ble_eq_true rfl⟩) (z_preV hK hZ (6) (dC_s (by omega)) rfl (by decide) rfl _) rfl rfl hl.1 rfl (lv_room (Nat.le_of_ble_eq_true rfl)) dX5_go_23 ⟨rm_b hmu huC0 hvC0, rm_b8 hmu huC0 hvC0⟩) (fun C0 H locs hC0 hZ => ?_)
            refine z_ifB_ne (tgt := 85) F dX5_go_26 (by decide) (fun c_26 => ?_) (fun c_26 => ?_)
            · skip
              have hfe : fitsM Xy j = some ((decidesM Xy j).getD Xy) := by rw [fits8, orM_yes c_26]; exact some_getD c_26
              have hgo := go_step hIy hjy hfy hhy hfe
              have hMt : Sim C0 (tickM ((decidesM Xy j).getD Xy) j) (mU u ((decidesM Xy j).getD Xy)) := Sim_tick hC0 hj
              have hut : mU u ((decidesM Xy j).getD Xy) = mU mm (tickM ((decidesM Xy j).getD Xy) j) := by rw [mU_tick, h4_7]; exact mU_mU (by have z := hgo.2.1.2.2.2.2; unfold tickM at z; rw [setM_cell _ _ _ _ (by decide)] at z; exact z)
              refine z_iconst F dX5_go_85 ?_
              refine lv_goto (tgt := 90) F.1 F.2.1 dX5_go_86 (by decide) ?_
              refine z_istore_n (lv' := [(2, .int (zI (1))), (0, .ref (w.2.1 + (6))), (1, .ref (w.2.1 + (8 + 8 * j))), (3, .int (zI ((i : Int))))]) F dX5_go_90 rfl hl (by decide) rfl (fun ls hl => ?_)
              refine z_iinc (k := 3) (z := (i : Int)) (lv' := [(3, .int (zI ((i : Int) + 1))), (2, .int (zI (1))), (0, .ref (w.2.1 + (6))), (1, .ref (w.2.1 + (8 + 8 * j)))]) F dX5_go_91 hl rfl (by decide) rfl (fun ls hl => ?_)
              refine lv_goto (tgt := 4) F.1 F.2.1 dX5_go_94 (by decide) ?_
              exact W.widen (rm_w hmu huC0) (rm_w8 hmu huC0) (ih_4 (i + 1) 1 C0 (tickM ((decidesM Xy j).getD Xy) j) (mU u ((decidesM Xy j).getD Xy)) (by omega) (by have z := hgo.2.2; omega) (Or.inr rfl) hMt hgo.2.1.1 (h4_5.tr hgo.2.1) (Or.inl ⟨rfl, by rw [← hgo.1]; exact hRy⟩) hut (by have z := hgo.2.2; have z2 := muI_rng hgo.2.1.1 (s := (j : Int)) (by omega); omega) _ _ _ hZ (lv_sub hl [2, 3, 1, 0] rfl))
            · skip
              have hg0 : ((decidesM Xy j).getD Xy) = Xy := getD_no c_26
              have hz0 : mU u ((decidesM Xy j).getD Xy) = u := by rw [hg0]; exact mU_self hMy.1.2.1.1
              have hMy : Sim C0 Xy u := by have z := hC0; rw [hz0, hg0] at z; exact z
              rw [hz0] at hZ
              refine W.widen (show u - mm + 0 + (mU u ((decidesM Xy j).getD Xy) - u) ≤ u - mm by rw [hz0]; exact rm_0 _ _) (show 8 * (u - mm) + 0 + (8 * (mU u ((decidesM Xy j).getD Xy) - u)) ≤ 8 * (u - mm) by rw [hz0]; exact rm_8 _ _) ?_
              clear huC0 hvC0
              refine z_aload_n F dX5_go_29 rfl (lv_at hl 0 rfl) ?_
              refine z_aload_n F dX5_go_30 rfl (lv_at hl 1 rfl) ?_
              have huC1 := mU_ge u ((jumpsM Xy j).getD Xy)
              have hD1 : ((jumpsM Xy j).getD Xy) 64 7 ≤ (rulesM X j) 64 7 := by have z := go_le hIy hjy hfy hhy (jumpsM Xy j) (fun hb => by rw [fits8, orM_no c_26, orM_yes hb]; exact some_getD hb); rw [hRy] at z; exact z
              have hvC1 : mU u ((jumpsM Xy j).getD Xy) ≤ mU mm (rulesM X j) := hmUt hD1
              refine z_backi hZ (va_runV (As := [.ref (w.2.1 + (8 + 8 * j))]) (rest := []) F (k_X5_catchesUp l w A hA u C0 Xy hMy hIy j (by omega) (by omega)) (cwV 1 F.2.2.2.2 gX5_go_X5_catchesUp rfl rfl rfl (by decide +kernel) ⟨Nat.le_of_ble_eq_true rfl, Nat.le_of_ble_eq_true rfl⟩) (z_preV hK hZ (6) (dC_s (by omega)) rfl (by decide) rfl _) rfl rfl hl.1 rfl (lv_room (Nat.le_of_ble_eq_true rfl)) dX5_go_31 ⟨rm_b hmu huC1 hvC1, rm_b8 hmu huC1 hvC1⟩) (fun C1 H locs hC1 hZ => ?_)
              refine z_ifB_ne (tgt := 85) F dX5_go_34 (by decide) (fun c_34 => ?_) (fun c_34 => ?_)
              · skip
                have hfe : fitsM Xy j = some ((jumpsM Xy j).getD Xy) := by rw [fits8, orM_no c_26, orM_yes c_34]; exact some_getD c_34
                have hgo := go_step hIy hjy hfy hhy hfe
                have hMt : Sim C1 (tickM ((jumpsM Xy j).getD Xy) j) (mU u ((jumpsM Xy j).getD Xy)) := Sim_tick hC1 hj
                have hut : mU u ((jumpsM Xy j).getD Xy) = mU mm (tickM ((jumpsM Xy j).getD Xy) j) := by rw [mU_tick, h4_7]; exact mU_mU (by have z := hgo.2.1.2.2.2.2; unfold tickM at z; rw [setM_cell _ _ _ _ (by decide)] at z; exact z)
                refine z_iconst F dX5_go_85 ?_
                refine lv_goto (tgt := 90) F.1 F.2.1 dX5_go_86 (by decide) ?_
                refine z_istore_n (lv' := [(2, .int (zI (1))), (0, .ref (w.2.1 + (6))), (1, .ref (w.2.1 + (8 + 8 * j))), (3, .int (zI ((i : Int))))]) F dX5_go_90 rfl hl (by decide) rfl (fun ls hl => ?_)
                refine z_iinc (k := 3) (z := (i : Int)) (lv' := [(3, .int (zI ((i : Int) + 1))), (2, .int (zI (1))), (0, .ref (w.2.1 + (6))), (1, .ref (w.2.1 + (8 + 8 * j)))]) F dX5_go_91 hl rfl (by decide) rfl (fun ls hl => ?_)
                refine lv_goto (tgt := 4) F.1 F.2.1 dX5_go_94 (by decide) ?_
                exact W.widen (rm_w hmu huC1) (rm_w8 hmu huC1) (ih_4 (i + 1) 1 C1 (tickM ((jumpsM Xy j).getD Xy) j) (mU u ((jumpsM Xy j).getD Xy)) (by omega) (by have z := hgo.2.2; omega) (Or.inr rfl) hMt hgo.2.1.1 (h4_5.tr hgo.2.1) (Or.inl ⟨rfl, by rw [← hgo.1]; exact hRy⟩) hut (by have z := hgo.2.2; have z2 := muI_rng hgo.2.1.1 (s := (j : Int)) (by omega); omega) _ _ _ hZ (lv_sub hl [2, 3, 1, 0] rfl))
              · skip
                have hg1 : ((jumpsM Xy j).getD Xy) = Xy := getD_no c_34
                have hz1 : mU u ((jumpsM Xy j).getD Xy) = u := by rw [hg1]; exact mU_self hMy.1.2.1.1
                have hMy : Sim C1 Xy u := by have z := hC1; rw [hz1, hg1] at z; exact z
                rw [hz1] at hZ
                refine W.widen (show u - mm + (mU u ((jumpsM Xy j).getD Xy) - u) ≤ u - mm by rw [hz1]; exact rm_0 _ _) (show 8 * (u - mm) + (8 * (mU u ((jumpsM Xy j).getD Xy) - u)) ≤ 8 * (u - mm) by rw [hz1]; exact rm_8 _ _) ?_
                clear huC1 hvC1
                refine z_aload_n F dX5_go_37 rfl (lv_at hl 0 rfl) ?_
                refine z_aload_n F dX5_go_38 rfl (lv_at hl 1 rfl) ?_
                have huC2 := mU_ge u ((prevN Xy j).getD Xy)
                have hD2 : ((prevN Xy j).getD Xy) 64 7 ≤ (rulesM X j) 64 7 := by have z := go_le hIy hjy hfy hhy (prevN Xy j) (fun hb => by rw [fits8, orM_no c_26, orM_no c_34, orM_yes hb]; exact some_getD hb); rw [hRy] at z; exact z
                have hvC2 : mU u ((prevN Xy j).getD Xy) ≤ mU mm (rulesM X j) := hmUt hD2
                refine z_backi hZ (va_runV (As := [.ref (w.2.1 + (8 + 8 * j))]) (rest := []) F (k_X5_prevotesNew l w A hA u C1 Xy hMy hIy j (by omega) (by omega)) (cwV 1 F.2.2.2.2 gX5_go_X5_prevotesNew rfl rfl rfl (by decide +kernel) ⟨Nat.le_of_ble_eq_true rfl, Nat.le_of_ble_eq_true rfl⟩) (z_preV hK hZ (6) (dC_s (by omega)) rfl (by decide) rfl _) rfl rfl hl.1 rfl (lv_room (Nat.le_of_ble_eq_true rfl)) dX5_go_39 ⟨rm_b hmu huC2 hvC2, rm_b8 hmu huC2 hvC2⟩) (fun C2 H locs hC2 hZ => ?_)
                refine z_ifB_ne (tgt := 85) F dX5_go_42 (by decide) (fun c_42 => ?_) (fun c_42 => ?_)
                · skip
                  have hfe : fitsM Xy j = some ((prevN Xy j).getD Xy) := by rw [fits8, orM_no c_26, orM_no c_34, orM_yes c_42]; exact some_getD c_42
                  have hgo := go_step hIy hjy hfy hhy hfe
                  have hMt : Sim C2 (tickM ((prevN Xy j).getD Xy) j) (mU u ((prevN Xy j).getD Xy)) := Sim_tick hC2 hj
                  have hut : mU u ((prevN Xy j).getD Xy) = mU mm (tickM ((prevN Xy j).getD Xy) j) := by rw [mU_tick, h4_7]; exact mU_mU (by have z := hgo.2.1.2.2.2.2; unfold tickM at z; rw [setM_cell _ _ _ _ (by decide)] at z; exact z)
                  refine z_iconst F dX5_go_85 ?_
                  refine lv_goto (tgt := 90) F.1 F.2.1 dX5_go_86 (by decide) ?_
                  refine z_istore_n (lv' := [(2, .int (zI (1))), (0, .ref (w.2.1 + (6))), (1, .ref (w.2.1 + (8 + 8 * j))), (3, .int (zI ((i : Int))))]) F dX5_go_90 rfl hl (by decide) rfl (fun ls hl => ?_)
                  refine z_iinc (k := 3) (z := (i : Int)) (lv' := [(3, .int (zI ((i : Int) + 1))), (2, .int (zI (1))), (0, .ref (w.2.1 + (6))), (1, .ref (w.2.1 + (8 + 8 * j)))]) F dX5_go_91 hl rfl (by decide) rfl (fun ls hl => ?_)
                  refine lv_goto (tgt := 4) F.1 F.2.1 dX5_go_94 (by decide) ?_
                  exact W.widen (rm_w hmu huC2) (rm_w8 hmu huC2) (ih_4 (i + 1) 1 C2 (tickM ((prevN Xy j).getD Xy) j) (mU u ((prevN Xy j).getD Xy)) (by omega) (by have z := hgo.2.2; omega) (Or.inr rfl) hMt hgo.2.1.1 (h4_5.tr hgo.2.1) (Or.inl ⟨rfl, by rw [← hgo.1]; exact hRy⟩) hut (by have z := hgo.2.2; have z2 := muI_rng hgo.2.1.1 (s := (j : Int)) (by omega); omega) _ _ _ hZ (lv_sub hl [2, 3, 1, 0] rfl))
                · skip
                  have hg2 : ((prevN Xy j).getD Xy) = Xy := getD_no c_42
                  have hz2 : mU u ((prevN Xy j).getD Xy) = u := by rw [hg2]; exact mU_self hMy.1.2.1.1
                  have hMy : Sim C2 Xy u := by have z := hC2; rw [hz2, hg2] at z; exact z
                  rw [hz2] at hZ
                  refine W.widen (show u - mm + (mU u ((prevN Xy j).getD Xy) - u) ≤ u - mm by rw [hz2]; exact rm_0 _ _) (show 8 * (u - mm) + (8 * (mU u ((prevN Xy j).getD Xy) - u)) ≤ 8 * (u - mm) by rw [hz2]; exact rm_8 _ _) ?_
                  clear huC2 hvC2
                  refine z_aload_n F dX5_go_45 rfl (lv_at hl 0 rfl) ?_
                  refine z_aload_n F dX5_go_46 rfl (lv_at hl 1 rfl) ?_
                  have huC3 := mU_ge u ((prevO Xy j).getD Xy)
                  have hD3 : ((prevO Xy j).getD Xy) 64 7 ≤ (rulesM X j) 64 7 := by have z := go_le hIy hjy hfy hhy (prevO Xy j) (fun hb => by rw [fits8, orM_no c_26, orM_no c_34, orM_no c_42, orM_yes hb]; exact some_getD hb); rw [hRy] at z; exact z
                  have hvC3 : mU u ((prevO Xy j).getD Xy) ≤ mU mm (rulesM X j) := hmUt hD3
                  refine z_backi hZ (va_runV (As := [.ref (w.2.1 + (8 + 8 * j))]) (rest := []) F (k_X5_prevotesOld l w A hA u C2 Xy hMy hIy j (by omega) (by omega)) (cwV 1 F.2.2.2.2 gX5_go_X5_prevotesOld rfl rfl rfl (by decide +kernel) ⟨Nat.le_of_ble_eq_true rfl, Nat.le_of_ble_eq_true rfl⟩) (z_preV hK hZ (6) (dC_s (by omega)) rfl (by decide) rfl _) rfl rfl hl.1 rfl (lv_room (Nat.le_of_ble_eq_true rfl)) dX5_go_47 ⟨rm_b hmu huC3 hvC3, rm_b8 hmu huC3 hvC3⟩) (fun C3 H locs hC3 hZ => ?_)
                  refine z_ifB_ne (tgt := 85) F dX5_go_50 (by decide) (fun c_50 => ?_) (fun c_50 => ?_)
                  · skip
                    have hfe : fitsM Xy j = some ((prevO Xy j).getD Xy) := by rw [fits8, orM_no c_26, orM_no c_34, orM_no c_42, orM_yes c_50]; exact some_getD c_50
                    have hgo := go_step hIy hjy hfy hhy hfe
                    have hMt : Sim C3 (tickM ((prevO Xy j).getD Xy) j) (mU u ((prevO Xy j).getD Xy)) := Sim_tick hC3 hj
                    have hut : mU u ((prevO Xy j).getD Xy) = mU mm (tickM ((prevO Xy j).getD Xy) j) := by rw [mU_tick, h4_7]; exact mU_mU (by have z := hgo.2.1.2.2.2.2; unfold tickM at z; rw [setM_cell _ _ _ _ (by decide)] at z; exact z)
                    refine z_iconst F dX5_go_85 ?_
                    refine lv_goto (tgt := 90) F.1 F.2.1 dX5_go_86 (by decide) ?_
                    refine z_istore_n (lv' := [(2, .int (zI (1))), (0, .ref (w.2.1 + (6))), (1, .ref (w.2.1 + (8 + 8 * j))), (3, .int (zI ((i : Int))))]) F dX5_go_90 rfl hl (by decide) rfl (fun ls hl => ?_)
                    refine z_iinc (k := 3) (z := (i : Int)) (lv' := [(3, .int (zI ((i : Int) + 1))), (2, .int (zI (1))), (0, .ref (w.2.1 + (6))), (1, .ref (w.2.1 + (8 + 8 * j)))]) F dX5_go_91 hl rfl (by decide) rfl (fun ls hl => ?_)
                    refine lv_goto (tgt := 4) F.1 F.2.1 dX5_go_94 (by decide) ?_
                    exact W.widen (rm_w hmu huC3) (rm_w8 hmu huC3) (ih_4 (i + 1) 1 C3 (tickM ((prevO Xy j).getD Xy) j) (mU u ((prevO Xy j).getD Xy)) (by omega) (by have z := hgo.2.2; omega) (Or.inr rfl) hMt hgo.2.1.1 (h4_5.tr hgo.2.1) (Or.inl ⟨rfl, by rw [← hgo.1]; exact hRy⟩) hut (by have z := hgo.2.2; have z2 := muI_rng hgo.2.1.1 (s := (j : Int)) (by omega); omega) _ _ _ hZ (lv_sub hl [2, 3, 1, 0] rfl))
                  · skip
                    have hg3 : ((prevO Xy j).getD Xy) = Xy := getD_no c_50
                    have hz3 : mU u ((prevO Xy j).getD Xy) = u := by rw [hg3]; exact mU_self hMy.1.2.1.1
                    have hMy : Sim C3 Xy u := by have z := hC3; rw [hz3, hg3] at z; exact z
                    rw [hz3] at hZ
                    refine W.widen (show u - mm + (mU u ((prevO Xy j).getD Xy) - u) ≤ u - mm by rw [hz3]; exact rm_0 _ _) (show 8 * (u - mm) + (8 * (mU u ((prevO Xy j).getD Xy) - u)) ≤ 8 * (u - mm) by rw [hz3]; exact rm_8 _ _) ?_
                    clear huC3 hvC3
                    refine z_aload_n F dX5_go_53 rfl (lv_at hl 0 rfl) ?_
                    refine z_aload_n F dX5_go_54 rfl (lv_at hl 1 rfl) ?_
                    have huC4 := mU_ge u ((locksM Xy j).getD Xy)
                    have hD4 : ((locksM Xy j).getD Xy) 64 7 ≤ (rulesM X j) 64 7 := by have z := go_le hIy hjy hfy hhy (locksM Xy j) (fun hb => by rw [fits8, orM_no c_26, orM_no c_34, orM_no c_42, orM_no c_50, orM_yes hb]; exact some_getD hb); rw [hRy] at z; exact z
                    have hvC4 : mU u ((locksM Xy j).getD Xy) ≤ mU mm (rulesM X j) := hmUt hD4
                    refine z_backi hZ (va_runV (As := [.ref (w.2.1 + (8 + 8 * j))]) (rest := []) F (k_X5_locks l w A hA u C3 Xy hMy hIy j (by omega) (by omega)) (cwV 1 F.2.2.2.2 gX5_go_X5_locks rfl rfl rfl (by decide +kernel) ⟨Nat.le_of_ble_eq_true rfl, Nat.le_of_ble_eq_true rfl⟩) (z_preV hK hZ (6) (dC_s (by omega)) rfl (by decide) rfl _) rfl rfl hl.1 rfl (lv_room (Nat.le_of_ble_eq_true rfl)) dX5_go_55 ⟨rm_b hmu huC4 hvC4, rm_b8 hmu huC4 hvC4⟩) (fun C4 H locs hC4 hZ => ?_)
                    refine z_ifB_ne (tgt := 85) F dX5_go_58 (by decide) (fun c_58 => ?_) (fun c_58 => ?_)
                    · skip
                      have hfe : fitsM Xy j = some ((locksM Xy j).getD Xy) := by rw [fits8, orM_no c_26, orM_no c_34, orM_no c_42, orM_no c_50, orM_yes c_58]; exact some_getD c_58
                      have hgo := go_step hIy hjy hfy hhy hfe
                      have hMt : Sim C4 (tickM ((locksM Xy j).getD Xy) j) (mU u ((locksM Xy j).getD Xy)) := Sim_tick hC4 hj
                      have hut : mU u ((locksM Xy j).getD Xy) = mU mm (tickM ((locksM Xy j).getD Xy) j) := by rw [mU_tick, h4_7]; exact mU_mU (by have z := hgo.2.1.2.2.2.2; unfold tickM at z; rw [setM_cell _ _ _ _ (by decide)] at z; exact z)
                      refine z_iconst F dX5_go_85 ?_
                      refine lv_goto (tgt := 90) F.1 F.2.1 dX5_go_86 (by decide) ?_
                      refine z_istore_n (lv' := [(2, .int (zI (1))), (0, .ref (w.2.1 + (6))), (1, .ref (w.2.1 + (8 + 8 * j))), (3, .int (zI ((i : Int))))]) F dX5_go_90 rfl hl (by decide) rfl (fun ls hl => ?_)
                      refine z_iinc (k := 3) (z := (i : Int)) (lv' := [(3, .int (zI ((i : Int) + 1))), (2, .int (zI (1))), (0, .ref (w.2.1 + (6))), (1, .ref (w.2.1 + (8 + 8 * j)))]) F dX5_go_91 hl rfl (by decide) rfl (fun ls hl => ?_)
                      refine lv_goto (tgt := 4) F.1 F.2.1 dX5_go_94 (by decide) ?_
                      exact W.widen (rm_w hmu huC4) (rm_w8 hmu huC4) (ih_4 (i + 1) 1 C4 (tickM ((locksM Xy j).getD Xy) j) (mU u ((locksM Xy j).getD Xy)) (by omega) (by have z := hgo.2.2; omega) (Or.inr rfl) hMt hgo.2.1.1 (h4_5.tr hgo.2.1) (Or.inl ⟨rfl, by rw [← hgo.1]; exact hRy⟩) hut (by have z := hgo.2.2; have z2 := muI_rng hgo.2.1.1 (s := (j : Int)) (by omega); omega) _ _ _ hZ (lv_sub hl [2, 3, 1, 0] rfl))
                    · skip
                      have hg4 : ((locksM Xy j).getD Xy) = Xy := getD_no c_58
                      have hz4 : mU u ((locksM Xy j).getD Xy) = u := by rw [hg4]; exact mU_self hMy.1.2.1.1
                      have hMy : Sim C4 Xy u := by have z := hC4; rw [hz4, hg4] at z; exact z
                      rw [hz4] at hZ
                      refine W.widen (show u - mm + (mU u ((locksM Xy j).getD Xy) - u) ≤ u - mm by rw [hz4]; exact rm_0 _ _) (show 8 * (u - mm) + (8 * (mU u ((locksM Xy j).getD Xy) - u)) ≤ 8 * (u - mm) by rw [hz4]; exact rm_8 _ _) ?_
                      clear huC4 hvC4
                      refine z_aload_n F dX5_go_61 rfl (lv_at hl 0 rfl) ?_
                      refine z_aload_n F dX5_go_62 rfl (lv_at hl 1 rfl) ?_
                      have huC5 := mU_ge u ((nilM Xy j).getD Xy)
                      have hD5 : ((nilM Xy j).getD Xy) 64 7 ≤ (rulesM X j) 64 7 := by have z := go_le hIy hjy hfy hhy (nilM Xy j) (fun hb => by rw [fits8, orM_no c_26, orM_no c_34, orM_no c_42, orM_no c_50, orM_no c_58, orM_yes hb]; exact some_getD hb); rw [hRy] at z; exact z
                      have hvC5 : mU u ((nilM Xy j).getD Xy) ≤ mU mm (rulesM X j) := hmUt hD5
                      refine z_backi hZ (va_runV (As := [.ref (w.2.1 + (8 + 8 * j))]) (rest := []) F (k_X5_givesUp l w A hA u C4 Xy hMy hIy j (by omega) (by omega)) (cwV 1 F.2.2.2.2 gX5_go_X5_givesUp rfl rfl rfl (by decide +kernel) ⟨Nat.le_of_ble_eq_true rfl, Nat.le_of_ble_eq_true rfl⟩) (z_preV hK hZ (6) (dC_s (by omega)) rfl (by decide) rfl _) rfl rfl hl.1 rfl (lv_room (Nat.le_of_ble_eq_true rfl)) dX5_go_63 ⟨rm_b hmu huC5 hvC5, rm_b8 hmu huC5 hvC5⟩) (fun C5 H locs hC5 hZ => ?_)
                      refine z_ifB_ne (tgt := 85) F dX5_go_66 (by decide) (fun c_66 => ?_) (fun c_66 => ?_)
                      · skip
                        have hfe : fitsM Xy j = some ((nilM Xy j).getD Xy) := by rw [fits8, orM_no c_26, orM_no c_34, orM_no c_42, orM_no c_50, orM_no c_58, orM_yes c_66]; exact some_getD c_66
                        have hgo := go_step hIy hjy hfy hhy hfe
                        have hMt : Sim C5 (tickM ((nilM Xy j).getD Xy) j) (mU u ((nilM Xy j).getD Xy)) := Sim_tick hC5 hj
                        have hut : mU u ((nilM Xy j).getD Xy) = mU mm (tickM ((nilM Xy j).getD Xy) j) := by rw [mU_tick, h4_7]; exact mU_mU (by have z := hgo.2.1.2.2.2.2; unfold tickM at z; rw [setM_cell _ _ _ _ (by decide)] at z; exact z)
                        refine z_iconst F dX5_go_85 ?_
                        refine lv_goto (tgt := 90) F.1 F.2.1 dX5_go_86 (by decide) ?_
                        refine z_istore_n (lv' := [(2, .int (zI (1))), (0, .ref (w.2.1 + (6))), (1, .ref (w.2.1 + (8 + 8 * j))), (3, .int (zI ((i : Int))))]) F dX5_go_90 rfl hl (by decide) rfl (fun ls hl => ?_)
                        refine z_iinc (k := 3) (z := (i : Int)) (lv' := [(3, .int (zI ((i : Int) + 1))), (2, .int (zI (1))), (0, .ref (w.2.1 + (6))), (1, .ref (w.2.1 + (8 + 8 * j)))]) F dX5_go_91 hl rfl (by decide) rfl (fun ls hl => ?_)
                        refine lv_goto (tgt := 4) F.1 F.2.1 dX5_go_94 (by decide) ?_
                        exact W.widen (rm_w hmu huC5) (rm_w8 hmu huC5) (ih_4 (i + 1) 1 C5 (tickM ((nilM Xy j).getD Xy) j) (mU u ((nilM Xy j).getD Xy)) (by omega) (by have z := hgo.2.2; omega) (Or.inr rfl) hMt hgo.2.1.1 (h4_5.tr hgo.2.1) (Or.inl ⟨rfl, by rw [← hgo.1]; exact hRy⟩) hut (by have z := hgo.2.2; have z2 := muI_rng hgo.2.1.1 (s := (j : Int)) (by omega); omega) _ _ _ hZ (lv_sub hl [2, 3, 1, 0] rfl))
                      · skip
                        have hg5 : ((nilM Xy j).getD Xy) = Xy := getD_no c_66
                        have hz5 : mU u ((nilM Xy j).getD Xy) = u := by rw [hg5]; exact mU_self hMy.1.2.1.1
                        have hMy : Sim C5 Xy u := by have z := hC5; rw [hz5, hg5] at z; exact z
                        rw [hz5] at hZ
                        refine W.widen (show u - mm + (mU u ((nilM Xy j).getD Xy) - u) ≤ u - mm by rw [hz5]; exact rm_0 _ _) (show 8 * (u - mm) + (8 * (mU u ((nilM Xy j).getD Xy) - u)) ≤ 8 * (u - mm) by rw [hz5]; exact rm_8 _ _) ?_
                        clear huC5 hvC5
                        refine z_aload_n F dX5_go_69 rfl (lv_at hl 0 rfl) ?_
                        refine z_aload_n F dX5_go_70 rfl (lv_at hl 1 rfl) ?_
                        have huC6 := mU_ge u ((tim1M Xy j).getD Xy)
                        have hD6 : ((tim1M Xy j).getD Xy) 64 7 ≤ (rulesM X j) 64 7 := by have z := go_le hIy hjy hfy hhy (tim1M Xy j) (fun hb => by rw [fits8, orM_no c_26, orM_no c_34, orM_no c_42, orM_no c_50, orM_no c_58, orM_no c_66, orM_yes hb]; exact some_getD hb); rw [hRy] at z; exact z
                        have hvC6 : mU u ((tim1M Xy j).getD Xy) ≤ mU mm (rulesM X j) := hmUt hD6
                        refine z_backi hZ (va_runV (As := [.ref (w.2.1 + (8 + 8 * j))]) (rest := []) F (k_X5_timesPrevotes l w A hA u C5 Xy hMy hIy j (by omega) (by omega)) (cwV 1 F.2.2.2.2 gX5_go_X5_timesPrevotes rfl rfl rfl (by decide +kernel) ⟨Nat.le_of_ble_eq_true rfl, Nat.le_of_ble_eq_true rfl⟩) (z_preV hK hZ (6) (dC_s (by omega)) rfl (by decide) rfl _) rfl rfl hl.1 rfl (lv_room (Nat.le_of_ble_eq_true rfl)) dX5_go_71 ⟨rm_b hmu huC6 hvC6, rm_b8 hmu huC6 hvC6⟩) (fun C6 H locs hC6 hZ => ?_)
                        refine z_ifB_ne (tgt := 85) F dX5_go_74 (by decide) (fun c_74 => ?_) (fun c_74 => ?_)
                        · skip
                          have hfe : fitsM Xy j = some ((tim1M Xy j).getD Xy) := by rw [fits8, orM_no c_26, orM_no c_34, orM_no c_42, orM_no c_50, orM_no c_58, orM_no c_66, orM_yes c_74]; exact some_getD c_74
                          have hgo := go_step hIy hjy hfy hhy hfe
                          have hMt : Sim C6 (tickM ((tim1M Xy j).getD Xy) j) (mU u ((tim1M Xy j).getD Xy)) := Sim_tick hC6 hj
                          have hut : mU u ((tim1M Xy j).getD Xy) = mU mm (tickM ((tim1M Xy j).getD Xy) j) := by rw [mU_tick, h4_7]; exact mU_mU (by have z := hgo.2.1.2.2.2.2; unfold tickM at z; rw [setM_cell _ _ _ _ (by decide)] at z; exact z)
                          refine z_iconst F dX5_go_85 ?_
                          refine lv_goto (tgt := 90) F.1 F.2.1 dX5_go_86 (by decide) ?_
                          refine z_istore_n (lv' := [(2, .int (zI (1))), (0, .ref (w.2.1 + (6))), (1, .ref (w.2.1 + (8 + 8 * j))), (3, .int (zI ((i : Int))))]) F dX5_go_90 rfl hl (by decide) rfl (fun ls hl => ?_)
                          refine z_iinc (k := 3) (z := (i : Int)) (lv' := [(3, .int (zI ((i : Int) + 1))), (2, .int (zI (1))), (0, .ref (w.2.1 + (6))), (1, .ref (w.2.1 + (8 + 8 * j)))]) F dX5_go_91 hl rfl (by decide) rfl (fun ls hl => ?_)
                          refine lv_goto (tgt := 4) F.1 F.2.1 dX5_go_94 (by decide) ?_
                          exact W.widen (rm_w hmu huC6) (rm_w8 hmu huC6) (ih_4 (i + 1) 1 C6 (tickM ((tim1M Xy j).getD Xy) j) (mU u ((tim1M Xy j).getD Xy)) (by omega) (by have z := hgo.2.2; omega) (Or.inr rfl) hMt hgo.2.1.1 (h4_5.tr hgo.2.1) (Or.inl ⟨rfl, by rw [← hgo.1]; exact hRy⟩) hut (by have z := hgo.2.2; have z2 := muI_rng hgo.2.1.1 (s := (j : Int)) (by omega); omega) _ _ _ hZ (lv_sub hl [2, 3, 1, 0] rfl))
                        · skip
                          have hg6 : ((tim1M Xy j).getD Xy) = Xy := getD_no c_74
                          have hz6 : mU u ((tim1M Xy j).getD Xy) = u := by rw [hg6]; exact mU_self hMy.1.2.1.1
                          have hMy : Sim C6 Xy u := by have z := hC6; rw [hz6, hg6] at z; exact z
                          rw [hz6] at hZ
                          refine W.widen (show u - mm + (mU u ((tim1M Xy j).getD Xy) - u) ≤ u - mm by rw [hz6]; exact rm_0 _ _) (show 8 * (u - mm) + (8 * (mU u ((tim1M Xy j).getD Xy) - u)) ≤ 8 * (u - mm) by rw [hz6]; exact rm_8 _ _) ?_
                          clear huC6 hvC6
                          refine z_aload_n F dX5_go_77 rfl (lv_at hl 0 rfl) ?_
                          refine z_aload_n F dX5_go_78 rfl (lv_at hl 1 rfl) ?_
                          have huC7 := mU_ge u ((tim2M Xy j).getD Xy)
                          have hD7 : ((tim2M Xy j).getD Xy) 64 7 ≤ (rulesM X j) 64 7 := by have z := go_le hIy hjy hfy hhy (tim2M Xy j) (fun hb => by rw [fits8, orM_no c_26, orM_no c_34, orM_no c_42, orM_no c_50, orM_no c_58, orM_no c_66, orM_no c_74]; exact some_getD hb); rw [hRy] at z; exact z
                          have hvC7 : mU u ((tim2M Xy j).getD Xy) ≤ mU mm (rulesM X j) := hmUt hD7
                          refine z_backi hZ (va_runV (As := [.ref (w.2.1 + (8 + 8 * j))]) (rest := []) F (k_X5_timesPrecommits l w A hA u C6 Xy hMy hIy j (by omega) (by omega)) (cwV 1 F.2.2.2.2 gX5_go_X5_timesPrecommits rfl rfl rfl (by decide +kernel) ⟨Nat.le_of_ble_eq_true rfl, Nat.le_of_ble_eq_true rfl⟩) (z_preV hK hZ (6) (dC_s (by omega)) rfl (by decide) rfl _) rfl rfl hl.1 rfl (lv_room (Nat.le_of_ble_eq_true rfl)) dX5_go_79 ⟨rm_b hmu huC7 hvC7, rm_b8 hmu huC7 hvC7⟩) (fun C7 H locs hC7 hZ => ?_)
                          refine z_ifB_eq (tgt := 89) F dX5_go_82 (by decide) (fun c_82 => ?_) (fun c_82 => ?_)
                          · skip
                            have hg7 : ((tim2M Xy j).getD Xy) = Xy := getD_no c_82
                            have hz7 : mU u ((tim2M Xy j).getD Xy) = u := by rw [hg7]; exact mU_self hMy.1.2.1.1
                            have hMy : Sim C7 Xy u := by have z := hC7; rw [hz7, hg7] at z; exact z
                            rw [hz7] at hZ
                            refine W.widen (show u - mm + (mU u ((tim2M Xy j).getD Xy) - u) ≤ u - mm by rw [hz7]; exact rm_0 _ _) (show 8 * (u - mm) + (8 * (mU u ((tim2M Xy j).getD Xy) - u)) ≤ 8 * (u - mm) by rw [hz7]; exact rm_8 _ _) ?_
                            clear huC7 hvC7
                            refine z_iconst F dX5_go_89 ?_
                            refine z_istore_n (lv' := [(2, .int (zI (0))), (0, .ref (w.2.1 + (6))), (1, .ref (w.2.1 + (8 + 8 * j))), (3, .int (zI ((i : Int))))]) F dX5_go_90 rfl hl (by decide) rfl (fun ls hl => ?_)
                            refine z_iinc (k := 3) (z := (i : Int)) (lv' := [(3, .int (zI ((i : Int) + 1))), (2, .int (zI (0))), (0, .ref (w.2.1 + (6))), (1, .ref (w.2.1 + (8 + 8 * j)))]) F dX5_go_91 hl rfl (by decide) rfl (fun ls hl => ?_)
                            refine lv_goto (tgt := 4) F.1 F.2.1 dX5_go_94 (by decide) ?_
                            exact W.widen (Nat.le_refl _) (Nat.le_refl _) (ih_4 (i + 1) 0 C7 Xy u (by omega) (by omega) (Or.inl rfl) hMy hIy h4_5 (Or.inr ⟨rfl, by rw [← hRy]; exact (go_no (by rw [fits8, orM_no c_26, orM_no c_34, orM_no c_42, orM_no c_50, orM_no c_58, orM_no c_66, orM_no c_74]; exact c_82)).symm⟩) h4_7 (by omega) _ _ _ hZ (lv_sub hl [2, 3, 1, 0] rfl))
                          · skip
                            have hfe : fitsM Xy j = some ((tim2M Xy j).getD Xy) := by rw [fits8, orM_no c_26, orM_no c_34, orM_no c_42, orM_no c_50, orM_no c_58, orM_no c_66, orM_no c_74]; exact some_getD c_82
                            have hgo := go_step hIy hjy hfy hhy hfe
                            have hMt : Sim C7 (tickM ((tim2M Xy j).getD Xy) j) (mU u ((tim2M Xy j).getD Xy)) := Sim_tick hC7 hj
                            have hut : mU u ((tim2M Xy j).getD Xy) = mU mm (tickM ((tim2M Xy j).getD Xy) j) := by rw [mU_tick, h4_7]; exact mU_mU (by have z := hgo.2.1.2.2.2.2; unfold tickM at z; rw [setM_cell _ _ _ _ (by decide)] at z; exact z)
                            refine z_iconst F dX5_go_85 ?_
                            refine lv_goto (tgt := 90) F.1 F.2.1 dX5_go_86 (by decide) ?_
                            refine z_istore_n (lv' := [(2, .int (zI (1))), (0, .ref (w.2.1 + (6))), (1, .ref (w.2.1 + (8 + 8 * j))), (3, .int (zI ((i : Int))))]) F dX5_go_90 rfl hl (by decide) rfl (fun ls hl => ?_)
                            refine z_iinc (k := 3) (z := (i : Int)) (lv' := [(3, .int (zI ((i : Int) + 1))), (2, .int (zI (1))), (0, .ref (w.2.1 + (6))), (1, .ref (w.2.1 + (8 + 8 * j)))]) F dX5_go_91 hl rfl (by decide) rfl (fun ls hl => ?_)
                            refine lv_goto (tgt := 4) F.1 F.2.1 dX5_go_94 (by decide) ?_
                            exact W.widen (rm_w hmu huC7) (rm_w8 hmu huC7) (ih_4 (i + 1) 1 C7 (tickM ((tim2M Xy j).getD Xy) j) (mU u ((tim2M Xy j).getD Xy)) (by omega) (by have z := hgo.2.2; omega) (Or.inr rfl) hMt hgo.2.1.1 (h4_5.tr hgo.2.1) (Or.inl ⟨rfl, by rw [← hgo.1]; exact hRy⟩) hut (by have z := hgo.2.2; have z2 := muI_rng hgo.2.1.1 (s := (j : Int)) (by omega); omega) _ _ _ hZ (lv_sub hl [2, 3, 1, 0] rfl))
  exact W.widen (Nat.zero_le _) (Nat.zero_le _) (L_4 9005 0 1 G X mm (by omega) (by omega) (Or.inr rfl) hM hI (Nx.rf hI) (Or.inl ⟨rfl, rfl⟩) (mU_self hM.1.2.1.1).symm (by omega) _ _ _ hZ (lv_sub hl [2, 3, 1, 0] rfl))
