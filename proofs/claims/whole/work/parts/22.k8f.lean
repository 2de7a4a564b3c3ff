theorem mX8_anew_7 : Cond.fieldLink RX8 7 "LockedChainModel" "isFalse" "[Z" ∈ wsX8_anew := by decide +kernel
theorem mX8_anew_13 : Cond.fieldLink RX8 13 "LockedChainModel" "holds" "[Z" ∈ wsX8_anew := by decide +kernel
theorem mX8_anew_16 : Cond.fieldLink RX8 16 "LockedChainModel" "seat" "[I" ∈ wsX8_anew := by decide +kernel
theorem mX8_anew_20 : Cond.fieldLink RX8 20 "LockedChainModel" "decided" "[I" ∈ wsX8_anew := by decide +kernel
theorem mX8_anew_26 : Cond.fieldLink RX8 26 "LockedChainModel" "came" "[Z" ∈ wsX8_anew := by decide +kernel
theorem mX8_anew_40 : Cond.fieldLink RX8 40 "LockedChainModel" "begun" "Z" ∈ wsX8_anew := by decide +kernel
theorem mX8_anew_44 : Cond.fieldLink RX8 44 "LockedChainModel" "letters" "I" ∈ wsX8_anew := by decide +kernel
set_option maxHeartbeats 4000000 in
set_option maxRecDepth 100000 in
theorem k_X8_anew (l : Launch) (w : zW) (dom : Nat → Prop) (A : Nat → Prop) (hDA : ∀ i, dom i → A (w.2.1 + i)) (sz : Nat) (G : zM) (hd : ∀ i, 64 ≤ i ∧ i < 71 → dom i) : Met l yX8_anew wsX8_anew { frames := 0, cells := 0, slots := 0, locals := 0 } (zPre w dom sz G [.ref (w.2.1 + (64))]) (zQv w dom sz (fun C => C = anewM G) A) (0) (0) A := by
  refine Met.ofW (cc := cX8_anew) (maxL := 3) (ret := none) (by decide) rfl ?_
  intro p e s m args below meth c s₁ B hml hv
  obtain ⟨rfl, hsz, hP, hK⟩ := hv
  have F : CallFix p m c cX8_anew 3 s _ wsX8_anew RX8 := ⟨B.exec, B.bytes, hml, findClass_of_methodNamed B.named, atoms_spec (ws := wsX8_anew) B.pre⟩
  have hr := B.returns
  have hlocks := B.notSynchronized
  have hZ : Zs w dom A s.heap sz G s.heap [] := ⟨hsz, hP, va_S.rf⟩
  have hl := lv_entry ([.ref (w.2.1 + (64))]) (n := 3) (Nat.le_of_ble_eq_true rfl)
  rw [lg_entry_eq]
  generalize (lg_sl ([.ref (w.2.1 + (64))]) ++ List.replicate (3 - (lg_sl ([.ref (w.2.1 + (64))])).length) Slot.unset).toArray = ls at hl ⊢
  have hl : lv_has ls 3 [(0, .ref (w.2.1 + (64)))] := hl
  have hin8 : ∀ v ∈ u_ws RX8 TX8 10, v ∈ wsX8_anew := by decide +kernel
  refine z_aload_n F dX8_anew_0 rfl (lv_at hl 0 rfl) ?_
  refine z_iconst F dX8_anew_1 ?_
  refine z_put (z := 0) F hK hZ hDA (64) (hd _ (by omega)) rfl (by decide) rfl hin8 tyX8 tyX8_ok nmX8 2 (by decide) mX8_anew_40 rfl rfl rfl rfl (by omega) (kz := 2) rfl rfl (Nat.le_of_ble_eq_true rfl) dX8_anew_2 (fun H locs hZ => ?_)
  refine z_aload_n F dX8_anew_5 rfl (lv_at hl 0 rfl) ?_
  refine z_iconst F dX8_anew_6 ?_
  refine z_put (z := 0) F hK hZ hDA (64) (hd _ (by omega)) rfl (by decide) rfl hin8 tyX8 tyX8_ok nmX8 7 (by decide) mX8_anew_44 rfl rfl rfl rfl (by omega) (kz := 7) rfl rfl (Nat.le_of_ble_eq_true rfl) dX8_anew_7 (fun H locs hZ => ?_)
  refine z_iconst F dX8_anew_10 ?_
  refine z_istore_n (lv' := [(1, .int (zI (0))), (0, .ref (w.2.1 + (64)))]) F dX8_anew_11 rfl hl (by decide) rfl (fun ls hl => ?_)
  have L_12 : ∀ (nf : Nat) (i : Nat) (M : zM), (8 ≤ i + nf) → (i ≤ 7) → (M = anL (anG G) i) →  ∀ (H : Heap) (locs : List Loc) (ls : Array Slot), Zs w dom A s.heap sz M H locs → lv_has ls 3 [(0, .ref (w.2.1 + (64))), (1, .int (zI ((i : Int))))] → W p l e (headSpec wsX8_anew { frames := 0, cells := 0, slots := 0, locals := 0 }).room s m ([.ref (w.2.1 + (64))] : List Value).toArray below meth c H locs (0) (0) (MQ below (zQv w dom sz (fun C => C = anewM G) A) ([.ref (w.2.1 + (64))] : List Value).toArray s (0) (0) A) (F0 m 12 ls []) := by
    intro nf
    induction nf with
    | zero => intro i  M  h12_0 h12_1 h12_2; exact absurd h12_0 (by omega)
    | succ nf ih_12 =>
      intro i  M  h12_0 h12_1 h12_2 H locs ls hZ hl
      refine z_iload_n F dX8_anew_12 rfl (lv_at hl 1 rfl) ?_
      refine z_bipush F (by decide) dX8_anew_13 ?_
      refine z_icmp_ge (tgt := 109) F (by omega) (by omega) dX8_anew_15 (by decide) (fun c_15 => ?_) (fun c_15 => ?_)
      · skip
        refine z_iconst F dX8_anew_109 ?_
        refine z_istore_n (lv' := [(1, .int (zI (0))), (0, .ref (w.2.1 + (64)))]) F dX8_anew_110 rfl hl (by decide) rfl (fun ls hl => ?_)
        have L_111 : ∀ (nf : Nat) (i : Nat) (M : zM), (701 ≤ i + nf) → (i ≤ 700) → (M = fillM (anL (anG G) 7) 66 0 i 0) →  ∀ (H : Heap) (locs : List Loc) (ls : Array Slot), Zs w dom A s.heap sz M H locs → lv_has ls 3 [(0, .ref (w.2.1 + (64))), (1, .int (zI ((i : Int))))] → W p l e (headSpec wsX8_anew { frames := 0, cells := 0, slots := 0, locals := 0 }).room s m ([.ref (w.2.1 + (64))] : List Value).toArray below meth c H locs (0) (0) (MQ below (zQv w dom sz (fun C => C = anewM G) A) ([.ref (w.2.1 + (64))] : List Value).toArray s (0) (0) A) (F0 m 111 ls []) := by
          intro nf
          induction nf with
          | zero => intro i  M  h111_0 h111_1 h111_2; exact absurd h111_0 (by omega)
          | succ nf ih_111 =>
            intro i  M  h111_0 h111_1 h111_2 H locs ls hZ hl
            refine z_iload_n F dX8_anew_111 rfl (lv_at hl 1 rfl) ?_
            refine z_sipush F (by decide) dX8_anew_112 ?_
            refine z_icmp_ge (tgt := 131) F (by omega) (by omega) dX8_anew_115 (by decide) (fun c_115 => ?_) (fun c_115 => ?_)
            · skip
              refine z_iconst F dX8_anew_131 ?_
              refine z_istore_n (lv' := [(1, .int (zI (0))), (0, .ref (w.2.1 + (64)))]) F dX8_anew_132 rfl hl (by decide) rfl (fun ls hl => ?_)
              have L_133 : ∀ (nf : Nat) (i : Nat) (M : zM), (2801 ≤ i + nf) → (i ≤ 2800) → (M = fillM (fillM (anL (anG G) 7) 66 0 700 0) 70 0 i 0) →  ∀ (H : Heap) (locs : List Loc) (ls : Array Slot), Zs w dom A s.heap sz M H locs → lv_has ls 3 [(0, .ref (w.2.1 + (64))), (1, .int (zI ((i : Int))))] → W p l e (headSpec wsX8_anew { frames := 0, cells := 0, slots := 0, locals := 0 }).room s m ([.ref (w.2.1 + (64))] : List Value).toArray below meth c H locs (0) (0) (MQ below (zQv w dom sz (fun C => C = anewM G) A) ([.ref (w.2.1 + (64))] : List Value).toArray s (0) (0) A) (F0 m 133 ls []) := by
                intro nf
                induction nf with
                | zero => intro i  M  h133_0 h133_1 h133_2; exact absurd h133_0 (by omega)
                | succ nf ih_133 =>
                  intro i  M  h133_0 h133_1 h133_2 H locs ls hZ hl
                  refine z_iload_n F dX8_anew_133 rfl (lv_at hl 1 rfl) ?_
                  refine z_sipush F (by decide) dX8_anew_134 ?_
                  refine z_icmp_ge (tgt := 153) F (by omega) (by omega) dX8_anew_137 (by decide) (fun c_137 => ?_) (fun c_137 => ?_)
                  · skip
                    exact z_vret F hr hlocks hZ (by rw [h133_2, show i = 2800 by omega, anew_all]) dX8_anew_153 (by omega) (by omega)
                  · skip
                    refine z_aload_n F dX8_anew_140 rfl (lv_at hl 0 rfl) ?_
                    refine z_get F hK hZ (64) (hd _ (by omega)) rfl (by decide) rfl hin8 9 (by decide) mX8_anew_26 rfl rfl dX8_anew_141 ?_
                    refine z_iload_n F dX8_anew_144 rfl (lv_at hl 1 rfl) ?_
                    refine z_iconst F dX8_anew_145 ?_
                    refine z_zast F hK hZ hDA (70) (hd _ (by omega)) rfl (by decide) (by omega) (by omega) (by omega) dX8_anew_146 (fun H locs hZ => ?_)
                    refine z_iinc (k := 1) (z := (i : Int)) (lv' := [(1, .int (zI ((i : Int) + 1))), (0, .ref (w.2.1 + (64)))]) F dX8_anew_147 hl rfl (by decide) rfl (fun ls hl => ?_)
                    refine lv_goto (tgt := 133) F.1 F.2.1 dX8_anew_150 (by decide) ?_
                    exact ih_133 (i + 1) (up M (70) ((i : Int)) (0)) (by omega) (by omega) (by rw [h133_2]; exact fillM_S _ _ _ _ _ _ (by omega)) _ _ _ hZ (lv_sub hl [1, 0] rfl)
              exact L_133 2801 0 M (by omega) (by omega) (by rw [fillM_0, h111_2, show i = 700 by omega]) _ _ _ hZ (lv_sub hl [1, 0] rfl)
            · skip
              refine z_aload_n F dX8_anew_118 rfl (lv_at hl 0 rfl) ?_
              refine z_get F hK hZ (64) (hd _ (by omega)) rfl (by decide) rfl hin8 4 (by decide) mX8_anew_13 rfl rfl dX8_anew_119 ?_
              refine z_iload_n F dX8_anew_122 rfl (lv_at hl 1 rfl) ?_
              refine z_iconst F dX8_anew_123 ?_
              refine z_zast F hK hZ hDA (66) (hd _ (by omega)) rfl (by decide) (by omega) (by omega) (by omega) dX8_anew_124 (fun H locs hZ => ?_)
              refine z_iinc (k := 1) (z := (i : Int)) (lv' := [(1, .int (zI ((i : Int) + 1))), (0, .ref (w.2.1 + (64)))]) F dX8_anew_125 hl rfl (by decide) rfl (fun ls hl => ?_)
              refine lv_goto (tgt := 111) F.1 F.2.1 dX8_anew_128 (by decide) ?_
              exact ih_111 (i + 1) (up M (66) ((i : Int)) (0)) (by omega) (by omega) (by rw [h111_2]; exact fillM_S _ _ _ _ _ _ (by omega)) _ _ _ hZ (lv_sub hl [1, 0] rfl)
        exact L_111 701 0 M (by omega) (by omega) (by rw [fillM_0, h12_2, show i = 7 by omega]) _ _ _ hZ (lv_sub hl [1, 0] rfl)
      · skip
        refine z_aload_n F dX8_anew_18 rfl (lv_at hl 0 rfl) ?_
        refine z_get F hK hZ (64) (hd _ (by omega)) rfl (by decide) rfl hin8 3 (by decide) mX8_anew_7 rfl rfl dX8_anew_19 ?_
        refine z_iload_n F dX8_anew_22 rfl (lv_at hl 1 rfl) ?_
        refine z_iconst F dX8_anew_23 ?_
        refine z_zast F hK hZ hDA (65) (hd _ (by omega)) rfl (by decide) (by omega) (by omega) (by omega) dX8_anew_24 (fun H locs hZ => ?_)
        refine z_iconst F dX8_anew_25 ?_
        refine z_istore_n (lv' := [(2, .int (zI (0))), (0, .ref (w.2.1 + (64))), (1, .int (zI ((i : Int))))]) F dX8_anew_26 rfl hl (by decide) rfl (fun ls hl => ?_)
        have L_27 : ∀ (nf : Nat) (j : Nat) (M : zM), (21 ≤ j + nf) → (j ≤ 20) → (M = fillM (an1 (anL (anG G) i) i) 67 (20 * (i : Int)) j 0) →  ∀ (H : Heap) (locs : List Loc) (ls : Array Slot), Zs w dom A s.heap sz M H locs → lv_has ls 3 [(0, .ref (w.2.1 + (64))), (1, .int (zI ((i : Int)))), (2, .int (zI ((j : Int))))] → W p l e (headSpec wsX8_anew { frames := 0, cells := 0, slots := 0, locals := 0 }).room s m ([.ref (w.2.1 + (64))] : List Value).toArray below meth c H locs (0) (0) (MQ below (zQv w dom sz (fun C => C = anewM G) A) ([.ref (w.2.1 + (64))] : List Value).toArray s (0) (0) A) (F0 m 27 ls []) := by
          intro nf
          induction nf with
          | zero => intro j  M  h27_0 h27_1 h27_2; exact absurd h27_0 (by omega)
          | succ nf ih_27 =>
            intro j  M  h27_0 h27_1 h27_2 H locs ls hZ hl
            refine z_iload_n F dX8_anew_27 rfl (lv_at hl 2 rfl) ?_
            refine z_bipush F (by decide) dX8_anew_28 ?_
            refine z_icmp_ge (tgt := 51) F (by omega) (by omega) dX8_anew_30 (by decide) (fun c_30 => ?_) (fun c_30 => ?_)
            · skip
              refine z_aload_n F dX8_anew_51 rfl (lv_at hl 0 rfl) ?_
              refine z_get F hK hZ (64) (hd _ (by omega)) rfl (by decide) rfl hin8 5 (by decide) mX8_anew_16 rfl rfl dX8_anew_52 ?_
              refine z_bipush F (by decide) dX8_anew_55 ?_
              refine z_iload_n F dX8_anew_57 rfl (lv_at hl 1 rfl) ?_
              refine z_imul F dX8_anew_58 ?_
              refine z_iconst F dX8_anew_59 ?_
              refine z_iadd F dX8_anew_60 ?_
              refine z_iconst F dX8_anew_61 ?_
              refine z_iast F hK hZ hDA (67) (hd _ (by omega)) rfl (by decide) (by omega) (by omega) (by omega) dX8_anew_62 (fun H locs hZ => ?_)
              refine z_aload_n F dX8_anew_63 rfl (lv_at hl 0 rfl) ?_
              refine z_get F hK hZ (64) (hd _ (by omega)) rfl (by decide) rfl hin8 5 (by decide) mX8_anew_16 rfl rfl dX8_anew_64 ?_
              refine z_bipush F (by decide) dX8_anew_67 ?_
              refine z_iload_n F dX8_anew_69 rfl (lv_at hl 1 rfl) ?_
              refine z_imul F dX8_anew_70 ?_
              refine z_iconst F dX8_anew_71 ?_
              refine z_iadd F dX8_anew_72 ?_
              refine z_iconst F dX8_anew_73 ?_
              refine z_iast F hK hZ hDA (67) (hd _ (by omega)) rfl (by decide) (by omega) (by omega) (by omega) dX8_anew_74 (fun H locs hZ => ?_)
              refine z_iconst F dX8_anew_75 ?_
              refine z_istore_n (lv' := [(2, .int (zI (0))), (0, .ref (w.2.1 + (64))), (1, .int (zI ((i : Int))))]) F dX8_anew_76 rfl hl (by decide) rfl (fun ls hl => ?_)
              have L_77 : ∀ (nf : Nat) (j : Nat) (M : zM), (7 ≤ j + nf) → (j ≤ 6) → (M = fil2M (an2 (anL (anG G) i) i) 68 (12 * (i : Int)) j (-1)) →  ∀ (H : Heap) (locs : List Loc) (ls : Array Slot), Zs w dom A s.heap sz M H locs → lv_has ls 3 [(0, .ref (w.2.1 + (64))), (1, .int (zI ((i : Int)))), (2, .int (zI ((j : Int))))] → W p l e (headSpec wsX8_anew { frames := 0, cells := 0, slots := 0, locals := 0 }).room s m ([.ref (w.2.1 + (64))] : List Value).toArray below meth c H locs (0) (0) (MQ below (zQv w dom sz (fun C => C = anewM G) A) ([.ref (w.2.1 + (64))] : List Value).toArray s (0) (0) A) (F0 m 77 ls []) := by
                intro nf
                induction nf with
                | zero => intro j  M  h77_0 h77_1 h77_2; exact absurd h77_0 (by omega)
                | succ nf ih_77 =>
                  intro j  M  h77_0 h77_1 h77_2 H locs ls hZ hl
                  refine z_iload_n F dX8_anew_77 rfl (lv_at hl 2 rfl) ?_
                  refine z_bipush F (by decide) dX8_anew_78 ?_
                  refine z_icmp_ge (tgt := 103) F (by omega) (by omega) dX8_anew_80 (by decide) (fun c_80 => ?_) (fun c_80 => ?_)
                  · skip
                    refine z_iinc (k := 1) (z := (i : Int)) (lv' := [(1, .int (zI ((i : Int) + 1))), (0, .ref (w.2.1 + (64))), (2, .int (zI ((j : Int))))]) F dX8_anew_103 hl rfl (by decide) rfl (fun ls hl => ?_)
                    refine lv_goto (tgt := 12) F.1 F.2.1 dX8_anew_106 (by decide) ?_
                    exact ih_12 (i + 1) M (by omega) (by omega) (by rw [h77_2, show j = 6 by omega]; rfl) _ _ _ hZ (lv_sub hl [1, 0] rfl)
                  · skip
                    refine z_aload_n F dX8_anew_83 rfl (lv_at hl 0 rfl) ?_
                    refine z_get F hK hZ (64) (hd _ (by omega)) rfl (by decide) rfl hin8 6 (by decide) mX8_anew_20 rfl rfl dX8_anew_84 ?_
                    refine z_bipush F (by decide) dX8_anew_87 ?_
                    refine z_iload_n F dX8_anew_89 rfl (lv_at hl 1 rfl) ?_
                    refine z_imul F dX8_anew_90 ?_
                    refine z_iconst F dX8_anew_91 ?_
                    refine z_iload_n F dX8_anew_92 rfl (lv_at hl 2 rfl) ?_
                    refine z_imul F dX8_anew_93 ?_
                    refine z_iadd F dX8_anew_94 ?_
                    refine z_iconst F dX8_anew_95 ?_
                    refine z_iast F hK hZ hDA (68) (hd _ (by omega)) rfl (by decide) (by omega) (by omega) (by omega) dX8_anew_96 (fun H locs hZ => ?_)
                    refine z_iinc (k := 2) (z := (j : Int)) (lv' := [(2, .int (zI ((j : Int) + 1))), (0, .ref (w.2.1 + (64))), (1, .int (zI ((i : Int))))]) F dX8_anew_97 hl rfl (by decide) rfl (fun ls hl => ?_)
                    refine lv_goto (tgt := 77) F.1 F.2.1 dX8_anew_100 (by decide) ?_
                    exact ih_77 (j + 1) (up M (68) (12 * ((i : Int)) + (2 * ((j : Int)))) (-1)) (by omega) (by omega) (by rw [h77_2]; exact fil2M_S _ _ _ _ _ _ rfl) _ _ _ hZ (lv_sub hl [1, 2, 0] rfl)
              exact L_77 7 0 (up (up M (67) (20 * ((i : Int)) + 3) (-1)) (67) (20 * ((i : Int)) + 5) (-1)) (by omega) (by omega) (by rw [fil2M_0, h27_2, show j = 20 by omega]; rfl) _ _ _ hZ (lv_sub hl [1, 2, 0] rfl)
            · skip
              refine z_aload_n F dX8_anew_33 rfl (lv_at hl 0 rfl) ?_
              refine z_get F hK hZ (64) (hd _ (by omega)) rfl (by decide) rfl hin8 5 (by decide) mX8_anew_16 rfl rfl dX8_anew_34 ?_
              refine z_bipush F (by decide) dX8_anew_37 ?_
              refine z_iload_n F dX8_anew_39 rfl (lv_at hl 1 rfl) ?_
              refine z_imul F dX8_anew_40 ?_
              refine z_iload_n F dX8_anew_41 rfl (lv_at hl 2 rfl) ?_
              refine z_iadd F dX8_anew_42 ?_
              refine z_iconst F dX8_anew_43 ?_
              refine z_iast F hK hZ hDA (67) (hd _ (by omega)) rfl (by decide) (by omega) (by omega) (by omega) dX8_anew_44 (fun H locs hZ => ?_)
              refine z_iinc (k := 2) (z := (j : Int)) (lv' := [(2, .int (zI ((j : Int) + 1))), (0, .ref (w.2.1 + (64))), (1, .int (zI ((i : Int))))]) F dX8_anew_45 hl rfl (by decide) rfl (fun ls hl => ?_)
              refine lv_goto (tgt := 27) F.1 F.2.1 dX8_anew_48 (by decide) ?_
              exact ih_27 (j + 1) (up M (67) (20 * ((i : Int)) + ((j : Int))) (0)) (by omega) (by omega) (by rw [h27_2]; exact fillM_S _ _ _ _ _ _ rfl) _ _ _ hZ (lv_sub hl [1, 2, 0] rfl)
        exact L_27 21 0 (up M (65) ((i : Int)) (0)) (by omega) (by omega) (by rw [fillM_0, h12_2]; rfl) _ _ _ hZ (lv_sub hl [1, 2, 0] rfl)
  exact L_12 8 0 (up (up G 64 2 0) 64 7 0) (by omega) (by omega) rfl _ _ _ hZ (lv_sub hl [1, 0] rfl)

theorem mX8_seats_29 : Cond.fieldLink RX8 29 "LockedChainModel" "n" "I" ∈ wsX8_seats := by decide +kernel
theorem mX8_seats_47 : Cond.fieldLink RX8 47 "LockedChainModel" "times" "I" ∈ wsX8_seats := by decide +kernel
set_option maxHeartbeats 4000000 in
set_option maxRecDepth 100000 in
theorem k_X8_seats (l : Launch) (w : zW) (dom : Nat → Prop) (A : Nat → Prop) (hDA : ∀ i, dom i → A (w.2.1 + i)) (sz : Nat) (G : zM) (hd : ∀ i, 64 ≤ i ∧ i < 71 → dom i) (hI : Inv G) (x : Int) (hx : -2147483648 ≤ x ∧ x < 2147483648) : Met l yX8_seats wsX8_seats { frames := 1, cells := 0, slots := 0, locals := 22 } (zPre w dom sz G [.ref (w.2.1 + (64)), .int (zI (x))]) (zQi w dom sz (rSeats G x) (fun C => C = mSeats G x) A) (0) (0) A := by
  refine Met.ofW (cc := cX8_seats) (maxL := 2) (ret := (some .int)) (by decide) rfl ?_
  intro p e s m args below meth c s₁ B hml hv
  obtain ⟨rfl, hsz, hP, hK⟩ := hv
  have F : CallFix p m c cX8_seats 2 s _ wsX8_seats RX8 := ⟨B.exec, B.bytes, hml, findClass_of_methodNamed B.named, atoms_spec (ws := wsX8_seats) B.pre⟩
  have hr := B.returns
  have hlocks := B.notSynchronized
  have hZ : Zs w dom A s.heap sz G s.heap [] := ⟨hsz, hP, va_S.rf⟩
  have hl := lv_entry ([.ref (w.2.1 + (64)), .int (zI (x))]) (n := 2) (Nat.le_of_ble_eq_true rfl)
  rw [lg_entry_eq]
  generalize (lg_sl ([.ref (w.2.1 + (64)), .int (zI (x))]) ++ List.replicate (2 - (lg_sl ([.ref (w.2.1 + (64)), .int (zI (x))])).length) Slot.unset).toArray = ls at hl ⊢
  have hl : lv_has ls 2 [(0, .ref (w.2.1 + (64))), (1, .int (zI (x)))] := hl
  have hin8 : ∀ v ∈ u_ws RX8 TX8 10, v ∈ wsX8_seats := by decide +kernel
  have hn := hI.1
  have hL := hI.2.2.2.1
  have hT := hI.2.1
  refine z_iload_n F dX8_seats_0 rfl (lv_at hl 1 rfl) ?_
  refine z_iconst F dX8_seats_1 ?_
  refine z_bipush F (by decide) dX8_seats_2 ?_
  refine z_bxi hZ (va_runS (As := [.int (zI (x)), .int (zI (4)), .int (zI (7))]) (rest := []) F (k_X8_in l w dom A hDA sz G x 4 7 (by omega) (by omega) (by omega)) (va_cwS 3 F.2.2.2.2 gX8_seats_X8_in rfl rfl rfl (by decide +kernel) ⟨Nat.le_of_ble_eq_true rfl, Nat.le_of_ble_eq_true rfl⟩) (z_preS hK hZ _) rfl rfl hl.1 rfl (lv_room (Nat.le_of_ble_eq_true rfl)) dX8_seats_4 ⟨Nat.le_of_ble_eq_true rfl, Nat.le_of_ble_eq_true rfl⟩) (fun H locs hZ => ?_)
  refine z_ifB_ne (tgt := 12) F dX8_seats_7 (by decide) (fun c_7 => ?_) (fun c_7 => ?_)
  · skip
    refine z_aload_n F dX8_seats_12 rfl (lv_at hl 0 rfl) ?_
    refine z_get F hK hZ (64) (hd _ (by omega)) rfl (by decide) rfl hin8 1 (by decide) mX8_seats_47 rfl rfl dX8_seats_13 ?_
    have r_1 := hZ.2.1.1 (64) (1)
    refine z_bipush F (by decide) dX8_seats_16 ?_
    refine z_icmp_ne (tgt := 24) F (by omega) (by omega) dX8_seats_18 (by decide) (fun c_18 => ?_) (fun c_18 => ?_)
    · skip
      refine z_aload_n F dX8_seats_24 rfl (lv_at hl 0 rfl) ?_
      refine lv_dup F.1 F.2.1 dX8_seats_25 rfl ?_
      refine z_get F hK hZ (64) (hd _ (by omega)) rfl (by decide) rfl hin8 1 (by decide) mX8_seats_47 rfl rfl dX8_seats_26 ?_
      have r_2 := hZ.2.1.1 (64) (1)
      refine z_iconst F dX8_seats_29 ?_
      refine z_iadd F dX8_seats_30 ?_
      refine z_put (z := G 64 1 + 1) F hK hZ hDA (64) (hd _ (by omega)) rfl (by decide) rfl hin8 tyX8 tyX8_ok nmX8 1 (by decide) mX8_seats_47 rfl rfl rfl rfl (by omega) (kz := 1) rfl rfl (Nat.le_of_ble_eq_true rfl) dX8_seats_31 (fun H locs hZ => ?_)
      refine z_aload_n F dX8_seats_34 rfl (lv_at hl 0 rfl) ?_
      refine z_iload_n F dX8_seats_35 rfl (lv_at hl 1 rfl) ?_
      refine z_put (z := x) F hK hZ hDA (64) (hd _ (by omega)) rfl (by decide) rfl hin8 tyX8 tyX8_ok nmX8 0 (by decide) mX8_seats_29 rfl rfl rfl rfl (by omega) (kz := 0) rfl rfl (Nat.le_of_ble_eq_true rfl) dX8_seats_36 (fun H locs hZ => ?_)
      refine z_aload_n F dX8_seats_39 rfl (lv_at hl 0 rfl) ?_
      refine z_bxv hZ (va_runV (As := []) (rest := []) F (k_X8_anew l w dom A hDA sz (up (up G (64) (1) (G 64 1 + 1)) (64) (0) (x)) hd) (cwV 0 F.2.2.2.2 gX8_seats_X8_anew rfl rfl rfl (by decide +kernel) ⟨Nat.le_of_ble_eq_true rfl, Nat.le_of_ble_eq_true rfl⟩) (z_preV hK hZ (64) (hd _ (by omega)) rfl (by decide) rfl _) rfl rfl hl.1 rfl (lv_room (Nat.le_of_ble_eq_true rfl)) dX8_seats_40 ⟨Nat.le_of_ble_eq_true rfl, Nat.le_of_ble_eq_true rfl⟩) (fun H locs hZ => ?_)
      have nc : (anewM (up (up G (64) (1) (G 64 1 + 1)) (64) (0) (x))) 64 0 = x := rfl
      refine z_aload_n F dX8_seats_43 rfl (lv_at hl 0 rfl) ?_
      refine z_get F hK hZ (64) (hd _ (by omega)) rfl (by decide) rfl hin8 0 (by decide) mX8_seats_29 rfl rfl dX8_seats_44 ?_
      have r_3 := hZ.2.1.1 (64) (0)
      exact z_iret F hr hlocks hZ (by rw [rSeats, if_neg (by omega), if_neg c_18]; exact nc) (by rw [mSeats, if_neg (by omega), if_neg c_18]; rfl) dX8_seats_47 (by omega) (by omega)
    · skip
      refine z_bipush F (by decide) dX8_seats_21 ?_
      exact z_iret F hr hlocks hZ (by rw [rSeats, if_neg (by omega), if_pos c_18]) (by rw [mSeats, if_neg (by omega), if_pos c_18]) dX8_seats_23 (by omega) (by omega)
  · skip
    refine z_iconst F dX8_seats_10 ?_
    exact z_iret F hr hlocks hZ (by rw [rSeats, if_pos (by omega)]) (by rw [mSeats, if_pos (by omega)]) dX8_seats_11 (by omega) (by omega)
