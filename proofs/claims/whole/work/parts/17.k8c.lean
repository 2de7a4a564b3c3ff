theorem mX8_held_13 : Cond.fieldLink RX8 13 "LockedChainModel" "holds" "[Z" ∈ wsX8_held := by decide +kernel
set_option maxHeartbeats 4000000 in
set_option maxRecDepth 100000 in
theorem k_X8_held (l : Launch) (w : zW) (dom : Nat → Prop) (A : Nat → Prop) (hDA : ∀ i, dom i → A (w.2.1 + i)) (sz : Nat) (G : zM) (hd : ∀ i, 64 ≤ i ∧ i < 71 → dom i) (x : Int) (h0 : 0 ≤ x ∧ x < 7) : Met l yX8_held wsX8_held { frames := 0, cells := 0, slots := 0, locals := 0 } (zPre w dom sz G [.ref (w.2.1 + (64)), .int (zI (x))]) (zQi w dom sz (hldN G x 100) (fun C => C = G) A) (0) (0) A := by
  refine Met.ofW (cc := cX8_held) (maxL := 4) (ret := (some .int)) (by decide) rfl ?_
  intro p e s m args below meth c s₁ B hml hv
  obtain ⟨rfl, hsz, hP, hK⟩ := hv
  have F : CallFix p m c cX8_held 4 s _ wsX8_held RX8 := ⟨B.exec, B.bytes, hml, findClass_of_methodNamed B.named, atoms_spec (ws := wsX8_held) B.pre⟩
  have hr := B.returns
  have hlocks := B.notSynchronized
  have hZ : Zs w dom A s.heap sz G s.heap [] := ⟨hsz, hP, va_S.rf⟩
  have hl := lv_entry ([.ref (w.2.1 + (64)), .int (zI (x))]) (n := 4) (Nat.le_of_ble_eq_true rfl)
  rw [lg_entry_eq]
  generalize (lg_sl ([.ref (w.2.1 + (64)), .int (zI (x))]) ++ List.replicate (4 - (lg_sl ([.ref (w.2.1 + (64)), .int (zI (x))])).length) Slot.unset).toArray = ls at hl ⊢
  have hl : lv_has ls 4 [(0, .ref (w.2.1 + (64))), (1, .int (zI (x)))] := hl
  have hin8 : ∀ v ∈ u_ws RX8 TX8 10, v ∈ wsX8_held := by decide +kernel
  refine z_iconst F dX8_held_0 ?_
  refine z_istore_n (lv' := [(2, .int (zI (0))), (0, .ref (w.2.1 + (64))), (1, .int (zI (x)))]) F dX8_held_1 rfl hl (by decide) rfl (fun ls hl => ?_)
  refine z_iconst F dX8_held_2 ?_
  refine z_istore_n (lv' := [(3, .int (zI (0))), (2, .int (zI (0))), (0, .ref (w.2.1 + (64))), (1, .int (zI (x)))]) F dX8_held_3 rfl hl (by decide) rfl (fun ls hl => ?_)
  have L_4 : ∀ (nf : Nat) (i : Nat) (acc : Int), (101 ≤ i + nf) → (i ≤ 100) → (acc = hldN G x i) →  ∀ (H : Heap) (locs : List Loc) (ls : Array Slot), Zs w dom A s.heap sz G H locs → lv_has ls 4 [(0, .ref (w.2.1 + (64))), (1, .int (zI (x))), (2, .int (zI (acc))), (3, .int (zI ((i : Int))))] → W p l e (headSpec wsX8_held { frames := 0, cells := 0, slots := 0, locals := 0 }).room s m ([.ref (w.2.1 + (64)), .int (zI (x))] : List Value).toArray below meth c H locs (0) (0) (MQ below (zQi w dom sz (hldN G x 100) (fun C => C = G) A) ([.ref (w.2.1 + (64)), .int (zI (x))] : List Value).toArray s (0) (0) A) (F0 m 4 ls []) := by
    intro nf
    induction nf with
    | zero => intro i  acc  h4_0 h4_1 h4_2; exact absurd h4_0 (by omega)
    | succ nf ih_4 =>
      intro i  acc  h4_0 h4_1 h4_2 H locs ls hZ hl
      subst h4_2
      have hacc : 0 ≤ hldN G x i ∧ hldN G x i ≤ i := cntB_rng _ _
      refine z_iload_n F dX8_held_4 rfl (lv_at hl 3 rfl) ?_
      refine z_bipush F (by decide) dX8_held_5 ?_
      refine z_icmp_ge (tgt := 38) F (by omega) (by omega) dX8_held_7 (by decide) (fun c_7 => ?_) (fun c_7 => ?_)
      · skip
        refine z_iload_n F dX8_held_38 rfl (lv_at hl 2 rfl) ?_
        exact z_iret F hr hlocks hZ (by rw [show i = 100 by omega]) rfl dX8_held_39 (by omega) (by omega)
      · skip
        refine z_iload_n F dX8_held_10 rfl (lv_at hl 2 rfl) ?_
        refine z_aload_n F dX8_held_11 rfl (lv_at hl 0 rfl) ?_
        refine z_get F hK hZ (64) (hd _ (by omega)) rfl (by decide) rfl hin8 4 (by decide) mX8_held_13 rfl rfl dX8_held_12 ?_
        refine z_bipush F (by decide) dX8_held_15 ?_
        refine z_iload_n F dX8_held_17 rfl (lv_at hl 1 rfl) ?_
        refine z_imul F dX8_held_18 ?_
        refine z_iload_n F dX8_held_19 rfl (lv_at hl 3 rfl) ?_
        refine z_iadd F dX8_held_20 ?_
        refine z_zald F hK hZ (66) (hd _ (by omega)) rfl (by decide) (by omega) (by omega) dX8_held_21 ?_
        have r_1 := hZ.2.1.1 (66) (100 * x + ((i : Int)))
        refine z_if_eq (tgt := 29) F (by omega) dX8_held_22 (by decide) (fun c_22 => ?_) (fun c_22 => ?_)
        · skip
          refine z_iconst F dX8_held_29 ?_
          refine z_iadd F dX8_held_30 ?_
          refine z_istore_n (lv' := [(2, .int (zI (hldN G x i + 0))), (0, .ref (w.2.1 + (64))), (1, .int (zI (x))), (3, .int (zI ((i : Int))))]) F dX8_held_31 rfl hl (by decide) rfl (fun ls hl => ?_)
          refine z_iinc (k := 3) (z := (i : Int)) (lv' := [(3, .int (zI ((i : Int) + 1))), (2, .int (zI (hldN G x i + 0))), (0, .ref (w.2.1 + (64))), (1, .int (zI (x)))]) F dX8_held_32 hl rfl (by decide) rfl (fun ls hl => ?_)
          refine lv_goto (tgt := 4) F.1 F.2.1 dX8_held_35 (by decide) ?_
          exact ih_4 (i + 1) (hldN G x i + 0) (by omega) (by omega) (by unfold hldN; rw [cntB_S]; simp [bI, *]) _ _ _ hZ (lv_sub hl [2, 3, 1, 0] rfl)
        · skip
          refine z_iconst F dX8_held_25 ?_
          refine lv_goto (tgt := 30) F.1 F.2.1 dX8_held_26 (by decide) ?_
          refine z_iadd F dX8_held_30 ?_
          refine z_istore_n (lv' := [(2, .int (zI (hldN G x i + 1))), (0, .ref (w.2.1 + (64))), (1, .int (zI (x))), (3, .int (zI ((i : Int))))]) F dX8_held_31 rfl hl (by decide) rfl (fun ls hl => ?_)
          refine z_iinc (k := 3) (z := (i : Int)) (lv' := [(3, .int (zI ((i : Int) + 1))), (2, .int (zI (hldN G x i + 1))), (0, .ref (w.2.1 + (64))), (1, .int (zI (x)))]) F dX8_held_32 hl rfl (by decide) rfl (fun ls hl => ?_)
          refine lv_goto (tgt := 4) F.1 F.2.1 dX8_held_35 (by decide) ?_
          exact ih_4 (i + 1) (hldN G x i + 1) (by omega) (by omega) (by unfold hldN; rw [cntB_S]; simp [bI, *]) _ _ _ hZ (lv_sub hl [2, 3, 1, 0] rfl)
  exact L_4 101 0 0 (by omega) (by omega) rfl _ _ _ hZ (lv_sub hl [2, 3, 1, 0] rfl)

theorem mX8_areUnlike_23 : Cond.fieldLink RX8 23 "LockedChainModel" "letter" "[I" ∈ wsX8_areUnlike := by decide +kernel
set_option maxHeartbeats 4000000 in
set_option maxRecDepth 100000 in
theorem k_X8_areUnlike (l : Launch) (w : zW) (dom : Nat → Prop) (A : Nat → Prop) (hDA : ∀ i, dom i → A (w.2.1 + i)) (sz : Nat) (G : zM) (hd : ∀ i, 64 ≤ i ∧ i < 71 → dom i) (a b : Int) (h0 : 0 ≤ a ∧ a < 400) (h1 : 0 ≤ b ∧ b < 400) : Met l yX8_areUnlike wsX8_areUnlike { frames := 0, cells := 0, slots := 0, locals := 0 } (zPre w dom sz G [.ref (w.2.1 + (64)), .int (zI (a)), .int (zI (b))]) (zQi w dom sz (bI (unl G a b = true)) (fun C => C = G) A) (0) (0) A := by
  refine Met.ofW (cc := cX8_areUnlike) (maxL := 5) (ret := (some .boolean)) (by decide) rfl ?_
  intro p e s m args below meth c s₁ B hml hv
  obtain ⟨rfl, hsz, hP, hK⟩ := hv
  have F : CallFix p m c cX8_areUnlike 5 s _ wsX8_areUnlike RX8 := ⟨B.exec, B.bytes, hml, findClass_of_methodNamed B.named, atoms_spec (ws := wsX8_areUnlike) B.pre⟩
  have hr := B.returns
  have hlocks := B.notSynchronized
  have hZ : Zs w dom A s.heap sz G s.heap [] := ⟨hsz, hP, va_S.rf⟩
  have hl := lv_entry ([.ref (w.2.1 + (64)), .int (zI (a)), .int (zI (b))]) (n := 5) (Nat.le_of_ble_eq_true rfl)
  rw [lg_entry_eq]
  generalize (lg_sl ([.ref (w.2.1 + (64)), .int (zI (a)), .int (zI (b))]) ++ List.replicate (5 - (lg_sl ([.ref (w.2.1 + (64)), .int (zI (a)), .int (zI (b))])).length) Slot.unset).toArray = ls at hl ⊢
  have hl : lv_has ls 5 [(0, .ref (w.2.1 + (64))), (1, .int (zI (a))), (2, .int (zI (b)))] := hl
  have hin8 : ∀ v ∈ u_ws RX8 TX8 10, v ∈ wsX8_areUnlike := by decide +kernel
  refine z_iconst F dX8_areUnlike_0 ?_
  refine z_istore_n (lv' := [(3, .int (zI (1))), (0, .ref (w.2.1 + (64))), (1, .int (zI (a))), (2, .int (zI (b)))]) F dX8_areUnlike_1 rfl hl (by decide) rfl (fun ls hl => ?_)
  refine z_iconst F dX8_areUnlike_2 ?_
  refine z_istore (lv' := [(4, .int (zI (0))), (3, .int (zI (1))), (0, .ref (w.2.1 + (64))), (1, .int (zI (a))), (2, .int (zI (b)))]) F dX8_areUnlike_3 hl (by decide) rfl (fun ls hl => ?_)
  have L_5 : ∀ (nf : Nat) (i : Nat) (same : Int), (5 ≤ i + nf) → (i ≤ 4) → (same = bI (alE G a b i = true)) →  ∀ (H : Heap) (locs : List Loc) (ls : Array Slot), Zs w dom A s.heap sz G H locs → lv_has ls 5 [(0, .ref (w.2.1 + (64))), (1, .int (zI (a))), (2, .int (zI (b))), (3, .int (zI (same))), (4, .int (zI ((i : Int))))] → W p l e (headSpec wsX8_areUnlike { frames := 0, cells := 0, slots := 0, locals := 0 }).room s m ([.ref (w.2.1 + (64)), .int (zI (a)), .int (zI (b))] : List Value).toArray below meth c H locs (0) (0) (MQ below (zQi w dom sz (bI (unl G a b = true)) (fun C => C = G) A) ([.ref (w.2.1 + (64)), .int (zI (a)), .int (zI (b))] : List Value).toArray s (0) (0) A) (F0 m 5 ls []) := by
    intro nf
    induction nf with
    | zero => intro i  same  h5_0 h5_1 h5_2; exact absurd h5_0 (by omega)
    | succ nf ih_5 =>
      intro i  same  h5_0 h5_1 h5_2 H locs ls hZ hl
      subst h5_2
      refine z_iload F dX8_areUnlike_5 (lv_at hl 4 rfl) ?_
      refine z_iconst F dX8_areUnlike_7 ?_
      refine z_icmp_gt (tgt := 54) F (by omega) (by omega) dX8_areUnlike_8 (by decide) (fun c_8 => ?_) (fun c_8 => ?_)
      · skip
        have hi : i = 4 := by omega
        refine z_iload_n F dX8_areUnlike_54 rfl (lv_at hl 3 rfl) ?_
        refine z_ifB_eq (tgt := 112) F dX8_areUnlike_55 (by decide) (fun c_55 => ?_) (fun c_55 => ?_)
        · skip
          refine z_iconst F dX8_areUnlike_112 ?_
          exact z_zret F hr hlocks hZ (by unfold unl; rw [← hi]; first | exact bI_1 (by rw [Bool.and_eq_true, decide_eq_true_eq]; exact ⟨c_55, by omega⟩) | exact bI_0 (fun q => by rw [Bool.and_eq_true, decide_eq_true_eq] at q; first | exact c_55 q.1 | (have q2 := q.2; omega))) (by omega) rfl dX8_areUnlike_113 (by omega) (by omega)
        · skip
          refine z_aload_n F dX8_areUnlike_58 rfl (lv_at hl 0 rfl) ?_
          refine z_get F hK hZ (64) (hd _ (by omega)) rfl (by decide) rfl hin8 8 (by decide) mX8_areUnlike_23 rfl rfl dX8_areUnlike_59 ?_
          refine z_bipush F (by decide) dX8_areUnlike_62 ?_
          refine z_iload_n F dX8_areUnlike_64 rfl (lv_at hl 1 rfl) ?_
          refine z_imul F dX8_areUnlike_65 ?_
          refine z_iconst F dX8_areUnlike_66 ?_
          refine z_iadd F dX8_areUnlike_67 ?_
          refine z_iald F hK hZ (69) (hd _ (by omega)) rfl (by decide) (by omega) (by omega) dX8_areUnlike_68 ?_
          have r_1 := hZ.2.1.1 (69) (6 * a + 4)
          refine z_aload_n F dX8_areUnlike_69 rfl (lv_at hl 0 rfl) ?_
          refine z_get F hK hZ (64) (hd _ (by omega)) rfl (by decide) rfl hin8 8 (by decide) mX8_areUnlike_23 rfl rfl dX8_areUnlike_70 ?_
          refine z_bipush F (by decide) dX8_areUnlike_73 ?_
          refine z_iload_n F dX8_areUnlike_75 rfl (lv_at hl 2 rfl) ?_
          refine z_imul F dX8_areUnlike_76 ?_
          refine z_iconst F dX8_areUnlike_77 ?_
          refine z_iadd F dX8_areUnlike_78 ?_
          refine z_iald F hK hZ (69) (hd _ (by omega)) rfl (by decide) (by omega) (by omega) dX8_areUnlike_79 ?_
          have r_2 := hZ.2.1.1 (69) (6 * b + 4)
          refine z_icmp_ne (tgt := 108) F (by omega) (by omega) dX8_areUnlike_80 (by decide) (fun c_80 => ?_) (fun c_80 => ?_)
          · skip
            refine z_iconst F dX8_areUnlike_108 ?_
            refine lv_goto (tgt := 113) F.1 F.2.1 dX8_areUnlike_109 (by decide) ?_
            exact z_zret F hr hlocks hZ (by unfold unl; rw [← hi]; first | exact bI_1 (by rw [Bool.and_eq_true, decide_eq_true_eq]; exact ⟨c_55, by omega⟩) | exact bI_0 (fun q => by rw [Bool.and_eq_true, decide_eq_true_eq] at q; first | exact c_55 q.1 | (have q2 := q.2; omega))) (by omega) rfl dX8_areUnlike_113 (by omega) (by omega)
          · skip
            refine z_aload_n F dX8_areUnlike_83 rfl (lv_at hl 0 rfl) ?_
            refine z_get F hK hZ (64) (hd _ (by omega)) rfl (by decide) rfl hin8 8 (by decide) mX8_areUnlike_23 rfl rfl dX8_areUnlike_84 ?_
            refine z_bipush F (by decide) dX8_areUnlike_87 ?_
            refine z_iload_n F dX8_areUnlike_89 rfl (lv_at hl 1 rfl) ?_
            refine z_imul F dX8_areUnlike_90 ?_
            refine z_iconst F dX8_areUnlike_91 ?_
            refine z_iadd F dX8_areUnlike_92 ?_
            refine z_iald F hK hZ (69) (hd _ (by omega)) rfl (by decide) (by omega) (by omega) dX8_areUnlike_93 ?_
            have r_3 := hZ.2.1.1 (69) (6 * a + 5)
            refine z_aload_n F dX8_areUnlike_94 rfl (lv_at hl 0 rfl) ?_
            refine z_get F hK hZ (64) (hd _ (by omega)) rfl (by decide) rfl hin8 8 (by decide) mX8_areUnlike_23 rfl rfl dX8_areUnlike_95 ?_
            refine z_bipush F (by decide) dX8_areUnlike_98 ?_
            refine z_iload_n F dX8_areUnlike_100 rfl (lv_at hl 2 rfl) ?_
            refine z_imul F dX8_areUnlike_101 ?_
            refine z_iconst F dX8_areUnlike_102 ?_
            refine z_iadd F dX8_areUnlike_103 ?_
            refine z_iald F hK hZ (69) (hd _ (by omega)) rfl (by decide) (by omega) (by omega) dX8_areUnlike_104 ?_
            have r_4 := hZ.2.1.1 (69) (6 * b + 5)
            refine z_icmp_eq (tgt := 112) F (by omega) (by omega) dX8_areUnlike_105 (by decide) (fun c_105 => ?_) (fun c_105 => ?_)
            · skip
              refine z_iconst F dX8_areUnlike_112 ?_
              exact z_zret F hr hlocks hZ (by unfold unl; rw [← hi]; first | exact bI_1 (by rw [Bool.and_eq_true, decide_eq_true_eq]; exact ⟨c_55, by omega⟩) | exact bI_0 (fun q => by rw [Bool.and_eq_true, decide_eq_true_eq] at q; first | exact c_55 q.1 | (have q2 := q.2; omega))) (by omega) rfl dX8_areUnlike_113 (by omega) (by omega)
            · skip
              refine z_iconst F dX8_areUnlike_108 ?_
              refine lv_goto (tgt := 113) F.1 F.2.1 dX8_areUnlike_109 (by decide) ?_
              exact z_zret F hr hlocks hZ (by unfold unl; rw [← hi]; first | exact bI_1 (by rw [Bool.and_eq_true, decide_eq_true_eq]; exact ⟨c_55, by omega⟩) | exact bI_0 (fun q => by rw [Bool.and_eq_true, decide_eq_true_eq] at q; first | exact c_55 q.1 | (have q2 := q.2; omega))) (by omega) rfl dX8_areUnlike_113 (by omega) (by omega)
      · skip
        refine z_iload_n F dX8_areUnlike_11 rfl (lv_at hl 3 rfl) ?_
        refine z_ifB_eq (tgt := 46) F dX8_areUnlike_12 (by decide) (fun c_12 => ?_) (fun c_12 => ?_)
        · skip
          refine z_iconst F dX8_areUnlike_46 ?_
          refine z_istore_n (lv' := [(3, .int (zI (0))), (0, .ref (w.2.1 + (64))), (1, .int (zI (a))), (2, .int (zI (b))), (4, .int (zI ((i : Int))))]) F dX8_areUnlike_47 rfl hl (by decide) rfl (fun ls hl => ?_)
          refine z_iinc (k := 4) (z := (i : Int)) (lv' := [(4, .int (zI ((i : Int) + 1))), (3, .int (zI (0))), (0, .ref (w.2.1 + (64))), (1, .int (zI (a))), (2, .int (zI (b)))]) F dX8_areUnlike_48 hl rfl (by decide) rfl (fun ls hl => ?_)
          refine lv_goto (tgt := 5) F.1 F.2.1 dX8_areUnlike_51 (by decide) ?_
          exact ih_5 (i + 1) (0) (by omega) (by omega) (by first | exact bI_1 ((alE_S _ _ _ _).mpr ⟨c_12, c_39⟩) | exact bI_0 (fun q => c_12 ((alE_S _ _ _ _).mp q).1) | exact bI_0 (fun q => c_39 ((alE_S _ _ _ _).mp q).2)) _ _ _ hZ (lv_sub hl [2, 3, 4, 1, 0] rfl)
        · skip
          refine z_aload_n F dX8_areUnlike_15 rfl (lv_at hl 0 rfl) ?_
          refine z_get F hK hZ (64) (hd _ (by omega)) rfl (by decide) rfl hin8 8 (by decide) mX8_areUnlike_23 rfl rfl dX8_areUnlike_16 ?_
          refine z_bipush F (by decide) dX8_areUnlike_19 ?_
          refine z_iload_n F dX8_areUnlike_21 rfl (lv_at hl 1 rfl) ?_
          refine z_imul F dX8_areUnlike_22 ?_
          refine z_iload F dX8_areUnlike_23 (lv_at hl 4 rfl) ?_
          refine z_iadd F dX8_areUnlike_25 ?_
          refine z_iald F hK hZ (69) (hd _ (by omega)) rfl (by decide) (by omega) (by omega) dX8_areUnlike_26 ?_
          have r_5 := hZ.2.1.1 (69) (6 * a + ((i : Int)))
          refine z_aload_n F dX8_areUnlike_27 rfl (lv_at hl 0 rfl) ?_
          refine z_get F hK hZ (64) (hd _ (by omega)) rfl (by decide) rfl hin8 8 (by decide) mX8_areUnlike_23 rfl rfl dX8_areUnlike_28 ?_
          refine z_bipush F (by decide) dX8_areUnlike_31 ?_
          refine z_iload_n F dX8_areUnlike_33 rfl (lv_at hl 2 rfl) ?_
          refine z_imul F dX8_areUnlike_34 ?_
          refine z_iload F dX8_areUnlike_35 (lv_at hl 4 rfl) ?_
          refine z_iadd F dX8_areUnlike_37 ?_
          refine z_iald F hK hZ (69) (hd _ (by omega)) rfl (by decide) (by omega) (by omega) dX8_areUnlike_38 ?_
          have r_6 := hZ.2.1.1 (69) (6 * b + ((i : Int)))
          refine z_icmp_ne (tgt := 46) F (by omega) (by omega) dX8_areUnlike_39 (by decide) (fun c_39 => ?_) (fun c_39 => ?_)
          · skip
            refine z_iconst F dX8_areUnlike_46 ?_
            refine z_istore_n (lv' := [(3, .int (zI (0))), (0, .ref (w.2.1 + (64))), (1, .int (zI (a))), (2, .int (zI (b))), (4, .int (zI ((i : Int))))]) F dX8_areUnlike_47 rfl hl (by decide) rfl (fun ls hl => ?_)
            refine z_iinc (k := 4) (z := (i : Int)) (lv' := [(4, .int (zI ((i : Int) + 1))), (3, .int (zI (0))), (0, .ref (w.2.1 + (64))), (1, .int (zI (a))), (2, .int (zI (b)))]) F dX8_areUnlike_48 hl rfl (by decide) rfl (fun ls hl => ?_)
            refine lv_goto (tgt := 5) F.1 F.2.1 dX8_areUnlike_51 (by decide) ?_
            exact ih_5 (i + 1) (0) (by omega) (by omega) (by first | exact bI_1 ((alE_S _ _ _ _).mpr ⟨c_12, c_39⟩) | exact bI_0 (fun q => c_12 ((alE_S _ _ _ _).mp q).1) | exact bI_0 (fun q => c_39 ((alE_S _ _ _ _).mp q).2)) _ _ _ hZ (lv_sub hl [2, 3, 4, 1, 0] rfl)
          · skip
            refine z_iconst F dX8_areUnlike_42 ?_
            refine lv_goto (tgt := 47) F.1 F.2.1 dX8_areUnlike_43 (by decide) ?_
            refine z_istore_n (lv' := [(3, .int (zI (1))), (0, .ref (w.2.1 + (64))), (1, .int (zI (a))), (2, .int (zI (b))), (4, .int (zI ((i : Int))))]) F dX8_areUnlike_47 rfl hl (by decide) rfl (fun ls hl => ?_)
            refine z_iinc (k := 4) (z := (i : Int)) (lv' := [(4, .int (zI ((i : Int) + 1))), (3, .int (zI (1))), (0, .ref (w.2.1 + (64))), (1, .int (zI (a))), (2, .int (zI (b)))]) F dX8_areUnlike_48 hl rfl (by decide) rfl (fun ls hl => ?_)
            refine lv_goto (tgt := 5) F.1 F.2.1 dX8_areUnlike_51 (by decide) ?_
            exact ih_5 (i + 1) (1) (by omega) (by omega) (by first | exact bI_1 ((alE_S _ _ _ _).mpr ⟨c_12, c_39⟩) | exact bI_0 (fun q => c_12 ((alE_S _ _ _ _).mp q).1) | exact bI_0 (fun q => c_39 ((alE_S _ _ _ _).mp q).2)) _ _ _ hZ (lv_sub hl [2, 3, 4, 1, 0] rfl)
  exact L_5 5 0 1 (by omega) (by omega) (by simp [alE, bI]) _ _ _ hZ (lv_sub hl [2, 3, 4, 1, 0] rfl)

theorem mX8_shown_23 : Cond.fieldLink RX8 23 "LockedChainModel" "letter" "[I" ∈ wsX8_shown := by decide +kernel
theorem mX8_shown_26 : Cond.fieldLink RX8 26 "LockedChainModel" "came" "[Z" ∈ wsX8_shown := by decide +kernel
theorem mX8_shown_44 : Cond.fieldLink RX8 44 "LockedChainModel" "letters" "I" ∈ wsX8_shown := by decide +kernel
set_option maxHeartbeats 4000000 in
set_option maxRecDepth 100000 in
theorem k_X8_shown (l : Launch) (w : zW) (dom : Nat → Prop) (A : Nat → Prop) (hDA : ∀ i, dom i → A (w.2.1 + i)) (sz : Nat) (G : zM) (hd : ∀ i, 64 ≤ i ∧ i < 71 → dom i) (hI : Inv G) (x t : Int) (hx : -2147483648 ≤ x ∧ x < 2147483648) (ht : -2147483648 ≤ t ∧ t < 2147483648) : Met l yX8_shown wsX8_shown { frames := 2, cells := 0, slots := 0, locals := 43 } (zPre w dom sz G [.ref (w.2.1 + (64)), .int (zI (x)), .int (zI (t))]) (zQi w dom sz (rShown G x t) (fun C => C = G) A) (0) (0) A := by
  refine Met.ofW (cc := cX8_shown) (maxL := 6) (ret := (some .int)) (by decide) rfl ?_
  intro p e s m args below meth c s₁ B hml hv
  obtain ⟨rfl, hsz, hP, hK⟩ := hv
  have F : CallFix p m c cX8_shown 6 s _ wsX8_shown RX8 := ⟨B.exec, B.bytes, hml, findClass_of_methodNamed B.named, atoms_spec (ws := wsX8_shown) B.pre⟩
  have hr := B.returns
  have hlocks := B.notSynchronized
  have hZ : Zs w dom A s.heap sz G s.heap [] := ⟨hsz, hP, va_S.rf⟩
  have hl := lv_entry ([.ref (w.2.1 + (64)), .int (zI (x)), .int (zI (t))]) (n := 6) (Nat.le_of_ble_eq_true rfl)
  rw [lg_entry_eq]
  generalize (lg_sl ([.ref (w.2.1 + (64)), .int (zI (x)), .int (zI (t))]) ++ List.replicate (6 - (lg_sl ([.ref (w.2.1 + (64)), .int (zI (x)), .int (zI (t))])).length) Slot.unset).toArray = ls at hl ⊢
  have hl : lv_has ls 6 [(0, .ref (w.2.1 + (64))), (1, .int (zI (x))), (2, .int (zI (t)))] := hl
  have hin8 : ∀ v ∈ u_ws RX8 TX8 10, v ∈ wsX8_shown := by decide +kernel
  have hn := hI.1
  have hL := hI.2.2.2.1
  refine z_aload_n F dX8_shown_0 rfl (lv_at hl 0 rfl) ?_
  refine z_iload_n F dX8_shown_1 rfl (lv_at hl 1 rfl) ?_
  refine z_bxi hZ (va_runV (As := [.int (zI (x))]) (rest := []) F (k_X8_isSeat l w dom A hDA sz G hd (by omega) x (by omega)) (cwV 1 F.2.2.2.2 gX8_shown_X8_isSeat rfl rfl rfl (by decide +kernel) ⟨Nat.le_of_ble_eq_true rfl, Nat.le_of_ble_eq_true rfl⟩) (z_preV hK hZ (64) (hd _ (by omega)) rfl (by decide) rfl _) rfl rfl hl.1 rfl (lv_room (Nat.le_of_ble_eq_true rfl)) dX8_shown_2 ⟨Nat.le_of_ble_eq_true rfl, Nat.le_of_ble_eq_true rfl⟩) (fun H locs hZ => ?_)
  refine z_ifB_eq (tgt := 16) F dX8_shown_5 (by decide) (fun c_5 => ?_) (fun c_5 => ?_)
  · skip
    refine z_iconst F dX8_shown_16 ?_
    exact z_iret F hr hlocks hZ (by unfold rShown; (repeat' split) <;> first | rfl | omega) rfl dX8_shown_17 (by omega) (by omega)
  · skip
    refine z_aload_n F dX8_shown_8 rfl (lv_at hl 0 rfl) ?_
    refine z_iload_n F dX8_shown_9 rfl (lv_at hl 2 rfl) ?_
    refine z_bxi hZ (va_runV (As := [.int (zI (t))]) (rest := []) F (k_X8_isSeat l w dom A hDA sz G hd (by omega) t (by omega)) (cwV 1 F.2.2.2.2 gX8_shown_X8_isSeat rfl rfl rfl (by decide +kernel) ⟨Nat.le_of_ble_eq_true rfl, Nat.le_of_ble_eq_true rfl⟩) (z_preV hK hZ (64) (hd _ (by omega)) rfl (by decide) rfl _) rfl rfl hl.1 rfl (lv_room (Nat.le_of_ble_eq_true rfl)) dX8_shown_10 ⟨Nat.le_of_ble_eq_true rfl, Nat.le_of_ble_eq_true rfl⟩) (fun H locs hZ => ?_)
    refine z_ifB_ne (tgt := 18) F dX8_shown_13 (by decide) (fun c_13 => ?_) (fun c_13 => ?_)
    · skip
      refine z_iconst F dX8_shown_18 ?_
      refine z_istore_n (lv' := [(3, .int (zI (0))), (0, .ref (w.2.1 + (64))), (1, .int (zI (x))), (2, .int (zI (t)))]) F dX8_shown_19 rfl hl (by decide) rfl (fun ls hl => ?_)
      refine z_iconst F dX8_shown_20 ?_
      refine z_istore (lv' := [(4, .int (zI (0))), (3, .int (zI (0))), (0, .ref (w.2.1 + (64))), (1, .int (zI (x))), (2, .int (zI (t)))]) F dX8_shown_21 hl (by decide) rfl (fun ls hl => ?_)
      have L_23 : ∀ (nf : Nat) (i : Nat) (is : Int), ((G 64 7).toNat + 1 ≤ i + nf) → (i ≤ (G 64 7).toNat) → (is = bI (anyB (shA G x t) i = true)) →  ∀ (H : Heap) (locs : List Loc) (ls : Array Slot), Zs w dom A s.heap sz G H locs → lv_has ls 6 [(0, .ref (w.2.1 + (64))), (1, .int (zI (x))), (2, .int (zI (t))), (3, .int (zI (is))), (4, .int (zI ((i : Int))))] → W p l e (headSpec wsX8_shown { frames := 2, cells := 0, slots := 0, locals := 43 }).room s m ([.ref (w.2.1 + (64)), .int (zI (x)), .int (zI (t))] : List Value).toArray below meth c H locs (0 + 0 + 0) (0 + 0 + 0) (MQ below (zQi w dom sz (rShown G x t) (fun C => C = G) A) ([.ref (w.2.1 + (64)), .int (zI (x)), .int (zI (t))] : List Value).toArray s (0) (0) A) (F0 m 23 ls []) := by
        intro nf
        induction nf with
        | zero => intro i  is  h23_0 h23_1 h23_2; exact absurd h23_0 (by omega)
        | succ nf ih_23 =>
          intro i  is  h23_0 h23_1 h23_2 H locs ls hZ hl
          subst h23_2
          refine z_iload F dX8_shown_23 (lv_at hl 4 rfl) ?_
          refine z_aload_n F dX8_shown_25 rfl (lv_at hl 0 rfl) ?_
          refine z_get F hK hZ (64) (hd _ (by omega)) rfl (by decide) rfl hin8 7 (by decide) mX8_shown_44 rfl rfl dX8_shown_26 ?_
          have r_1 := hZ.2.1.1 (64) (7)
          refine z_icmp_ge (tgt := 121) F (by omega) (by omega) dX8_shown_29 (by decide) (fun c_29 => ?_) (fun c_29 => ?_)
          · skip
            have hi : i = (G 64 7).toNat := by omega
            refine z_iload_n F dX8_shown_121 rfl (lv_at hl 3 rfl) ?_
            refine z_ifB_eq (tgt := 129) F dX8_shown_122 (by decide) (fun c_122 => ?_) (fun c_122 => ?_)
            · skip
              refine z_iconst F dX8_shown_129 ?_
              exact z_iret F hr hlocks hZ (by unfold rShown; rw [if_neg (fun q => q ⟨c_5, c_13⟩), ← hi]; first | exact bI_1 c_122 | exact bI_0 c_122) rfl dX8_shown_130 (by omega) (by omega)
            · skip
              refine z_iconst F dX8_shown_125 ?_
              refine lv_goto (tgt := 130) F.1 F.2.1 dX8_shown_126 (by decide) ?_
              exact z_iret F hr hlocks hZ (by unfold rShown; rw [if_neg (fun q => q ⟨c_5, c_13⟩), ← hi]; first | exact bI_1 c_122 | exact bI_0 c_122) rfl dX8_shown_130 (by omega) (by omega)
          · skip
            refine z_iconst F dX8_shown_32 ?_
            refine z_istore (lv' := [(5, .int (zI (0))), (0, .ref (w.2.1 + (64))), (1, .int (zI (x))), (2, .int (zI (t))), (3, .int (zI (bI (anyB (shA G x t) i = true)))), (4, .int (zI ((i : Int))))]) F dX8_shown_33 hl (by decide) rfl (fun ls hl => ?_)
            have L_35 : ∀ (nf : Nat) (j : Nat) (is : Int), (i + 1 ≤ j + nf) → (j ≤ i) → (j = 0 ∨ (G 69 (6 * (i : Int) + 0) = t ∧ G 70 (7 * (i : Int) + x) ≠ 0)) → (is = bI (anyB (shA G x t) i = true ∨ anyB (shB G x i) j = true)) →  ∀ (H : Heap) (locs : List Loc) (ls : Array Slot), Zs w dom A s.heap sz G H locs → lv_has ls 6 [(0, .ref (w.2.1 + (64))), (1, .int (zI (x))), (2, .int (zI (t))), (3, .int (zI (is))), (4, .int (zI ((i : Int)))), (5, .int (zI ((j : Int))))] → W p l e (headSpec wsX8_shown { frames := 2, cells := 0, slots := 0, locals := 43 }).room s m ([.ref (w.2.1 + (64)), .int (zI (x)), .int (zI (t))] : List Value).toArray below meth c H locs (0 + 0 + 0) (0 + 0 + 0) (MQ below (zQi w dom sz (rShown G x t) (fun C => C = G) A) ([.ref (w.2.1 + (64)), .int (zI (x)), .int (zI (t))] : List Value).toArray s (0) (0) A) (F0 m 35 ls []) := by
              intro nf
              induction nf with
              | zero => intro j  is  h35_0 h35_1 h35_2 h35_3; exact absurd h35_0 (by omega)
              | succ nf ih_35 =>
                intro j  is  h35_0 h35_1 h35_2 h35_3 H locs ls hZ hl
                subst h35_3
                refine z_iload F dX8_shown_35 (lv_at hl 5 rfl) ?_
                refine z_iload F dX8_shown_37 (lv_at hl 4 rfl) ?_
                refine z_icmp_ge (tgt := 115) F (by omega) (by omega) dX8_shown_39 (by decide) (fun c_39 => ?_) (fun c_39 => ?_)
                · skip
                  have hj : j = i := by omega
                  have hA : (anyB (shA G x t) i = true ∨ anyB (shB G x i) j = true) ↔ anyB (shA G x t) (i + 1) = true := by
                    rw [anyB_S, hj]
                    refine ⟨fun q => q.elim Or.inl (fun q => Or.inr ?_), fun q => q.elim Or.inl (fun q => Or.inr ?_)⟩
                    · unfold shA; rw [Bool.and_eq_true, decide_eq_true_eq]; refine ⟨h35_2.resolve_left (fun z => ?_), q⟩; rw [← hj, z] at q; cases q
                    · unfold shA at q; rw [Bool.and_eq_true] at q; exact q.2
                  refine z_iinc (k := 4) (z := (i : Int)) (lv' := [(4, .int (zI ((i : Int) + 1))), (0, .ref (w.2.1 + (64))), (1, .int (zI (x))), (2, .int (zI (t))), (3, .int (zI (bI (anyB (shA G x t) i = true ∨ anyB (shB G x i) j = true)))), (5, .int (zI ((j : Int))))]) F dX8_shown_115 hl rfl (by decide) rfl (fun ls hl => ?_)
                  refine lv_goto (tgt := 23) F.1 F.2.1 dX8_shown_118 (by decide) ?_
                  exact ih_23 (i + 1) (bI (anyB (shA G x t) i = true ∨ anyB (shB G x i) j = true)) (by omega) (by omega) (bI_c hA) _ _ _ hZ (lv_sub hl [1, 2, 3, 4, 0] rfl)
                · skip
                  refine z_aload_n F dX8_shown_42 rfl (lv_at hl 0 rfl) ?_
                  refine z_get F hK hZ (64) (hd _ (by omega)) rfl (by decide) rfl hin8 8 (by decide) mX8_shown_23 rfl rfl dX8_shown_43 ?_
                  refine z_bipush F (by decide) dX8_shown_46 ?_
                  refine z_iload F dX8_shown_48 (lv_at hl 4 rfl) ?_
                  refine z_imul F dX8_shown_50 ?_
                  refine z_iconst F dX8_shown_51 ?_
                  refine z_iadd F dX8_shown_52 ?_
                  refine z_iald F hK hZ (69) (hd _ (by omega)) rfl (by decide) (by omega) (by omega) dX8_shown_53 ?_
                  have r_2 := hZ.2.1.1 (69) (6 * ((i : Int)) + 0)
                  refine z_iload_n F dX8_shown_54 rfl (lv_at hl 2 rfl) ?_
                  refine z_icmp_ne (tgt := 115) F (by omega) (by omega) dX8_shown_55 (by decide) (fun c_55 => ?_) (fun c_55 => ?_)
                  · skip
                    have hj : j = 0 := h35_2.resolve_right (fun z => c_55 z.1)
                    have hA : (anyB (shA G x t) i = true ∨ anyB (shB G x i) j = true) ↔ anyB (shA G x t) (i + 1) = true := by
                      rw [anyB_S, hj]
                      refine ⟨fun q => q.elim Or.inl (fun q => by cases q), fun q => q.elim Or.inl (fun q => ?_)⟩
                      unfold shA at q; rw [Bool.and_eq_true, decide_eq_true_eq] at q; exact absurd q.1 (fun z => c_55 z.1)
                    refine z_iinc (k := 4) (z := (i : Int)) (lv' := [(4, .int (zI ((i : Int) + 1))), (0, .ref (w.2.1 + (64))), (1, .int (zI (x))), (2, .int (zI (t))), (3, .int (zI (bI (anyB (shA G x t) i = true ∨ anyB (shB G x i) j = true)))), (5, .int (zI ((j : Int))))]) F dX8_shown_115 hl rfl (by decide) rfl (fun ls hl => ?_)
                    refine lv_goto (tgt := 23) F.1 F.2.1 dX8_shown_118 (by decide) ?_
                    exact ih_23 (i + 1) (bI (anyB (shA G x t) i = true ∨ anyB (shB G x i) j = true)) (by omega) (by omega) (bI_c hA) _ _ _ hZ (lv_sub hl [1, 2, 3, 4, 0] rfl)
                  · skip
                    refine z_aload_n F dX8_shown_58 rfl (lv_at hl 0 rfl) ?_
                    refine z_get F hK hZ (64) (hd _ (by omega)) rfl (by decide) rfl hin8 9 (by decide) mX8_shown_26 rfl rfl dX8_shown_59 ?_
                    refine z_bipush F (by decide) dX8_shown_62 ?_
                    refine z_iload F dX8_shown_64 (lv_at hl 4 rfl) ?_
                    refine z_imul F dX8_shown_66 ?_
                    refine z_iload_n F dX8_shown_67 rfl (lv_at hl 1 rfl) ?_
                    refine z_iadd F dX8_shown_68 ?_
                    refine z_zald F hK hZ (70) (hd _ (by omega)) rfl (by decide) (by omega) (by omega) dX8_shown_69 ?_
                    have r_3 := hZ.2.1.1 (70) (7 * ((i : Int)) + x)
                    refine z_if_eq (tgt := 115) F (by omega) dX8_shown_70 (by decide) (fun c_70 => ?_) (fun c_70 => ?_)
                    · skip
                      have hj : j = 0 := h35_2.resolve_right (fun z => z.2 c_70)
                      have hA : (anyB (shA G x t) i = true ∨ anyB (shB G x i) j = true) ↔ anyB (shA G x t) (i + 1) = true := by
                        rw [anyB_S, hj]
                        refine ⟨fun q => q.elim Or.inl (fun q => by cases q), fun q => q.elim Or.inl (fun q => ?_)⟩
                        unfold shA at q; rw [Bool.and_eq_true, decide_eq_true_eq] at q; exact absurd q.1 (fun z => z.2 c_70)
                      refine z_iinc (k := 4) (z := (i : Int)) (lv' := [(4, .int (zI ((i : Int) + 1))), (0, .ref (w.2.1 + (64))), (1, .int (zI (x))), (2, .int (zI (t))), (3, .int (zI (bI (anyB (shA G x t) i = true ∨ anyB (shB G x i) j = true)))), (5, .int (zI ((j : Int))))]) F dX8_shown_115 hl rfl (by decide) rfl (fun ls hl => ?_)
                      refine lv_goto (tgt := 23) F.1 F.2.1 dX8_shown_118 (by decide) ?_
                      exact ih_23 (i + 1) (bI (anyB (shA G x t) i = true ∨ anyB (shB G x i) j = true)) (by omega) (by omega) (bI_c hA) _ _ _ hZ (lv_sub hl [1, 2, 3, 4, 0] rfl)
                    · skip
                      refine z_iload_n F dX8_shown_73 rfl (lv_at hl 3 rfl) ?_
                      refine z_ifB_ne (tgt := 103) F dX8_shown_74 (by decide) (fun c_74 => ?_) (fun c_74 => ?_)
                      · skip
                        refine z_iconst F dX8_shown_103 ?_
                        refine lv_goto (tgt := 108) F.1 F.2.1 dX8_shown_104 (by decide) ?_
                        refine z_istore_n (lv' := [(3, .int (zI (1))), (0, .ref (w.2.1 + (64))), (1, .int (zI (x))), (2, .int (zI (t))), (4, .int (zI ((i : Int)))), (5, .int (zI ((j : Int))))]) F dX8_shown_108 rfl hl (by decide) rfl (fun ls hl => ?_)
                        refine z_iinc (k := 5) (z := (j : Int)) (lv' := [(5, .int (zI ((j : Int) + 1))), (3, .int (zI (1))), (0, .ref (w.2.1 + (64))), (1, .int (zI (x))), (2, .int (zI (t))), (4, .int (zI ((i : Int))))]) F dX8_shown_109 hl rfl (by decide) rfl (fun ls hl => ?_)
                        refine lv_goto (tgt := 35) F.1 F.2.1 dX8_shown_112 (by decide) ?_
                        exact ih_35 (j + 1) (1) (by omega) (by omega) (Or.inr ⟨c_55, c_70⟩) (by first | exact bI_1 (c_74.elim Or.inl (fun q => Or.inr ((anyB_S _ _).mpr (Or.inl q)))) | exact bI_1 (Or.inr ((anyB_S _ _).mpr (Or.inr (by unfold shB; rw [Bool.and_eq_true, decide_eq_true_eq]; exact ⟨c_89, c_100⟩)))) | exact bI_0 (fun q => q.elim (fun q => c_74 (Or.inl q)) (fun q => ((anyB_S _ _).mp q).elim (fun q => c_74 (Or.inr q)) (fun q => by unfold shB at q; rw [Bool.and_eq_true, decide_eq_true_eq] at q; first | exact q.1 c_89 | exact c_100 q.2)))) _ _ _ hZ (lv_sub hl [2, 3, 4, 1, 5, 0] rfl)
                      · skip
                        refine z_aload_n F dX8_shown_77 rfl (lv_at hl 0 rfl) ?_
                        refine z_get F hK hZ (64) (hd _ (by omega)) rfl (by decide) rfl hin8 9 (by decide) mX8_shown_26 rfl rfl dX8_shown_78 ?_
                        refine z_bipush F (by decide) dX8_shown_81 ?_
                        refine z_iload F dX8_shown_83 (lv_at hl 5 rfl) ?_
                        refine z_imul F dX8_shown_85 ?_
                        refine z_iload_n F dX8_shown_86 rfl (lv_at hl 1 rfl) ?_
                        refine z_iadd F dX8_shown_87 ?_
                        refine z_zald F hK hZ (70) (hd _ (by omega)) rfl (by decide) (by omega) (by omega) dX8_shown_88 ?_
                        have r_4 := hZ.2.1.1 (70) (7 * ((j : Int)) + x)
                        refine z_if_eq (tgt := 107) F (by omega) dX8_shown_89 (by decide) (fun c_89 => ?_) (fun c_89 => ?_)
                        · skip
                          refine z_iconst F dX8_shown_107 ?_
                          refine z_istore_n (lv' := [(3, .int (zI (0))), (0, .ref (w.2.1 + (64))), (1, .int (zI (x))), (2, .int (zI (t))), (4, .int (zI ((i : Int)))), (5, .int (zI ((j : Int))))]) F dX8_shown_108 rfl hl (by decide) rfl (fun ls hl => ?_)
                          refine z_iinc (k := 5) (z := (j : Int)) (lv' := [(5, .int (zI ((j : Int) + 1))), (3, .int (zI (0))), (0, .ref (w.2.1 + (64))), (1, .int (zI (x))), (2, .int (zI (t))), (4, .int (zI ((i : Int))))]) F dX8_shown_109 hl rfl (by decide) rfl (fun ls hl => ?_)
                          refine lv_goto (tgt := 35) F.1 F.2.1 dX8_shown_112 (by decide) ?_
                          exact ih_35 (j + 1) (0) (by omega) (by omega) (Or.inr ⟨c_55, c_70⟩) (by first | exact bI_1 (c_74.elim Or.inl (fun q => Or.inr ((anyB_S _ _).mpr (Or.inl q)))) | exact bI_1 (Or.inr ((anyB_S _ _).mpr (Or.inr (by unfold shB; rw [Bool.and_eq_true, decide_eq_true_eq]; exact ⟨c_89, c_100⟩)))) | exact bI_0 (fun q => q.elim (fun q => c_74 (Or.inl q)) (fun q => ((anyB_S _ _).mp q).elim (fun q => c_74 (Or.inr q)) (fun q => by unfold shB at q; rw [Bool.and_eq_true, decide_eq_true_eq] at q; first | exact q.1 c_89 | exact c_100 q.2)))) _ _ _ hZ (lv_sub hl [2, 3, 4, 1, 5, 0] rfl)
                        · skip
                          refine z_aload_n F dX8_shown_92 rfl (lv_at hl 0 rfl) ?_
                          refine z_iload F dX8_shown_93 (lv_at hl 4 rfl) ?_
                          refine z_iload F dX8_shown_95 (lv_at hl 5 rfl) ?_
                          refine z_bxi hZ (va_runV (As := [.int (zI ((i : Int))), .int (zI ((j : Int)))]) (rest := []) F (k_X8_areUnlike l w dom A hDA sz G hd ((i : Int)) ((j : Int)) (by omega) (by omega)) (cwV 2 F.2.2.2.2 gX8_shown_X8_areUnlike rfl rfl rfl (by decide +kernel) ⟨Nat.le_of_ble_eq_true rfl, Nat.le_of_ble_eq_true rfl⟩) (z_preV hK hZ (64) (hd _ (by omega)) rfl (by decide) rfl _) rfl rfl hl.1 rfl (lv_room (Nat.le_of_ble_eq_true rfl)) dX8_shown_97 ⟨Nat.le_of_ble_eq_true rfl, Nat.le_of_ble_eq_true rfl⟩) (fun H locs hZ => ?_)
                          refine z_ifB_eq (tgt := 107) F dX8_shown_100 (by decide) (fun c_100 => ?_) (fun c_100 => ?_)
                          · skip
                            refine z_iconst F dX8_shown_107 ?_
                            refine z_istore_n (lv' := [(3, .int (zI (0))), (0, .ref (w.2.1 + (64))), (1, .int (zI (x))), (2, .int (zI (t))), (4, .int (zI ((i : Int)))), (5, .int (zI ((j : Int))))]) F dX8_shown_108 rfl hl (by decide) rfl (fun ls hl => ?_)
                            refine z_iinc (k := 5) (z := (j : Int)) (lv' := [(5, .int (zI ((j : Int) + 1))), (3, .int (zI (0))), (0, .ref (w.2.1 + (64))), (1, .int (zI (x))), (2, .int (zI (t))), (4, .int (zI ((i : Int))))]) F dX8_shown_109 hl rfl (by decide) rfl (fun ls hl => ?_)
                            refine lv_goto (tgt := 35) F.1 F.2.1 dX8_shown_112 (by decide) ?_
                            exact ih_35 (j + 1) (0) (by omega) (by omega) (Or.inr ⟨c_55, c_70⟩) (by first | exact bI_1 (c_74.elim Or.inl (fun q => Or.inr ((anyB_S _ _).mpr (Or.inl q)))) | exact bI_1 (Or.inr ((anyB_S _ _).mpr (Or.inr (by unfold shB; rw [Bool.and_eq_true, decide_eq_true_eq]; exact ⟨c_89, c_100⟩)))) | exact bI_0 (fun q => q.elim (fun q => c_74 (Or.inl q)) (fun q => ((anyB_S _ _).mp q).elim (fun q => c_74 (Or.inr q)) (fun q => by unfold shB at q; rw [Bool.and_eq_true, decide_eq_true_eq] at q; first | exact q.1 c_89 | exact c_100 q.2)))) _ _ _ hZ (lv_sub hl [2, 3, 4, 1, 5, 0] rfl)
                          · skip
                            refine z_iconst F dX8_shown_103 ?_
                            refine lv_goto (tgt := 108) F.1 F.2.1 dX8_shown_104 (by decide) ?_
                            refine z_istore_n (lv' := [(3, .int (zI (1))), (0, .ref (w.2.1 + (64))), (1, .int (zI (x))), (2, .int (zI (t))), (4, .int (zI ((i : Int)))), (5, .int (zI ((j : Int))))]) F dX8_shown_108 rfl hl (by decide) rfl (fun ls hl => ?_)
                            refine z_iinc (k := 5) (z := (j : Int)) (lv' := [(5, .int (zI ((j : Int) + 1))), (3, .int (zI (1))), (0, .ref (w.2.1 + (64))), (1, .int (zI (x))), (2, .int (zI (t))), (4, .int (zI ((i : Int))))]) F dX8_shown_109 hl rfl (by decide) rfl (fun ls hl => ?_)
                            refine lv_goto (tgt := 35) F.1 F.2.1 dX8_shown_112 (by decide) ?_
                            exact ih_35 (j + 1) (1) (by omega) (by omega) (Or.inr ⟨c_55, c_70⟩) (by first | exact bI_1 (c_74.elim Or.inl (fun q => Or.inr ((anyB_S _ _).mpr (Or.inl q)))) | exact bI_1 (Or.inr ((anyB_S _ _).mpr (Or.inr (by unfold shB; rw [Bool.and_eq_true, decide_eq_true_eq]; exact ⟨c_89, c_100⟩)))) | exact bI_0 (fun q => q.elim (fun q => c_74 (Or.inl q)) (fun q => ((anyB_S _ _).mp q).elim (fun q => c_74 (Or.inr q)) (fun q => by unfold shB at q; rw [Bool.and_eq_true, decide_eq_true_eq] at q; first | exact q.1 c_89 | exact c_100 q.2)))) _ _ _ hZ (lv_sub hl [2, 3, 4, 1, 5, 0] rfl)
            exact L_35 (i + 1) 0 (bI (anyB (shA G x t) i = true)) (by omega) (by omega) (Or.inl rfl) (bI_c (by simp [anyB])) _ _ _ hZ (lv_sub hl [1, 2, 3, 4, 5, 0] rfl)
      exact L_23 ((G 64 7).toNat + 1) 0 0 (by omega) (by omega) (by simp [anyB, bI]) _ _ _ hZ (lv_sub hl [2, 3, 4, 1, 0] rfl)
    · skip
      refine z_iconst F dX8_shown_16 ?_
      exact z_iret F hr hlocks hZ (by unfold rShown; (repeat' split) <;> first | rfl | omega) rfl dX8_shown_17 (by omega) (by omega)

theorem mX8_height_7 : Cond.fieldLink RX8 7 "LockedChainModel" "isFalse" "[Z" ∈ wsX8_height := by decide +kernel
theorem mX8_height_29 : Cond.fieldLink RX8 29 "LockedChainModel" "n" "I" ∈ wsX8_height := by decide +kernel
set_option maxHeartbeats 4000000 in
set_option maxRecDepth 100000 in
theorem k_X8_height (l : Launch) (w : zW) (dom : Nat → Prop) (A : Nat → Prop) (hDA : ∀ i, dom i → A (w.2.1 + i)) (sz : Nat) (G : zM) (hd : ∀ i, 64 ≤ i ∧ i < 71 → dom i) (hI : Inv G) (b : Int) (hb : b = 0 ∨ b = 1) : Met l yX8_height wsX8_height { frames := 1, cells := 0, slots := 0, locals := 22 } (zPre w dom sz G [.ref (w.2.1 + (64)), .int (zI (b))]) (zQi w dom sz (hgN G b) (fun C => C = G) A) (0) (0) A := by
  refine Met.ofW (cc := cX8_height) (maxL := 5) (ret := (some .int)) (by decide) rfl ?_
  intro p e s m args below meth c s₁ B hml hv
  obtain ⟨rfl, hsz, hP, hK⟩ := hv
  have F : CallFix p m c cX8_height 5 s _ wsX8_height RX8 := ⟨B.exec, B.bytes, hml, findClass_of_methodNamed B.named, atoms_spec (ws := wsX8_height) B.pre⟩
  have hr := B.returns
  have hlocks := B.notSynchronized
  have hZ : Zs w dom A s.heap sz G s.heap [] := ⟨hsz, hP, va_S.rf⟩
  have hl := lv_entry ([.ref (w.2.1 + (64)), .int (zI (b))]) (n := 5) (Nat.le_of_ble_eq_true rfl)
  rw [lg_entry_eq]
  generalize (lg_sl ([.ref (w.2.1 + (64)), .int (zI (b))]) ++ List.replicate (5 - (lg_sl ([.ref (w.2.1 + (64)), .int (zI (b))])).length) Slot.unset).toArray = ls at hl ⊢
  have hl : lv_has ls 5 [(0, .ref (w.2.1 + (64))), (1, .int (zI (b)))] := hl
  have hin8 : ∀ v ∈ u_ws RX8 TX8 10, v ∈ wsX8_height := by decide +kernel
  have hn := hI.1
  have hL := hI.2.2.2.1
  refine z_iconst F dX8_height_0 ?_
  refine z_istore_n (lv' := [(2, .int (zI (-1))), (0, .ref (w.2.1 + (64))), (1, .int (zI (b)))]) F dX8_height_1 rfl hl (by decide) rfl (fun ls hl => ?_)
  refine z_iconst F dX8_height_2 ?_
  refine z_istore_n (lv' := [(3, .int (zI (0))), (2, .int (zI (-1))), (0, .ref (w.2.1 + (64))), (1, .int (zI (b)))]) F dX8_height_3 rfl hl (by decide) rfl (fun ls hl => ?_)
  have L_4 : ∀ (nf : Nat) (i : Nat) (best : Int), ((G 64 0).toNat + 1 ≤ i + nf) → (i ≤ (G 64 0).toNat) → (best = hgF G b i) → (-1 ≤ best ∧ best ≤ 6) →  ∀ (H : Heap) (locs : List Loc) (ls : Array Slot), Zs w dom A s.heap sz G H locs → lv_has ls 5 [(0, .ref (w.2.1 + (64))), (1, .int (zI (b))), (2, .int (zI (best))), (3, .int (zI ((i : Int))))] → W p l e (headSpec wsX8_height { frames := 1, cells := 0, slots := 0, locals := 22 }).room s m ([.ref (w.2.1 + (64)), .int (zI (b))] : List Value).toArray below meth c H locs (0) (0) (MQ below (zQi w dom sz (hgN G b) (fun C => C = G) A) ([.ref (w.2.1 + (64)), .int (zI (b))] : List Value).toArray s (0) (0) A) (F0 m 4 ls []) := by
    intro nf
    induction nf with
    | zero => intro i  best  h4_0 h4_1 h4_2 h4_3; exact absurd h4_0 (by omega)
    | succ nf ih_4 =>
      intro i  best  h4_0 h4_1 h4_2 h4_3 H locs ls hZ hl
      refine z_iload_n F dX8_height_4 rfl (lv_at hl 3 rfl) ?_
      refine z_aload_n F dX8_height_5 rfl (lv_at hl 0 rfl) ?_
      refine z_get F hK hZ (64) (hd _ (by omega)) rfl (by decide) rfl hin8 0 (by decide) mX8_height_29 rfl rfl dX8_height_6 ?_
      have r_1 := hZ.2.1.1 (64) (0)
      refine z_icmp_ge (tgt := 65) F (by omega) (by omega) dX8_height_9 (by decide) (fun c_9 => ?_) (fun c_9 => ?_)
      · skip
        refine z_iload_n F dX8_height_65 rfl (lv_at hl 2 rfl) ?_
        refine z_if_ge (tgt := 73) F (by omega) dX8_height_66 (by decide) (fun c_66 => ?_) (fun c_66 => ?_)
        · skip
          refine z_iload_n F dX8_height_73 rfl (lv_at hl 2 rfl) ?_
          exact z_iret F hr hlocks hZ (by rw [hgN, ← show i = (G 64 0).toNat by omega, ← h4_2]; split <;> omega) rfl dX8_height_74 (by omega) (by omega)
        · skip
          refine z_iconst F dX8_height_69 ?_
          refine lv_goto (tgt := 74) F.1 F.2.1 dX8_height_70 (by decide) ?_
          exact z_iret F hr hlocks hZ (by rw [hgN, ← show i = (G 64 0).toNat by omega, ← h4_2]; split <;> omega) rfl dX8_height_74 (by omega) (by omega)
      · skip
        have iS := seat_rng hI (s := (i : Int)) (by omega)
        refine z_aload_n F dX8_height_12 rfl (lv_at hl 0 rfl) ?_
        refine z_iload_n F dX8_height_13 rfl (lv_at hl 3 rfl) ?_
        refine z_iconst F dX8_height_14 ?_
        refine z_bxi hZ (va_runV (As := [.int (zI ((i : Int))), .int (zI (0))]) (rest := []) F (k_X8_get l w dom A hDA sz G hd ((i : Int)) 0 (by omega)) (cwV 2 F.2.2.2.2 gX8_height_X8_get rfl rfl rfl (by decide +kernel) ⟨Nat.le_of_ble_eq_true rfl, Nat.le_of_ble_eq_true rfl⟩) (z_preV hK hZ (64) (hd _ (by omega)) rfl (by decide) rfl _) rfl rfl hl.1 rfl (lv_room (Nat.le_of_ble_eq_true rfl)) dX8_height_15 ⟨Nat.le_of_ble_eq_true rfl, Nat.le_of_ble_eq_true rfl⟩) (fun H locs hZ => ?_)
        have r_2 := hZ.2.1.1 (67) (20 * ((i : Int)) + 0)
        refine z_istore (lv' := [(4, .int (zI (G 67 (20 * ((i : Int)) + 0)))), (0, .ref (w.2.1 + (64))), (1, .int (zI (b))), (2, .int (zI (best))), (3, .int (zI ((i : Int))))]) F dX8_height_18 hl (by decide) rfl (fun ls hl => ?_)
        refine z_aload_n F dX8_height_20 rfl (lv_at hl 1 rfl) ?_
        refine z_get F hK hZ (64) (hd _ (by omega)) rfl (by decide) rfl hin8 3 (by decide) mX8_height_7 rfl rfl dX8_height_21 ?_
        refine z_iload_n F dX8_height_24 rfl (lv_at hl 4 rfl) ?_
        refine z_zald F hK hZ (65) (hd _ (by omega)) rfl (by decide) (by omega) (by omega) dX8_height_25 ?_
        have r_3 := hZ.2.1.1 (65) ((i : Int))
        refine z_if_ne (tgt := 52) F (by omega) dX8_height_26 (by decide) (fun c_26 => ?_) (fun c_26 => ?_)
        · skip
          refine z_iload_n F dX8_height_52 rfl (lv_at hl 3 rfl) ?_
          refine lv_goto (tgt := 58) F.1 F.2.1 dX8_height_53 (by decide) ?_
          refine z_istore_n (lv' := [(2, .int (zI (best))), (4, .int (zI (G 67 (20 * ((i : Int)) + 0)))), (0, .ref (w.2.1 + (64))), (1, .int (zI (b))), (3, .int (zI ((i : Int))))]) F dX8_height_58 rfl hl (by decide) rfl (fun ls hl => ?_)
          refine z_iinc (k := 4) (z := (i : Int)) (lv' := [(3, .int (zI ((i : Int) + 1))), (2, .int (zI (best))), (4, .int (zI (G 67 (20 * ((i : Int)) + 0)))), (0, .ref (w.2.1 + (64))), (1, .int (zI (b)))]) F dX8_height_59 hl rfl (by decide) rfl (fun ls hl => ?_)
          refine lv_goto (tgt := 4) F.1 F.2.1 dX8_height_62 (by decide) ?_
          exact ih_4 (i + 1) (best) (by omega) (by omega) (by rw [hgF, ← h4_2]; split <;> omega) (by omega) _ _ _ hZ (lv_sub hl [3, 4, 1, 0] rfl)
        · skip
          refine z_iload_n F dX8_height_29 rfl (lv_at hl 3 rfl) ?_
          refine z_if_lt (tgt := 56) F (by omega) dX8_height_30 (by decide) (fun c_30 => ?_) (fun c_30 => ?_)
          · skip
            refine z_iload F dX8_height_56 (lv_at hl 0 rfl) ?_
            refine z_istore_n (lv' := [(2, .int (zI (G 67 (20 * ((i : Int)) + 0)))), (4, .int (zI (G 67 (20 * ((i : Int)) + 0)))), (0, .ref (w.2.1 + (64))), (1, .int (zI (b))), (3, .int (zI ((i : Int))))]) F dX8_height_58 rfl hl (by decide) rfl (fun ls hl => ?_)
            refine z_iinc (k := 4) (z := (i : Int)) (lv' := [(3, .int (zI ((i : Int) + 1))), (2, .int (zI (G 67 (20 * ((i : Int)) + 0)))), (4, .int (zI (G 67 (20 * ((i : Int)) + 0)))), (0, .ref (w.2.1 + (64))), (1, .int (zI (b)))]) F dX8_height_59 hl rfl (by decide) rfl (fun ls hl => ?_)
            refine lv_goto (tgt := 4) F.1 F.2.1 dX8_height_62 (by decide) ?_
            exact ih_4 (i + 1) (G 67 (20 * ((i : Int)) + 0)) (by omega) (by omega) (by rw [hgF, ← h4_2]; split <;> omega) (by omega) _ _ _ hZ (lv_sub hl [3, 4, 1, 0] rfl)
          · skip
            refine z_iload_n F dX8_height_33 rfl (lv_at hl 2 rfl) ?_
            refine z_if_eq (tgt := 46) F (by omega) dX8_height_34 (by decide) (fun c_34 => ?_) (fun c_34 => ?_)
            · skip
              refine z_iload F dX8_height_46 (lv_at hl 0 rfl) ?_
              refine z_iload_n F dX8_height_48 rfl (lv_at hl 3 rfl) ?_
              refine z_icmp_gt (tgt := 56) F (by omega) (by omega) dX8_height_49 (by decide) (fun c_49 => ?_) (fun c_49 => ?_)
              · skip
                refine z_iload F dX8_height_56 (lv_at hl 0 rfl) ?_
                refine z_istore_n (lv' := [(2, .int (zI (G 67 (20 * ((i : Int)) + 0)))), (4, .int (zI (G 67 (20 * ((i : Int)) + 0)))), (0, .ref (w.2.1 + (64))), (1, .int (zI (b))), (3, .int (zI ((i : Int))))]) F dX8_height_58 rfl hl (by decide) rfl (fun ls hl => ?_)
                refine z_iinc (k := 4) (z := (i : Int)) (lv' := [(3, .int (zI ((i : Int) + 1))), (2, .int (zI (G 67 (20 * ((i : Int)) + 0)))), (4, .int (zI (G 67 (20 * ((i : Int)) + 0)))), (0, .ref (w.2.1 + (64))), (1, .int (zI (b)))]) F dX8_height_59 hl rfl (by decide) rfl (fun ls hl => ?_)
                refine lv_goto (tgt := 4) F.1 F.2.1 dX8_height_62 (by decide) ?_
                exact ih_4 (i + 1) (G 67 (20 * ((i : Int)) + 0)) (by omega) (by omega) (by rw [hgF, ← h4_2]; split <;> omega) (by omega) _ _ _ hZ (lv_sub hl [3, 4, 1, 0] rfl)
              · skip
                refine z_iload_n F dX8_height_52 rfl (lv_at hl 3 rfl) ?_
                refine lv_goto (tgt := 58) F.1 F.2.1 dX8_height_53 (by decide) ?_
                refine z_istore_n (lv' := [(2, .int (zI (best))), (4, .int (zI (G 67 (20 * ((i : Int)) + 0)))), (0, .ref (w.2.1 + (64))), (1, .int (zI (b))), (3, .int (zI ((i : Int))))]) F dX8_height_58 rfl hl (by decide) rfl (fun ls hl => ?_)
                refine z_iinc (k := 4) (z := (i : Int)) (lv' := [(3, .int (zI ((i : Int) + 1))), (2, .int (zI (best))), (4, .int (zI (G 67 (20 * ((i : Int)) + 0)))), (0, .ref (w.2.1 + (64))), (1, .int (zI (b)))]) F dX8_height_59 hl rfl (by decide) rfl (fun ls hl => ?_)
                refine lv_goto (tgt := 4) F.1 F.2.1 dX8_height_62 (by decide) ?_
                exact ih_4 (i + 1) (best) (by omega) (by omega) (by rw [hgF, ← h4_2]; split <;> omega) (by omega) _ _ _ hZ (lv_sub hl [3, 4, 1, 0] rfl)
            · skip
              refine z_iload F dX8_height_37 (lv_at hl 0 rfl) ?_
              refine z_iload_n F dX8_height_39 rfl (lv_at hl 3 rfl) ?_
              refine z_icmp_lt (tgt := 56) F (by omega) (by omega) dX8_height_40 (by decide) (fun c_40 => ?_) (fun c_40 => ?_)
              · skip
                refine z_iload F dX8_height_56 (lv_at hl 0 rfl) ?_
                refine z_istore_n (lv' := [(2, .int (zI (G 67 (20 * ((i : Int)) + 0)))), (4, .int (zI (G 67 (20 * ((i : Int)) + 0)))), (0, .ref (w.2.1 + (64))), (1, .int (zI (b))), (3, .int (zI ((i : Int))))]) F dX8_height_58 rfl hl (by decide) rfl (fun ls hl => ?_)
                refine z_iinc (k := 4) (z := (i : Int)) (lv' := [(3, .int (zI ((i : Int) + 1))), (2, .int (zI (G 67 (20 * ((i : Int)) + 0)))), (4, .int (zI (G 67 (20 * ((i : Int)) + 0)))), (0, .ref (w.2.1 + (64))), (1, .int (zI (b)))]) F dX8_height_59 hl rfl (by decide) rfl (fun ls hl => ?_)
                refine lv_goto (tgt := 4) F.1 F.2.1 dX8_height_62 (by decide) ?_
                exact ih_4 (i + 1) (G 67 (20 * ((i : Int)) + 0)) (by omega) (by omega) (by rw [hgF, ← h4_2]; split <;> omega) (by omega) _ _ _ hZ (lv_sub hl [3, 4, 1, 0] rfl)
              · skip
                refine lv_goto (tgt := 52) F.1 F.2.1 dX8_height_43 (by decide) ?_
                refine z_iload_n F dX8_height_52 rfl (lv_at hl 3 rfl) ?_
                refine lv_goto (tgt := 58) F.1 F.2.1 dX8_height_53 (by decide) ?_
                refine z_istore_n (lv' := [(2, .int (zI (best))), (4, .int (zI (G 67 (20 * ((i : Int)) + 0)))), (0, .ref (w.2.1 + (64))), (1, .int (zI (b))), (3, .int (zI ((i : Int))))]) F dX8_height_58 rfl hl (by decide) rfl (fun ls hl => ?_)
                refine z_iinc (k := 4) (z := (i : Int)) (lv' := [(3, .int (zI ((i : Int) + 1))), (2, .int (zI (best))), (4, .int (zI (G 67 (20 * ((i : Int)) + 0)))), (0, .ref (w.2.1 + (64))), (1, .int (zI (b)))]) F dX8_height_59 hl rfl (by decide) rfl (fun ls hl => ?_)
                refine lv_goto (tgt := 4) F.1 F.2.1 dX8_height_62 (by decide) ?_
                exact ih_4 (i + 1) (best) (by omega) (by omega) (by rw [hgF, ← h4_2]; split <;> omega) (by omega) _ _ _ hZ (lv_sub hl [3, 4, 1, 0] rfl)
  exact L_4 ((G 64 0).toNat + 1) 0 (-1) (by omega) (by omega) rfl (by omega) _ _ _ hZ (lv_sub hl [2, 3, 1, 0] rfl)

theorem mX8_unlike_7 : Cond.fieldLink RX8 7 "LockedChainModel" "isFalse" "[Z" ∈ wsX8_unlike := by decide +kernel
theorem mX8_unlike_20 : Cond.fieldLink RX8 20 "LockedChainModel" "decided" "[I" ∈ wsX8_unlike := by decide +kernel
theorem mX8_unlike_29 : Cond.fieldLink RX8 29 "LockedChainModel" "n" "I" ∈ wsX8_unlike := by decide +kernel
set_option maxHeartbeats 4000000 in
set_option maxRecDepth 100000 in
theorem k_X8_unlike (l : Launch) (w : zW) (dom : Nat → Prop) (A : Nat → Prop) (hDA : ∀ i, dom i → A (w.2.1 + i)) (sz : Nat) (G : zM) (hd : ∀ i, 64 ≤ i ∧ i < 71 → dom i) (hI : Inv G) : Met l yX8_unlike wsX8_unlike { frames := 0, cells := 0, slots := 0, locals := 0 } (zPre w dom sz G [.ref (w.2.1 + (64))]) (zQi w dom sz (ulN G 6) (fun C => C = G) A) (0) (0) A := by
  refine Met.ofW (cc := cX8_unlike) (maxL := 7) (ret := (some .int)) (by decide) rfl ?_
  intro p e s m args below meth c s₁ B hml hv
  obtain ⟨rfl, hsz, hP, hK⟩ := hv
  have F : CallFix p m c cX8_unlike 7 s _ wsX8_unlike RX8 := ⟨B.exec, B.bytes, hml, findClass_of_methodNamed B.named, atoms_spec (ws := wsX8_unlike) B.pre⟩
  have hr := B.returns
  have hlocks := B.notSynchronized
  have hZ : Zs w dom A s.heap sz G s.heap [] := ⟨hsz, hP, va_S.rf⟩
  have hl := lv_entry ([.ref (w.2.1 + (64))]) (n := 7) (Nat.le_of_ble_eq_true rfl)
  rw [lg_entry_eq]
  generalize (lg_sl ([.ref (w.2.1 + (64))]) ++ List.replicate (7 - (lg_sl ([.ref (w.2.1 + (64))])).length) Slot.unset).toArray = ls at hl ⊢
  have hl : lv_has ls 7 [(0, .ref (w.2.1 + (64)))] := hl
  have hin8 : ∀ v ∈ u_ws RX8 TX8 10, v ∈ wsX8_unlike := by decide +kernel
  have hn := hI.1
  have hL := hI.2.2.2.1
  refine z_iconst F dX8_unlike_0 ?_
  refine z_istore_n (lv' := [(1, .int (zI (0))), (0, .ref (w.2.1 + (64)))]) F dX8_unlike_1 rfl hl (by decide) rfl (fun ls hl => ?_)
  refine z_iconst F dX8_unlike_2 ?_
  refine z_istore_n (lv' := [(2, .int (zI (0))), (1, .int (zI (0))), (0, .ref (w.2.1 + (64)))]) F dX8_unlike_3 rfl hl (by decide) rfl (fun ls hl => ?_)
  have L_4 : ∀ (nf : Nat) (h : Nat) (acc : Int), (7 ≤ h + nf) → (h ≤ 6) → (acc = ulN G h) →  ∀ (H : Heap) (locs : List Loc) (ls : Array Slot), Zs w dom A s.heap sz G H locs → lv_has ls 7 [(0, .ref (w.2.1 + (64))), (1, .int (zI (acc))), (2, .int (zI ((h : Int))))] → W p l e (headSpec wsX8_unlike { frames := 0, cells := 0, slots := 0, locals := 0 }).room s m ([.ref (w.2.1 + (64))] : List Value).toArray below meth c H locs (0) (0) (MQ below (zQi w dom sz (ulN G 6) (fun C => C = G) A) ([.ref (w.2.1 + (64))] : List Value).toArray s (0) (0) A) (F0 m 4 ls []) := by
    intro nf
    induction nf with
    | zero => intro h  acc  h4_0 h4_1 h4_2; exact absurd h4_0 (by omega)
    | succ nf ih_4 =>
      intro h  acc  h4_0 h4_1 h4_2 H locs ls hZ hl
      subst h4_2
      have hacc : 0 ≤ ulN G h ∧ ulN G h ≤ h := cntB_rng _ _
      refine z_iload_n F dX8_unlike_4 rfl (lv_at hl 2 rfl) ?_
      refine z_bipush F (by decide) dX8_unlike_5 ?_
      refine z_icmp_ge (tgt := 120) F (by omega) (by omega) dX8_unlike_7 (by decide) (fun c_7 => ?_) (fun c_7 => ?_)
      · skip
        refine z_iload_n F dX8_unlike_120 rfl (lv_at hl 1 rfl) ?_
        exact z_iret F hr hlocks hZ (by rw [show h = 6 by omega]) rfl dX8_unlike_121 (by omega) (by omega)
      · skip
        refine z_iconst F dX8_unlike_10 ?_
        refine z_istore_n (lv' := [(3, .int (zI (-1))), (0, .ref (w.2.1 + (64))), (1, .int (zI (ulN G h))), (2, .int (zI ((h : Int))))]) F dX8_unlike_11 rfl hl (by decide) rfl (fun ls hl => ?_)
        refine z_iconst F dX8_unlike_12 ?_
        refine z_istore (lv' := [(4, .int (zI (0))), (3, .int (zI (-1))), (0, .ref (w.2.1 + (64))), (1, .int (zI (ulN G h))), (2, .int (zI ((h : Int))))]) F dX8_unlike_13 hl (by decide) rfl (fun ls hl => ?_)
        refine z_iconst F dX8_unlike_15 ?_
        refine z_istore (lv' := [(5, .int (zI (0))), (4, .int (zI (0))), (3, .int (zI (-1))), (0, .ref (w.2.1 + (64))), (1, .int (zI (ulN G h))), (2, .int (zI ((h : Int))))]) F dX8_unlike_16 hl (by decide) rfl (fun ls hl => ?_)
        have L_18 : ∀ (nf : Nat) (i : Nat) (fst is : Int), ((G 64 0).toNat + 1 ≤ i + nf) → (i ≤ (G 64 0).toNat) → (fst = ulF G (h : Int) i) → (is = bI (ulB G (h : Int) i = true)) → (-2147483648 ≤ fst ∧ fst < 2147483648) →  ∀ (H : Heap) (locs : List Loc) (ls : Array Slot), Zs w dom A s.heap sz G H locs → lv_has ls 7 [(0, .ref (w.2.1 + (64))), (1, .int (zI (ulN G h))), (2, .int (zI ((h : Int)))), (3, .int (zI (fst))), (4, .int (zI (is))), (5, .int (zI ((i : Int))))] → W p l e (headSpec wsX8_unlike { frames := 0, cells := 0, slots := 0, locals := 0 }).room s m ([.ref (w.2.1 + (64))] : List Value).toArray below meth c H locs (0) (0) (MQ below (zQi w dom sz (ulN G 6) (fun C => C = G) A) ([.ref (w.2.1 + (64))] : List Value).toArray s (0) (0) A) (F0 m 18 ls []) := by
          intro nf
          induction nf with
          | zero => intro i  fst is  h18_0 h18_1 h18_2 h18_3 h18_4; exact absurd h18_0 (by omega)
          | succ nf ih_18 =>
            intro i  fst is  h18_0 h18_1 h18_2 h18_3 h18_4 H locs ls hZ hl
            subst h18_3
            refine z_iload F dX8_unlike_18 (lv_at hl 5 rfl) ?_
            refine z_aload_n F dX8_unlike_20 rfl (lv_at hl 0 rfl) ?_
            refine z_get F hK hZ (64) (hd _ (by omega)) rfl (by decide) rfl hin8 0 (by decide) mX8_unlike_29 rfl rfl dX8_unlike_21 ?_
            have r_1 := hZ.2.1.1 (64) (0)
            refine z_icmp_ge (tgt := 101) F (by omega) (by omega) dX8_unlike_24 (by decide) (fun c_24 => ?_) (fun c_24 => ?_)
            · skip
              have hi : i = (G 64 0).toNat := by omega
              refine z_iload_n F dX8_unlike_101 rfl (lv_at hl 1 rfl) ?_
              refine z_iload F dX8_unlike_102 (lv_at hl 4 rfl) ?_
              refine z_ifB_eq (tgt := 111) F dX8_unlike_104 (by decide) (fun c_104 => ?_) (fun c_104 => ?_)
              · skip
                refine z_iconst F dX8_unlike_111 ?_
                refine z_iadd F dX8_unlike_112 ?_
                refine z_istore_n (lv' := [(1, .int (zI (ulN G h + 0))), (0, .ref (w.2.1 + (64))), (2, .int (zI ((h : Int)))), (3, .int (zI (fst))), (4, .int (zI (bI (ulB G (h : Int) i = true)))), (5, .int (zI ((i : Int))))]) F dX8_unlike_113 rfl hl (by decide) rfl (fun ls hl => ?_)
                refine z_iinc (k := 2) (z := (h : Int)) (lv' := [(2, .int (zI ((h : Int) + 1))), (1, .int (zI (ulN G h + 0))), (0, .ref (w.2.1 + (64))), (3, .int (zI (fst))), (4, .int (zI (bI (ulB G (h : Int) i = true)))), (5, .int (zI ((i : Int))))]) F dX8_unlike_114 hl rfl (by decide) rfl (fun ls hl => ?_)
                refine lv_goto (tgt := 4) F.1 F.2.1 dX8_unlike_117 (by decide) ?_
                exact ih_4 (h + 1) (ulN G h + 0) (by omega) (by omega) (by unfold ulN; rw [cntB_S]; first | rw [bI_t (by rw [← hi]; exact c_104)] | rw [bI_f (by rw [← hi]; exact c_104)]) _ _ _ hZ (lv_sub hl [2, 1, 0] rfl)
              · skip
                refine z_iconst F dX8_unlike_107 ?_
                refine lv_goto (tgt := 112) F.1 F.2.1 dX8_unlike_108 (by decide) ?_
                refine z_iadd F dX8_unlike_112 ?_
                refine z_istore_n (lv' := [(1, .int (zI (ulN G h + 1))), (0, .ref (w.2.1 + (64))), (2, .int (zI ((h : Int)))), (3, .int (zI (fst))), (4, .int (zI (bI (ulB G (h : Int) i = true)))), (5, .int (zI ((i : Int))))]) F dX8_unlike_113 rfl hl (by decide) rfl (fun ls hl => ?_)
                refine z_iinc (k := 2) (z := (h : Int)) (lv' := [(2, .int (zI ((h : Int) + 1))), (1, .int (zI (ulN G h + 1))), (0, .ref (w.2.1 + (64))), (3, .int (zI (fst))), (4, .int (zI (bI (ulB G (h : Int) i = true)))), (5, .int (zI ((i : Int))))]) F dX8_unlike_114 hl rfl (by decide) rfl (fun ls hl => ?_)
                refine lv_goto (tgt := 4) F.1 F.2.1 dX8_unlike_117 (by decide) ?_
                exact ih_4 (h + 1) (ulN G h + 1) (by omega) (by omega) (by unfold ulN; rw [cntB_S]; first | rw [bI_t (by rw [← hi]; exact c_104)] | rw [bI_f (by rw [← hi]; exact c_104)]) _ _ _ hZ (lv_sub hl [2, 1, 0] rfl)
            · skip
              refine z_aload_n F dX8_unlike_27 rfl (lv_at hl 0 rfl) ?_
              refine z_get F hK hZ (64) (hd _ (by omega)) rfl (by decide) rfl hin8 3 (by decide) mX8_unlike_7 rfl rfl dX8_unlike_28 ?_
              refine z_iload F dX8_unlike_31 (lv_at hl 5 rfl) ?_
              refine z_zald F hK hZ (65) (hd _ (by omega)) rfl (by decide) (by omega) (by omega) dX8_unlike_33 ?_
              have r_2 := hZ.2.1.1 (65) ((i : Int))
              refine z_if_eq (tgt := 41) F (by omega) dX8_unlike_34 (by decide) (fun c_34 => ?_) (fun c_34 => ?_)
              · skip
                refine z_aload_n F dX8_unlike_41 rfl (lv_at hl 0 rfl) ?_
                refine z_get F hK hZ (64) (hd _ (by omega)) rfl (by decide) rfl hin8 6 (by decide) mX8_unlike_20 rfl rfl dX8_unlike_42 ?_
                refine z_bipush F (by decide) dX8_unlike_45 ?_
                refine z_iload F dX8_unlike_47 (lv_at hl 5 rfl) ?_
                refine z_imul F dX8_unlike_49 ?_
                refine z_iconst F dX8_unlike_50 ?_
                refine z_iload_n F dX8_unlike_51 rfl (lv_at hl 2 rfl) ?_
                refine z_imul F dX8_unlike_52 ?_
                refine z_iadd F dX8_unlike_53 ?_
                refine z_iald F hK hZ (68) (hd _ (by omega)) rfl (by decide) (by omega) (by omega) dX8_unlike_54 ?_
                have r_3 := hZ.2.1.1 (68) (12 * ((i : Int)) + (2 * ((h : Int))))
                have hV : ulV G (h : Int) i = G (68) (12 * ((i : Int)) + (2 * ((h : Int)))) := by unfold ulV; first | rw [if_neg (by omega)] | rw [if_pos (by omega)]
                refine z_istore (lv' := [(6, .int (zI (G (68) (12 * ((i : Int)) + (2 * ((h : Int))))))), (0, .ref (w.2.1 + (64))), (1, .int (zI (ulN G h))), (2, .int (zI ((h : Int)))), (3, .int (zI (fst))), (4, .int (zI (bI (ulB G (h : Int) i = true)))), (5, .int (zI ((i : Int))))]) F dX8_unlike_55 hl (by decide) rfl (fun ls hl => ?_)
                refine z_iload F dX8_unlike_57 (lv_at hl 5 rfl) ?_
                refine z_ifB_ne (tgt := 77) F dX8_unlike_59 (by decide) (fun c_59 => ?_) (fun c_59 => ?_)
                · skip
                  refine z_iconst F dX8_unlike_77 ?_
                  refine lv_goto (tgt := 82) F.1 F.2.1 dX8_unlike_78 (by decide) ?_
                  refine z_istore (lv' := [(4, .int (zI (1))), (6, .int (zI (G (68) (12 * ((i : Int)) + (2 * ((h : Int))))))), (0, .ref (w.2.1 + (64))), (1, .int (zI (ulN G h))), (2, .int (zI ((h : Int)))), (3, .int (zI (fst))), (5, .int (zI ((i : Int))))]) F dX8_unlike_82 hl (by decide) rfl (fun ls hl => ?_)
                  refine z_iload_n F dX8_unlike_84 rfl (lv_at hl 5 rfl) ?_
                  refine z_if_ge (tgt := 93) F (by omega) dX8_unlike_85 (by decide) (fun c_85 => ?_) (fun c_85 => ?_)
                  · skip
                    refine z_iload_n F dX8_unlike_93 rfl (lv_at hl 5 rfl) ?_
                    refine z_istore_n (lv' := [(3, .int (zI (fst))), (4, .int (zI (1))), (6, .int (zI (G (68) (12 * ((i : Int)) + (2 * ((h : Int))))))), (0, .ref (w.2.1 + (64))), (1, .int (zI (ulN G h))), (2, .int (zI ((h : Int)))), (5, .int (zI ((i : Int))))]) F dX8_unlike_94 rfl hl (by decide) rfl (fun ls hl => ?_)
                    refine z_iinc (k := 6) (z := (i : Int)) (lv' := [(5, .int (zI ((i : Int) + 1))), (3, .int (zI (fst))), (4, .int (zI (1))), (6, .int (zI (G (68) (12 * ((i : Int)) + (2 * ((h : Int))))))), (0, .ref (w.2.1 + (64))), (1, .int (zI (ulN G h))), (2, .int (zI ((h : Int))))]) F dX8_unlike_95 hl rfl (by decide) rfl (fun ls hl => ?_)
                    refine lv_goto (tgt := 18) F.1 F.2.1 dX8_unlike_98 (by decide) ?_
                    exact ih_18 (i + 1) (fst) (1) (by omega) (by omega) (by rw [ulF, ← h18_2, hV]; split <;> omega) (by first | exact bI_1 ((ulB_S _ _ _).mpr (Or.inl c_59)) | exact bI_1 ((ulB_S _ _ _).mpr (Or.inr (by rw [← h18_2, hV]; omega))) | exact bI_0 (fun q => ((ulB_S _ _ _).mp q).elim c_59 (fun q => by rw [← h18_2, hV] at q; omega))) (by omega) _ _ _ hZ (lv_sub hl [4, 5, 6, 1, 2, 0] rfl)
                  · skip
                    refine z_iload F dX8_unlike_88 (lv_at hl 1 rfl) ?_
                    refine lv_goto (tgt := 94) F.1 F.2.1 dX8_unlike_90 (by decide) ?_
                    refine z_istore_n (lv' := [(3, .int (zI (G (68) (12 * ((i : Int)) + (2 * ((h : Int))))))), (4, .int (zI (1))), (6, .int (zI (G (68) (12 * ((i : Int)) + (2 * ((h : Int))))))), (0, .ref (w.2.1 + (64))), (1, .int (zI (ulN G h))), (2, .int (zI ((h : Int)))), (5, .int (zI ((i : Int))))]) F dX8_unlike_94 rfl hl (by decide) rfl (fun ls hl => ?_)
                    refine z_iinc (k := 6) (z := (i : Int)) (lv' := [(5, .int (zI ((i : Int) + 1))), (3, .int (zI (G (68) (12 * ((i : Int)) + (2 * ((h : Int))))))), (4, .int (zI (1))), (6, .int (zI (G (68) (12 * ((i : Int)) + (2 * ((h : Int))))))), (0, .ref (w.2.1 + (64))), (1, .int (zI (ulN G h))), (2, .int (zI ((h : Int))))]) F dX8_unlike_95 hl rfl (by decide) rfl (fun ls hl => ?_)
                    refine lv_goto (tgt := 18) F.1 F.2.1 dX8_unlike_98 (by decide) ?_
                    exact ih_18 (i + 1) (G (68) (12 * ((i : Int)) + (2 * ((h : Int))))) (1) (by omega) (by omega) (by rw [ulF, ← h18_2, hV]; split <;> omega) (by first | exact bI_1 ((ulB_S _ _ _).mpr (Or.inl c_59)) | exact bI_1 ((ulB_S _ _ _).mpr (Or.inr (by rw [← h18_2, hV]; omega))) | exact bI_0 (fun q => ((ulB_S _ _ _).mp q).elim c_59 (fun q => by rw [← h18_2, hV] at q; omega))) (by omega) _ _ _ hZ (lv_sub hl [4, 5, 6, 1, 2, 0] rfl)
                · skip
                  refine z_iload F dX8_unlike_62 (lv_at hl 0 rfl) ?_
                  refine z_if_lt (tgt := 81) F (by omega) dX8_unlike_64 (by decide) (fun c_64 => ?_) (fun c_64 => ?_)
                  · skip
                    refine z_iconst F dX8_unlike_81 ?_
                    refine z_istore (lv' := [(4, .int (zI (0))), (6, .int (zI (G (68) (12 * ((i : Int)) + (2 * ((h : Int))))))), (0, .ref (w.2.1 + (64))), (1, .int (zI (ulN G h))), (2, .int (zI ((h : Int)))), (3, .int (zI (fst))), (5, .int (zI ((i : Int))))]) F dX8_unlike_82 hl (by decide) rfl (fun ls hl => ?_)
                    refine z_iload_n F dX8_unlike_84 rfl (lv_at hl 5 rfl) ?_
                    refine z_if_ge (tgt := 93) F (by omega) dX8_unlike_85 (by decide) (fun c_85 => ?_) (fun c_85 => ?_)
                    · skip
                      refine z_iload_n F dX8_unlike_93 rfl (lv_at hl 5 rfl) ?_
                      refine z_istore_n (lv' := [(3, .int (zI (fst))), (4, .int (zI (0))), (6, .int (zI (G (68) (12 * ((i : Int)) + (2 * ((h : Int))))))), (0, .ref (w.2.1 + (64))), (1, .int (zI (ulN G h))), (2, .int (zI ((h : Int)))), (5, .int (zI ((i : Int))))]) F dX8_unlike_94 rfl hl (by decide) rfl (fun ls hl => ?_)
                      refine z_iinc (k := 6) (z := (i : Int)) (lv' := [(5, .int (zI ((i : Int) + 1))), (3, .int (zI (fst))), (4, .int (zI (0))), (6, .int (zI (G (68) (12 * ((i : Int)) + (2 * ((h : Int))))))), (0, .ref (w.2.1 + (64))), (1, .int (zI (ulN G h))), (2, .int (zI ((h : Int))))]) F dX8_unlike_95 hl rfl (by decide) rfl (fun ls hl => ?_)
                      refine lv_goto (tgt := 18) F.1 F.2.1 dX8_unlike_98 (by decide) ?_
                      exact ih_18 (i + 1) (fst) (0) (by omega) (by omega) (by rw [ulF, ← h18_2, hV]; split <;> omega) (by first | exact bI_1 ((ulB_S _ _ _).mpr (Or.inl c_59)) | exact bI_1 ((ulB_S _ _ _).mpr (Or.inr (by rw [← h18_2, hV]; omega))) | exact bI_0 (fun q => ((ulB_S _ _ _).mp q).elim c_59 (fun q => by rw [← h18_2, hV] at q; omega))) (by omega) _ _ _ hZ (lv_sub hl [4, 5, 6, 1, 2, 0] rfl)
                    · skip
                      refine z_iload F dX8_unlike_88 (lv_at hl 1 rfl) ?_
                      refine lv_goto (tgt := 94) F.1 F.2.1 dX8_unlike_90 (by decide) ?_
                      refine z_istore_n (lv' := [(3, .int (zI (G (68) (12 * ((i : Int)) + (2 * ((h : Int))))))), (4, .int (zI (0))), (6, .int (zI (G (68) (12 * ((i : Int)) + (2 * ((h : Int))))))), (0, .ref (w.2.1 + (64))), (1, .int (zI (ulN G h))), (2, .int (zI ((h : Int)))), (5, .int (zI ((i : Int))))]) F dX8_unlike_94 rfl hl (by decide) rfl (fun ls hl => ?_)
                      refine z_iinc (k := 6) (z := (i : Int)) (lv' := [(5, .int (zI ((i : Int) + 1))), (3, .int (zI (G (68) (12 * ((i : Int)) + (2 * ((h : Int))))))), (4, .int (zI (0))), (6, .int (zI (G (68) (12 * ((i : Int)) + (2 * ((h : Int))))))), (0, .ref (w.2.1 + (64))), (1, .int (zI (ulN G h))), (2, .int (zI ((h : Int))))]) F dX8_unlike_95 hl rfl (by decide) rfl (fun ls hl => ?_)
                      refine lv_goto (tgt := 18) F.1 F.2.1 dX8_unlike_98 (by decide) ?_
                      exact ih_18 (i + 1) (G (68) (12 * ((i : Int)) + (2 * ((h : Int))))) (0) (by omega) (by omega) (by rw [ulF, ← h18_2, hV]; split <;> omega) (by first | exact bI_1 ((ulB_S _ _ _).mpr (Or.inl c_59)) | exact bI_1 ((ulB_S _ _ _).mpr (Or.inr (by rw [← h18_2, hV]; omega))) | exact bI_0 (fun q => ((ulB_S _ _ _).mp q).elim c_59 (fun q => by rw [← h18_2, hV] at q; omega))) (by omega) _ _ _ hZ (lv_sub hl [4, 5, 6, 1, 2, 0] rfl)
                  · skip
                    refine z_iload_n F dX8_unlike_67 rfl (lv_at hl 4 rfl) ?_
                    refine z_if_lt (tgt := 81) F (by omega) dX8_unlike_68 (by decide) (fun c_68 => ?_) (fun c_68 => ?_)
                    · skip
                      refine z_iconst F dX8_unlike_81 ?_
                      refine z_istore (lv' := [(4, .int (zI (0))), (6, .int (zI (G (68) (12 * ((i : Int)) + (2 * ((h : Int))))))), (0, .ref (w.2.1 + (64))), (1, .int (zI (ulN G h))), (2, .int (zI ((h : Int)))), (3, .int (zI (fst))), (5, .int (zI ((i : Int))))]) F dX8_unlike_82 hl (by decide) rfl (fun ls hl => ?_)
                      refine z_iload_n F dX8_unlike_84 rfl (lv_at hl 5 rfl) ?_
                      refine z_if_ge (tgt := 93) F (by omega) dX8_unlike_85 (by decide) (fun c_85 => ?_) (fun c_85 => ?_)
                      · skip
                        refine z_iload_n F dX8_unlike_93 rfl (lv_at hl 5 rfl) ?_
                        refine z_istore_n (lv' := [(3, .int (zI (fst))), (4, .int (zI (0))), (6, .int (zI (G (68) (12 * ((i : Int)) + (2 * ((h : Int))))))), (0, .ref (w.2.1 + (64))), (1, .int (zI (ulN G h))), (2, .int (zI ((h : Int)))), (5, .int (zI ((i : Int))))]) F dX8_unlike_94 rfl hl (by decide) rfl (fun ls hl => ?_)
                        refine z_iinc (k := 6) (z := (i : Int)) (lv' := [(5, .int (zI ((i : Int) + 1))), (3, .int (zI (fst))), (4, .int (zI (0))), (6, .int (zI (G (68) (12 * ((i : Int)) + (2 * ((h : Int))))))), (0, .ref (w.2.1 + (64))), (1, .int (zI (ulN G h))), (2, .int (zI ((h : Int))))]) F dX8_unlike_95 hl rfl (by decide) rfl (fun ls hl => ?_)
                        refine lv_goto (tgt := 18) F.1 F.2.1 dX8_unlike_98 (by decide) ?_
                        exact ih_18 (i + 1) (fst) (0) (by omega) (by omega) (by rw [ulF, ← h18_2, hV]; split <;> omega) (by first | exact bI_1 ((ulB_S _ _ _).mpr (Or.inl c_59)) | exact bI_1 ((ulB_S _ _ _).mpr (Or.inr (by rw [← h18_2, hV]; omega))) | exact bI_0 (fun q => ((ulB_S _ _ _).mp q).elim c_59 (fun q => by rw [← h18_2, hV] at q; omega))) (by omega) _ _ _ hZ (lv_sub hl [4, 5, 6, 1, 2, 0] rfl)
                      · skip
                        refine z_iload F dX8_unlike_88 (lv_at hl 1 rfl) ?_
                        refine lv_goto (tgt := 94) F.1 F.2.1 dX8_unlike_90 (by decide) ?_
                        refine z_istore_n (lv' := [(3, .int (zI (G (68) (12 * ((i : Int)) + (2 * ((h : Int))))))), (4, .int (zI (0))), (6, .int (zI (G (68) (12 * ((i : Int)) + (2 * ((h : Int))))))), (0, .ref (w.2.1 + (64))), (1, .int (zI (ulN G h))), (2, .int (zI ((h : Int)))), (5, .int (zI ((i : Int))))]) F dX8_unlike_94 rfl hl (by decide) rfl (fun ls hl => ?_)
                        refine z_iinc (k := 6) (z := (i : Int)) (lv' := [(5, .int (zI ((i : Int) + 1))), (3, .int (zI (G (68) (12 * ((i : Int)) + (2 * ((h : Int))))))), (4, .int (zI (0))), (6, .int (zI (G (68) (12 * ((i : Int)) + (2 * ((h : Int))))))), (0, .ref (w.2.1 + (64))), (1, .int (zI (ulN G h))), (2, .int (zI ((h : Int))))]) F dX8_unlike_95 hl rfl (by decide) rfl (fun ls hl => ?_)
                        refine lv_goto (tgt := 18) F.1 F.2.1 dX8_unlike_98 (by decide) ?_
                        exact ih_18 (i + 1) (G (68) (12 * ((i : Int)) + (2 * ((h : Int))))) (0) (by omega) (by omega) (by rw [ulF, ← h18_2, hV]; split <;> omega) (by first | exact bI_1 ((ulB_S _ _ _).mpr (Or.inl c_59)) | exact bI_1 ((ulB_S _ _ _).mpr (Or.inr (by rw [← h18_2, hV]; omega))) | exact bI_0 (fun q => ((ulB_S _ _ _).mp q).elim c_59 (fun q => by rw [← h18_2, hV] at q; omega))) (by omega) _ _ _ hZ (lv_sub hl [4, 5, 6, 1, 2, 0] rfl)
                    · skip
                      refine z_iload F dX8_unlike_71 (lv_at hl 0 rfl) ?_
                      refine z_iload_n F dX8_unlike_73 rfl (lv_at hl 4 rfl) ?_
                      refine z_icmp_eq (tgt := 81) F (by omega) (by omega) dX8_unlike_74 (by decide) (fun c_74 => ?_) (fun c_74 => ?_)
                      · skip
                        refine z_iconst F dX8_unlike_81 ?_
                        refine z_istore (lv' := [(4, .int (zI (0))), (6, .int (zI (G (68) (12 * ((i : Int)) + (2 * ((h : Int))))))), (0, .ref (w.2.1 + (64))), (1, .int (zI (ulN G h))), (2, .int (zI ((h : Int)))), (3, .int (zI (fst))), (5, .int (zI ((i : Int))))]) F dX8_unlike_82 hl (by decide) rfl (fun ls hl => ?_)
                        refine z_iload_n F dX8_unlike_84 rfl (lv_at hl 5 rfl) ?_
                        refine z_if_ge (tgt := 93) F (by omega) dX8_unlike_85 (by decide) (fun c_85 => ?_) (fun c_85 => ?_)
                        · skip
                          refine z_iload_n F dX8_unlike_93 rfl (lv_at hl 5 rfl) ?_
                          refine z_istore_n (lv' := [(3, .int (zI (fst))), (4, .int (zI (0))), (6, .int (zI (G (68) (12 * ((i : Int)) + (2 * ((h : Int))))))), (0, .ref (w.2.1 + (64))), (1, .int (zI (ulN G h))), (2, .int (zI ((h : Int)))), (5, .int (zI ((i : Int))))]) F dX8_unlike_94 rfl hl (by decide) rfl (fun ls hl => ?_)
                          refine z_iinc (k := 6) (z := (i : Int)) (lv' := [(5, .int (zI ((i : Int) + 1))), (3, .int (zI (fst))), (4, .int (zI (0))), (6, .int (zI (G (68) (12 * ((i : Int)) + (2 * ((h : Int))))))), (0, .ref (w.2.1 + (64))), (1, .int (zI (ulN G h))), (2, .int (zI ((h : Int))))]) F dX8_unlike_95 hl rfl (by decide) rfl (fun ls hl => ?_)
                          refine lv_goto (tgt := 18) F.1 F.2.1 dX8_unlike_98 (by decide) ?_
                          exact ih_18 (i + 1) (fst) (0) (by omega) (by omega) (by rw [ulF, ← h18_2, hV]; split <;> omega) (by first | exact bI_1 ((ulB_S _ _ _).mpr (Or.inl c_59)) | exact bI_1 ((ulB_S _ _ _).mpr (Or.inr (by rw [← h18_2, hV]; omega))) | exact bI_0 (fun q => ((ulB_S _ _ _).mp q).elim c_59 (fun q => by rw [← h18_2, hV] at q; omega))) (by omega) _ _ _ hZ (lv_sub hl [4, 5, 6, 1, 2, 0] rfl)
                        · skip
                          refine z_iload F dX8_unlike_88 (lv_at hl 1 rfl) ?_
                          refine lv_goto (tgt := 94) F.1 F.2.1 dX8_unlike_90 (by decide) ?_
                          refine z_istore_n (lv' := [(3, .int (zI (G (68) (12 * ((i : Int)) + (2 * ((h : Int))))))), (4, .int (zI (0))), (6, .int (zI (G (68) (12 * ((i : Int)) + (2 * ((h : Int))))))), (0, .ref (w.2.1 + (64))), (1, .int (zI (ulN G h))), (2, .int (zI ((h : Int)))), (5, .int (zI ((i : Int))))]) F dX8_unlike_94 rfl hl (by decide) rfl (fun ls hl => ?_)
                          refine z_iinc (k := 6) (z := (i : Int)) (lv' := [(5, .int (zI ((i : Int) + 1))), (3, .int (zI (G (68) (12 * ((i : Int)) + (2 * ((h : Int))))))), (4, .int (zI (0))), (6, .int (zI (G (68) (12 * ((i : Int)) + (2 * ((h : Int))))))), (0, .ref (w.2.1 + (64))), (1, .int (zI (ulN G h))), (2, .int (zI ((h : Int))))]) F dX8_unlike_95 hl rfl (by decide) rfl (fun ls hl => ?_)
                          refine lv_goto (tgt := 18) F.1 F.2.1 dX8_unlike_98 (by decide) ?_
                          exact ih_18 (i + 1) (G (68) (12 * ((i : Int)) + (2 * ((h : Int))))) (0) (by omega) (by omega) (by rw [ulF, ← h18_2, hV]; split <;> omega) (by first | exact bI_1 ((ulB_S _ _ _).mpr (Or.inl c_59)) | exact bI_1 ((ulB_S _ _ _).mpr (Or.inr (by rw [← h18_2, hV]; omega))) | exact bI_0 (fun q => ((ulB_S _ _ _).mp q).elim c_59 (fun q => by rw [← h18_2, hV] at q; omega))) (by omega) _ _ _ hZ (lv_sub hl [4, 5, 6, 1, 2, 0] rfl)
                      · skip
                        refine z_iconst F dX8_unlike_77 ?_
                        refine lv_goto (tgt := 82) F.1 F.2.1 dX8_unlike_78 (by decide) ?_
                        refine z_istore (lv' := [(4, .int (zI (1))), (6, .int (zI (G (68) (12 * ((i : Int)) + (2 * ((h : Int))))))), (0, .ref (w.2.1 + (64))), (1, .int (zI (ulN G h))), (2, .int (zI ((h : Int)))), (3, .int (zI (fst))), (5, .int (zI ((i : Int))))]) F dX8_unlike_82 hl (by decide) rfl (fun ls hl => ?_)
                        refine z_iload_n F dX8_unlike_84 rfl (lv_at hl 5 rfl) ?_
                        refine z_if_ge (tgt := 93) F (by omega) dX8_unlike_85 (by decide) (fun c_85 => ?_) (fun c_85 => ?_)
                        · skip
                          refine z_iload_n F dX8_unlike_93 rfl (lv_at hl 5 rfl) ?_
                          refine z_istore_n (lv' := [(3, .int (zI (fst))), (4, .int (zI (1))), (6, .int (zI (G (68) (12 * ((i : Int)) + (2 * ((h : Int))))))), (0, .ref (w.2.1 + (64))), (1, .int (zI (ulN G h))), (2, .int (zI ((h : Int)))), (5, .int (zI ((i : Int))))]) F dX8_unlike_94 rfl hl (by decide) rfl (fun ls hl => ?_)
                          refine z_iinc (k := 6) (z := (i : Int)) (lv' := [(5, .int (zI ((i : Int) + 1))), (3, .int (zI (fst))), (4, .int (zI (1))), (6, .int (zI (G (68) (12 * ((i : Int)) + (2 * ((h : Int))))))), (0, .ref (w.2.1 + (64))), (1, .int (zI (ulN G h))), (2, .int (zI ((h : Int))))]) F dX8_unlike_95 hl rfl (by decide) rfl (fun ls hl => ?_)
                          refine lv_goto (tgt := 18) F.1 F.2.1 dX8_unlike_98 (by decide) ?_
                          exact ih_18 (i + 1) (fst) (1) (by omega) (by omega) (by rw [ulF, ← h18_2, hV]; split <;> omega) (by first | exact bI_1 ((ulB_S _ _ _).mpr (Or.inl c_59)) | exact bI_1 ((ulB_S _ _ _).mpr (Or.inr (by rw [← h18_2, hV]; omega))) | exact bI_0 (fun q => ((ulB_S _ _ _).mp q).elim c_59 (fun q => by rw [← h18_2, hV] at q; omega))) (by omega) _ _ _ hZ (lv_sub hl [4, 5, 6, 1, 2, 0] rfl)
                        · skip
                          refine z_iload F dX8_unlike_88 (lv_at hl 1 rfl) ?_
                          refine lv_goto (tgt := 94) F.1 F.2.1 dX8_unlike_90 (by decide) ?_
                          refine z_istore_n (lv' := [(3, .int (zI (G (68) (12 * ((i : Int)) + (2 * ((h : Int))))))), (4, .int (zI (1))), (6, .int (zI (G (68) (12 * ((i : Int)) + (2 * ((h : Int))))))), (0, .ref (w.2.1 + (64))), (1, .int (zI (ulN G h))), (2, .int (zI ((h : Int)))), (5, .int (zI ((i : Int))))]) F dX8_unlike_94 rfl hl (by decide) rfl (fun ls hl => ?_)
                          refine z_iinc (k := 6) (z := (i : Int)) (lv' := [(5, .int (zI ((i : Int) + 1))), (3, .int (zI (G (68) (12 * ((i : Int)) + (2 * ((h : Int))))))), (4, .int (zI (1))), (6, .int (zI (G (68) (12 * ((i : Int)) + (2 * ((h : Int))))))), (0, .ref (w.2.1 + (64))), (1, .int (zI (ulN G h))), (2, .int (zI ((h : Int))))]) F dX8_unlike_95 hl rfl (by decide) rfl (fun ls hl => ?_)
                          refine lv_goto (tgt := 18) F.1 F.2.1 dX8_unlike_98 (by decide) ?_
                          exact ih_18 (i + 1) (G (68) (12 * ((i : Int)) + (2 * ((h : Int))))) (1) (by omega) (by omega) (by rw [ulF, ← h18_2, hV]; split <;> omega) (by first | exact bI_1 ((ulB_S _ _ _).mpr (Or.inl c_59)) | exact bI_1 ((ulB_S _ _ _).mpr (Or.inr (by rw [← h18_2, hV]; omega))) | exact bI_0 (fun q => ((ulB_S _ _ _).mp q).elim c_59 (fun q => by rw [← h18_2, hV] at q; omega))) (by omega) _ _ _ hZ (lv_sub hl [4, 5, 6, 1, 2, 0] rfl)
              · skip
                refine z_iconst F dX8_unlike_37 ?_
                refine lv_goto (tgt := 55) F.1 F.2.1 dX8_unlike_38 (by decide) ?_
                have hV : ulV G (h : Int) i = -1 := by unfold ulV; first | rw [if_neg (by omega)] | rw [if_pos (by omega)]
                refine z_istore (lv' := [(6, .int (zI (-1))), (0, .ref (w.2.1 + (64))), (1, .int (zI (ulN G h))), (2, .int (zI ((h : Int)))), (3, .int (zI (fst))), (4, .int (zI (bI (ulB G (h : Int) i = true)))), (5, .int (zI ((i : Int))))]) F dX8_unlike_55 hl (by decide) rfl (fun ls hl => ?_)
                refine z_iload F dX8_unlike_57 (lv_at hl 5 rfl) ?_
                refine z_ifB_ne (tgt := 77) F dX8_unlike_59 (by decide) (fun c_59 => ?_) (fun c_59 => ?_)
                · skip
                  refine z_iconst F dX8_unlike_77 ?_
                  refine lv_goto (tgt := 82) F.1 F.2.1 dX8_unlike_78 (by decide) ?_
                  refine z_istore (lv' := [(4, .int (zI (1))), (6, .int (zI (-1))), (0, .ref (w.2.1 + (64))), (1, .int (zI (ulN G h))), (2, .int (zI ((h : Int)))), (3, .int (zI (fst))), (5, .int (zI ((i : Int))))]) F dX8_unlike_82 hl (by decide) rfl (fun ls hl => ?_)
                  refine z_iload_n F dX8_unlike_84 rfl (lv_at hl 5 rfl) ?_
                  refine z_if_ge (tgt := 93) F (by omega) dX8_unlike_85 (by decide) (fun c_85 => ?_) (fun c_85 => ?_)
                  · skip
                    refine z_iload_n F dX8_unlike_93 rfl (lv_at hl 5 rfl) ?_
                    refine z_istore_n (lv' := [(3, .int (zI (fst))), (4, .int (zI (1))), (6, .int (zI (-1))), (0, .ref (w.2.1 + (64))), (1, .int (zI (ulN G h))), (2, .int (zI ((h : Int)))), (5, .int (zI ((i : Int))))]) F dX8_unlike_94 rfl hl (by decide) rfl (fun ls hl => ?_)
                    refine z_iinc (k := 6) (z := (i : Int)) (lv' := [(5, .int (zI ((i : Int) + 1))), (3, .int (zI (fst))), (4, .int (zI (1))), (6, .int (zI (-1))), (0, .ref (w.2.1 + (64))), (1, .int (zI (ulN G h))), (2, .int (zI ((h : Int))))]) F dX8_unlike_95 hl rfl (by decide) rfl (fun ls hl => ?_)
                    refine lv_goto (tgt := 18) F.1 F.2.1 dX8_unlike_98 (by decide) ?_
                    exact ih_18 (i + 1) (fst) (1) (by omega) (by omega) (by rw [ulF, ← h18_2, hV]; split <;> omega) (by first | exact bI_1 ((ulB_S _ _ _).mpr (Or.inl c_59)) | exact bI_1 ((ulB_S _ _ _).mpr (Or.inr (by rw [← h18_2, hV]; omega))) | exact bI_0 (fun q => ((ulB_S _ _ _).mp q).elim c_59 (fun q => by rw [← h18_2, hV] at q; omega))) (by omega) _ _ _ hZ (lv_sub hl [4, 5, 6, 1, 2, 0] rfl)
                  · skip
                    refine z_iload F dX8_unlike_88 (lv_at hl 1 rfl) ?_
                    refine lv_goto (tgt := 94) F.1 F.2.1 dX8_unlike_90 (by decide) ?_
                    refine z_istore_n (lv' := [(3, .int (zI (-1))), (4, .int (zI (1))), (6, .int (zI (-1))), (0, .ref (w.2.1 + (64))), (1, .int (zI (ulN G h))), (2, .int (zI ((h : Int)))), (5, .int (zI ((i : Int))))]) F dX8_unlike_94 rfl hl (by decide) rfl (fun ls hl => ?_)
                    refine z_iinc (k := 6) (z := (i : Int)) (lv' := [(5, .int (zI ((i : Int) + 1))), (3, .int (zI (-1))), (4, .int (zI (1))), (6, .int (zI (-1))), (0, .ref (w.2.1 + (64))), (1, .int (zI (ulN G h))), (2, .int (zI ((h : Int))))]) F dX8_unlike_95 hl rfl (by decide) rfl (fun ls hl => ?_)
                    refine lv_goto (tgt := 18) F.1 F.2.1 dX8_unlike_98 (by decide) ?_
                    exact ih_18 (i + 1) (-1) (1) (by omega) (by omega) (by rw [ulF, ← h18_2, hV]; split <;> omega) (by first | exact bI_1 ((ulB_S _ _ _).mpr (Or.inl c_59)) | exact bI_1 ((ulB_S _ _ _).mpr (Or.inr (by rw [← h18_2, hV]; omega))) | exact bI_0 (fun q => ((ulB_S _ _ _).mp q).elim c_59 (fun q => by rw [← h18_2, hV] at q; omega))) (by omega) _ _ _ hZ (lv_sub hl [4, 5, 6, 1, 2, 0] rfl)
                · skip
                  refine z_iload F dX8_unlike_62 (lv_at hl 0 rfl) ?_
                  refine z_if_lt (tgt := 81) F (by omega) dX8_unlike_64 (by decide) (fun c_64 => ?_) (fun c_64 => ?_)
                  · skip
                    refine z_iconst F dX8_unlike_81 ?_
                    refine z_istore (lv' := [(4, .int (zI (0))), (6, .int (zI (-1))), (0, .ref (w.2.1 + (64))), (1, .int (zI (ulN G h))), (2, .int (zI ((h : Int)))), (3, .int (zI (fst))), (5, .int (zI ((i : Int))))]) F dX8_unlike_82 hl (by decide) rfl (fun ls hl => ?_)
                    refine z_iload_n F dX8_unlike_84 rfl (lv_at hl 5 rfl) ?_
                    refine z_if_ge (tgt := 93) F (by omega) dX8_unlike_85 (by decide) (fun c_85 => ?_) (fun c_85 => ?_)
                    · skip
                      refine z_iload_n F dX8_unlike_93 rfl (lv_at hl 5 rfl) ?_
                      refine z_istore_n (lv' := [(3, .int (zI (fst))), (4, .int (zI (0))), (6, .int (zI (-1))), (0, .ref (w.2.1 + (64))), (1, .int (zI (ulN G h))), (2, .int (zI ((h : Int)))), (5, .int (zI ((i : Int))))]) F dX8_unlike_94 rfl hl (by decide) rfl (fun ls hl => ?_)
                      refine z_iinc (k := 6) (z := (i : Int)) (lv' := [(5, .int (zI ((i : Int) + 1))), (3, .int (zI (fst))), (4, .int (zI (0))), (6, .int (zI (-1))), (0, .ref (w.2.1 + (64))), (1, .int (zI (ulN G h))), (2, .int (zI ((h : Int))))]) F dX8_unlike_95 hl rfl (by decide) rfl (fun ls hl => ?_)
                      refine lv_goto (tgt := 18) F.1 F.2.1 dX8_unlike_98 (by decide) ?_
                      exact ih_18 (i + 1) (fst) (0) (by omega) (by omega) (by rw [ulF, ← h18_2, hV]; split <;> omega) (by first | exact bI_1 ((ulB_S _ _ _).mpr (Or.inl c_59)) | exact bI_1 ((ulB_S _ _ _).mpr (Or.inr (by rw [← h18_2, hV]; omega))) | exact bI_0 (fun q => ((ulB_S _ _ _).mp q).elim c_59 (fun q => by rw [← h18_2, hV] at q; omega))) (by omega) _ _ _ hZ (lv_sub hl [4, 5, 6, 1, 2, 0] rfl)
                    · skip
                      refine z_iload F dX8_unlike_88 (lv_at hl 1 rfl) ?_
                      refine lv_goto (tgt := 94) F.1 F.2.1 dX8_unlike_90 (by decide) ?_
                      refine z_istore_n (lv' := [(3, .int (zI (-1))), (4, .int (zI (0))), (6, .int (zI (-1))), (0, .ref (w.2.1 + (64))), (1, .int (zI (ulN G h))), (2, .int (zI ((h : Int)))), (5, .int (zI ((i : Int))))]) F dX8_unlike_94 rfl hl (by decide) rfl (fun ls hl => ?_)
                      refine z_iinc (k := 6) (z := (i : Int)) (lv' := [(5, .int (zI ((i : Int) + 1))), (3, .int (zI (-1))), (4, .int (zI (0))), (6, .int (zI (-1))), (0, .ref (w.2.1 + (64))), (1, .int (zI (ulN G h))), (2, .int (zI ((h : Int))))]) F dX8_unlike_95 hl rfl (by decide) rfl (fun ls hl => ?_)
                      refine lv_goto (tgt := 18) F.1 F.2.1 dX8_unlike_98 (by decide) ?_
                      exact ih_18 (i + 1) (-1) (0) (by omega) (by omega) (by rw [ulF, ← h18_2, hV]; split <;> omega) (by first | exact bI_1 ((ulB_S _ _ _).mpr (Or.inl c_59)) | exact bI_1 ((ulB_S _ _ _).mpr (Or.inr (by rw [← h18_2, hV]; omega))) | exact bI_0 (fun q => ((ulB_S _ _ _).mp q).elim c_59 (fun q => by rw [← h18_2, hV] at q; omega))) (by omega) _ _ _ hZ (lv_sub hl [4, 5, 6, 1, 2, 0] rfl)
                  · skip
                    exfalso; omega
        exact L_18 ((G 64 0).toNat + 1) 0 (-1) 0 (by omega) (by omega) rfl (by simp [ulB, bI]) (by omega) _ _ _ hZ (lv_sub hl [3, 4, 5, 2, 1, 0] rfl)
  exact L_4 7 0 0 (by omega) (by omega) rfl _ _ _ hZ (lv_sub hl [2, 1, 0] rfl)

theorem mX8_letter_23 : Cond.fieldLink RX8 23 "LockedChainModel" "letter" "[I" ∈ wsX8_letter := by decide +kernel
theorem mX8_letter_26 : Cond.fieldLink RX8 26 "LockedChainModel" "came" "[Z" ∈ wsX8_letter := by decide +kernel
theorem mX8_letter_29 : Cond.fieldLink RX8 29 "LockedChainModel" "n" "I" ∈ wsX8_letter := by decide +kernel
theorem mX8_letter_44 : Cond.fieldLink RX8 44 "LockedChainModel" "letters" "I" ∈ wsX8_letter := by decide +kernel
set_option maxHeartbeats 4000000 in
set_option maxRecDepth 100000 in
theorem k_X8_letter (l : Launch) (w : zW) (dom : Nat → Prop) (A : Nat → Prop) (hDA : ∀ i, dom i → A (w.2.1 + i)) (sz : Nat) (G : zM) (hd : ∀ i, 64 ≤ i ∧ i < 71 → dom i) (hI : Inv G) (y q : Int) (hy : -2147483648 ≤ y ∧ y < 2147483648) (hq : -2147483648 ≤ q ∧ q < 2147483648) : Met l yX8_letter wsX8_letter { frames := 1, cells := 0, slots := 0, locals := 22 } (zPre w dom sz G [.ref (w.2.1 + (64)), .int (zI (y)), .int (zI (q))]) (zQi w dom sz (rLet G y q) (fun C => C = G) A) (0) (0) A := by
  refine Met.ofW (cc := cX8_letter) (maxL := 5) (ret := (some .int)) (by decide) rfl ?_
  intro p e s m args below meth c s₁ B hml hv
  obtain ⟨rfl, hsz, hP, hK⟩ := hv
  have F : CallFix p m c cX8_letter 5 s _ wsX8_letter RX8 := ⟨B.exec, B.bytes, hml, findClass_of_methodNamed B.named, atoms_spec (ws := wsX8_letter) B.pre⟩
  have hr := B.returns
  have hlocks := B.notSynchronized
  have hZ : Zs w dom A s.heap sz G s.heap [] := ⟨hsz, hP, va_S.rf⟩
  have hl := lv_entry ([.ref (w.2.1 + (64)), .int (zI (y)), .int (zI (q))]) (n := 5) (Nat.le_of_ble_eq_true rfl)
  rw [lg_entry_eq]
  generalize (lg_sl ([.ref (w.2.1 + (64)), .int (zI (y)), .int (zI (q))]) ++ List.replicate (5 - (lg_sl ([.ref (w.2.1 + (64)), .int (zI (y)), .int (zI (q))])).length) Slot.unset).toArray = ls at hl ⊢
  have hl : lv_has ls 5 [(0, .ref (w.2.1 + (64))), (1, .int (zI (y))), (2, .int (zI (q)))] := hl
  have hin8 : ∀ v ∈ u_ws RX8 TX8 10, v ∈ wsX8_letter := by decide +kernel
  have hn := hI.1
  have hL := hI.2.2.2.1
  refine z_iload_n F dX8_letter_0 rfl (lv_at hl 1 rfl) ?_
  refine z_iconst F dX8_letter_1 ?_
  refine z_aload_n F dX8_letter_2 rfl (lv_at hl 0 rfl) ?_
  refine z_get F hK hZ (64) (hd _ (by omega)) rfl (by decide) rfl hin8 7 (by decide) mX8_letter_44 rfl rfl dX8_letter_3 ?_
  have r_1 := hZ.2.1.1 (64) (7)
  refine z_iconst F dX8_letter_6 ?_
  refine z_isub F dX8_letter_7 ?_
  refine z_bxi hZ (va_runS (As := [.int (zI (y)), .int (zI (0)), .int (zI ((G 64 7) - 1))]) (rest := []) F (k_X8_in l w dom A hDA sz G y 0 ((G 64 7) - 1) (by omega) (by omega) (by omega)) (va_cwS 3 F.2.2.2.2 gX8_letter_X8_in rfl rfl rfl (by decide +kernel) ⟨Nat.le_of_ble_eq_true rfl, Nat.le_of_ble_eq_true rfl⟩) (z_preS hK hZ _) rfl rfl hl.1 rfl (lv_room (Nat.le_of_ble_eq_true rfl)) dX8_letter_8 ⟨Nat.le_of_ble_eq_true rfl, Nat.le_of_ble_eq_true rfl⟩) (fun H locs hZ => ?_)
  refine z_ifB_eq (tgt := 24) F dX8_letter_11 (by decide) (fun c_11 => ?_) (fun c_11 => ?_)
  · skip
    refine z_iconst F dX8_letter_24 ?_
    exact z_iret F hr hlocks hZ (by unfold rLet; (repeat' split) <;> first | rfl | omega) rfl dX8_letter_25 (by omega) (by omega)
  · skip
    refine z_iload_n F dX8_letter_14 rfl (lv_at hl 2 rfl) ?_
    refine z_iconst F dX8_letter_15 ?_
    refine z_bipush F (by decide) dX8_letter_16 ?_
    refine z_bxi hZ (va_runS (As := [.int (zI (q)), .int (zI (0)), .int (zI (6))]) (rest := []) F (k_X8_in l w dom A hDA sz G q 0 6 (by omega) (by omega) (by omega)) (va_cwS 3 F.2.2.2.2 gX8_letter_X8_in rfl rfl rfl (by decide +kernel) ⟨Nat.le_of_ble_eq_true rfl, Nat.le_of_ble_eq_true rfl⟩) (z_preS hK hZ _) rfl rfl hl.1 rfl (lv_room (Nat.le_of_ble_eq_true rfl)) dX8_letter_18 ⟨Nat.le_of_ble_eq_true rfl, Nat.le_of_ble_eq_true rfl⟩) (fun H locs hZ => ?_)
    refine z_ifB_ne (tgt := 26) F dX8_letter_21 (by decide) (fun c_21 => ?_) (fun c_21 => ?_)
    · skip
      refine z_iload_n F dX8_letter_26 rfl (lv_at hl 2 rfl) ?_
      refine z_bipush F (by decide) dX8_letter_27 ?_
      refine z_icmp_ge (tgt := 44) F (by omega) (by omega) dX8_letter_29 (by decide) (fun c_29 => ?_) (fun c_29 => ?_)
      · skip
        refine z_iconst F dX8_letter_44 ?_
        refine z_istore_n (lv' := [(3, .int (zI (0))), (0, .ref (w.2.1 + (64))), (1, .int (zI (y))), (2, .int (zI (q)))]) F dX8_letter_45 rfl hl (by decide) rfl (fun ls hl => ?_)
        refine z_iconst F dX8_letter_46 ?_
        refine z_istore (lv' := [(4, .int (zI (0))), (3, .int (zI (0))), (0, .ref (w.2.1 + (64))), (1, .int (zI (y))), (2, .int (zI (q)))]) F dX8_letter_47 hl (by decide) rfl (fun ls hl => ?_)
        have L_49 : ∀ (nf : Nat) (i : Nat) (acc : Int), ((G 64 0).toNat + 1 ≤ i + nf) → (i ≤ (G 64 0).toNat) → (acc = cntB (fun t => decide (G 70 (7 * y + (t : Int)) ≠ 0)) i) →  ∀ (H : Heap) (locs : List Loc) (ls : Array Slot), Zs w dom A s.heap sz G H locs → lv_has ls 5 [(0, .ref (w.2.1 + (64))), (1, .int (zI (y))), (3, .int (zI (acc))), (4, .int (zI ((i : Int))))] → W p l e (headSpec wsX8_letter { frames := 1, cells := 0, slots := 0, locals := 22 }).room s m ([.ref (w.2.1 + (64)), .int (zI (y)), .int (zI (q))] : List Value).toArray below meth c H locs (0 + 0 + 0) (0 + 0 + 0) (MQ below (zQi w dom sz (rLet G y q) (fun C => C = G) A) ([.ref (w.2.1 + (64)), .int (zI (y)), .int (zI (q))] : List Value).toArray s (0) (0) A) (F0 m 49 ls []) := by
          intro nf
          induction nf with
          | zero => intro i  acc  h49_0 h49_1 h49_2; exact absurd h49_0 (by omega)
          | succ nf ih_49 =>
            intro i  acc  h49_0 h49_1 h49_2 H locs ls hZ hl
            subst h49_2
            have hacc := cntB_rng (fun t => decide (G 70 (7 * y + (t : Int)) ≠ 0)) i
            refine z_iload F dX8_letter_49 (lv_at hl 3 rfl) ?_
            refine z_aload_n F dX8_letter_51 rfl (lv_at hl 0 rfl) ?_
            refine z_get F hK hZ (64) (hd _ (by omega)) rfl (by decide) rfl hin8 0 (by decide) mX8_letter_29 rfl rfl dX8_letter_52 ?_
            have r_2 := hZ.2.1.1 (64) (0)
            refine z_icmp_ge (tgt := 87) F (by omega) (by omega) dX8_letter_55 (by decide) (fun c_55 => ?_) (fun c_55 => ?_)
            · skip
              refine z_iload_n F dX8_letter_87 rfl (lv_at hl 2 rfl) ?_
              exact z_iret F hr hlocks hZ (by unfold rLet; rw [if_neg (by omega), if_neg (by omega), show i = (G 64 0).toNat by omega]) rfl dX8_letter_88 (by omega) (by omega)
            · skip
              refine z_iload_n F dX8_letter_58 rfl (lv_at hl 2 rfl) ?_
              refine z_aload_n F dX8_letter_59 rfl (lv_at hl 0 rfl) ?_
              refine z_get F hK hZ (64) (hd _ (by omega)) rfl (by decide) rfl hin8 9 (by decide) mX8_letter_26 rfl rfl dX8_letter_60 ?_
              refine z_bipush F (by decide) dX8_letter_63 ?_
              refine z_iload_n F dX8_letter_65 rfl (lv_at hl 1 rfl) ?_
              refine z_imul F dX8_letter_66 ?_
              refine z_iload F dX8_letter_67 (lv_at hl 3 rfl) ?_
              refine z_iadd F dX8_letter_69 ?_
              refine z_zald F hK hZ (70) (hd _ (by omega)) rfl (by decide) (by omega) (by omega) dX8_letter_70 ?_
              have r_3 := hZ.2.1.1 (70) (7 * y + ((i : Int)))
              refine z_if_eq (tgt := 78) F (by omega) dX8_letter_71 (by decide) (fun c_71 => ?_) (fun c_71 => ?_)
              · skip
                refine z_iconst F dX8_letter_78 ?_
                refine z_iadd F dX8_letter_79 ?_
                refine z_istore_n (lv' := [(3, .int (zI (cntB (fun t => decide (G 70 (7 * y + (t : Int)) ≠ 0)) i + 0))), (0, .ref (w.2.1 + (64))), (1, .int (zI (y))), (4, .int (zI ((i : Int))))]) F dX8_letter_80 rfl hl (by decide) rfl (fun ls hl => ?_)
                refine z_iinc (k := 3) (z := (i : Int)) (lv' := [(4, .int (zI ((i : Int) + 1))), (3, .int (zI (cntB (fun t => decide (G 70 (7 * y + (t : Int)) ≠ 0)) i + 0))), (0, .ref (w.2.1 + (64))), (1, .int (zI (y)))]) F dX8_letter_81 hl rfl (by decide) rfl (fun ls hl => ?_)
                refine lv_goto (tgt := 49) F.1 F.2.1 dX8_letter_84 (by decide) ?_
                exact ih_49 (i + 1) (cntB (fun t => decide (G 70 (7 * y + (t : Int)) ≠ 0)) i + 0) (by omega) (by omega) (by rw [cntB_S]; simp [bI, *]) _ _ _ hZ (lv_sub hl [2, 3, 1, 0] rfl)
              · skip
                refine z_iconst F dX8_letter_74 ?_
                refine lv_goto (tgt := 79) F.1 F.2.1 dX8_letter_75 (by decide) ?_
                refine z_iadd F dX8_letter_79 ?_
                refine z_istore_n (lv' := [(3, .int (zI (cntB (fun t => decide (G 70 (7 * y + (t : Int)) ≠ 0)) i + 1))), (0, .ref (w.2.1 + (64))), (1, .int (zI (y))), (4, .int (zI ((i : Int))))]) F dX8_letter_80 rfl hl (by decide) rfl (fun ls hl => ?_)
                refine z_iinc (k := 3) (z := (i : Int)) (lv' := [(4, .int (zI ((i : Int) + 1))), (3, .int (zI (cntB (fun t => decide (G 70 (7 * y + (t : Int)) ≠ 0)) i + 1))), (0, .ref (w.2.1 + (64))), (1, .int (zI (y)))]) F dX8_letter_81 hl rfl (by decide) rfl (fun ls hl => ?_)
                refine lv_goto (tgt := 49) F.1 F.2.1 dX8_letter_84 (by decide) ?_
                exact ih_49 (i + 1) (cntB (fun t => decide (G 70 (7 * y + (t : Int)) ≠ 0)) i + 1) (by omega) (by omega) (by rw [cntB_S]; simp [bI, *]) _ _ _ hZ (lv_sub hl [2, 3, 1, 0] rfl)
        exact L_49 ((G 64 0).toNat + 1) 0 0 (by omega) (by omega) rfl _ _ _ hZ (lv_sub hl [2, 3, 1, 0] rfl)
      · skip
        refine z_aload_n F dX8_letter_32 rfl (lv_at hl 0 rfl) ?_
        refine z_get F hK hZ (64) (hd _ (by omega)) rfl (by decide) rfl hin8 8 (by decide) mX8_letter_23 rfl rfl dX8_letter_33 ?_
        refine z_bipush F (by decide) dX8_letter_36 ?_
        refine z_iload_n F dX8_letter_38 rfl (lv_at hl 1 rfl) ?_
        refine z_imul F dX8_letter_39 ?_
        refine z_iload_n F dX8_letter_40 rfl (lv_at hl 2 rfl) ?_
        refine z_iadd F dX8_letter_41 ?_
        refine z_iald F hK hZ (69) (hd _ (by omega)) rfl (by decide) (by omega) (by omega) dX8_letter_42 ?_
        have r_4 := hZ.2.1.1 (69) (6 * y + q)
        exact z_iret F hr hlocks hZ (by unfold rLet; (repeat' split) <;> first | rfl | omega) rfl dX8_letter_43 (by omega) (by omega)
    · skip
      refine z_iconst F dX8_letter_24 ?_
      exact z_iret F hr hlocks hZ (by unfold rLet; (repeat' split) <;> first | rfl | omega) rfl dX8_letter_25 (by omega) (by omega)

set_option maxHeartbeats 4000000 in
set_option maxRecDepth 100000 in
theorem k_X8_votes (l : Launch) (w : zW) (dom : Nat → Prop) (A : Nat → Prop) (hDA : ∀ i, dom i → A (w.2.1 + i)) (sz : Nat) (G : zM) (hd : ∀ i, 64 ≤ i ∧ i < 71 → dom i) (hI : Inv G) (x kd h r v : Int) (hx : -2147483648 ≤ x ∧ x < 2147483648) (hkd : -2147483648 ≤ kd ∧ kd < 2147483648) (hh : -2147483648 ≤ h ∧ h < 2147483648) (hr : -2147483648 ≤ r ∧ r < 2147483648) (hv : -2147483648 ≤ v ∧ v < 2147483648) : Met l yX8_votes wsX8_votes { frames := 2, cells := 0, slots := 0, locals := 43 } (zPre w dom sz G [.ref (w.2.1 + (64)), .int (zI (x)), .int (zI (kd)), .int (zI (h)), .int (zI (r)), .int (zI (v))]) (zQi w dom sz (rVotes G x kd h r v) (fun C => C = G) A) (0) (0) A := by
  refine Met.ofW (cc := cX8_votes) (maxL := 6) (ret := (some .int)) (by decide) rfl ?_
  intro p e s m args below meth c s₁ B hml hv
  obtain ⟨rfl, hsz, hP, hK⟩ := hv
  have F : CallFix p m c cX8_votes 6 s _ wsX8_votes RX8 := ⟨B.exec, B.bytes, hml, findClass_of_methodNamed B.named, atoms_spec (ws := wsX8_votes) B.pre⟩
  have hr := B.returns
  have hlocks := B.notSynchronized
  have hZ : Zs w dom A s.heap sz G s.heap [] := ⟨hsz, hP, va_S.rf⟩
  have hl := lv_entry ([.ref (w.2.1 + (64)), .int (zI (x)), .int (zI (kd)), .int (zI (h)), .int (zI (r)), .int (zI (v))]) (n := 6) (Nat.le_of_ble_eq_true rfl)
  rw [lg_entry_eq]
  generalize (lg_sl ([.ref (w.2.1 + (64)), .int (zI (x)), .int (zI (kd)), .int (zI (h)), .int (zI (r)), .int (zI (v))]) ++ List.replicate (6 - (lg_sl ([.ref (w.2.1 + (64)), .int (zI (x)), .int (zI (kd)), .int (zI (h)), .int (zI (r)), .int (zI (v))])).length) Slot.unset).toArray = ls at hl ⊢
  have hl : lv_has ls 6 [(0, .ref (w.2.1 + (64))), (1, .int (zI (x))), (2, .int (zI (kd))), (3, .int (zI (h))), (4, .int (zI (r))), (5, .int (zI (v)))] := hl
  have hn := hI.1
  have hL := hI.2.2.2.1
  refine z_aload_n F dX8_votes_0 rfl (lv_at hl 0 rfl) ?_
  refine z_iload_n F dX8_votes_1 rfl (lv_at hl 1 rfl) ?_
  refine z_bxi hZ (va_runV (As := [.int (zI (x))]) (rest := []) F (k_X8_isSeat l w dom A hDA sz G hd (by omega) x (by omega)) (cwV 1 F.2.2.2.2 gX8_votes_X8_isSeat rfl rfl rfl (by decide +kernel) ⟨Nat.le_of_ble_eq_true rfl, Nat.le_of_ble_eq_true rfl⟩) (z_preV hK hZ (64) (hd _ (by omega)) rfl (by decide) rfl _) rfl rfl hl.1 rfl (lv_room (Nat.le_of_ble_eq_true rfl)) dX8_votes_2 ⟨Nat.le_of_ble_eq_true rfl, Nat.le_of_ble_eq_true rfl⟩) (fun H locs hZ => ?_)
  refine z_ifB_eq (tgt := 63) F dX8_votes_5 (by decide) (fun c_5 => ?_) (fun c_5 => ?_)
  · skip
    refine z_iconst F dX8_votes_63 ?_
    exact z_iret F hr hlocks hZ (by unfold rVotes; (repeat' split) <;> first | rfl | omega) rfl dX8_votes_64 (by omega) (by omega)
  · skip
    refine z_iload_n F dX8_votes_8 rfl (lv_at hl 2 rfl) ?_
    refine z_iconst F dX8_votes_9 ?_
    refine z_iconst F dX8_votes_10 ?_
    refine z_bxi hZ (va_runS (As := [.int (zI (kd)), .int (zI (1)), .int (zI (2))]) (rest := []) F (k_X8_in l w dom A hDA sz G kd 1 2 (by omega) (by omega) (by omega)) (va_cwS 3 F.2.2.2.2 gX8_votes_X8_in rfl rfl rfl (by decide +kernel) ⟨Nat.le_of_ble_eq_true rfl, Nat.le_of_ble_eq_true rfl⟩) (z_preS hK hZ _) rfl rfl hl.1 rfl (lv_room (Nat.le_of_ble_eq_true rfl)) dX8_votes_11 ⟨Nat.le_of_ble_eq_true rfl, Nat.le_of_ble_eq_true rfl⟩) (fun H locs hZ => ?_)
    refine z_ifB_eq (tgt := 63) F dX8_votes_14 (by decide) (fun c_14 => ?_) (fun c_14 => ?_)
    · skip
      refine z_iconst F dX8_votes_63 ?_
      exact z_iret F hr hlocks hZ (by unfold rVotes; (repeat' split) <;> first | rfl | omega) rfl dX8_votes_64 (by omega) (by omega)
    · skip
      refine z_iload_n F dX8_votes_17 rfl (lv_at hl 3 rfl) ?_
      refine z_iconst F dX8_votes_18 ?_
      refine z_iconst F dX8_votes_19 ?_
      refine z_bxi hZ (va_runS (As := [.int (zI (h)), .int (zI (0)), .int (zI (5))]) (rest := []) F (k_X8_in l w dom A hDA sz G h 0 5 (by omega) (by omega) (by omega)) (va_cwS 3 F.2.2.2.2 gX8_votes_X8_in rfl rfl rfl (by decide +kernel) ⟨Nat.le_of_ble_eq_true rfl, Nat.le_of_ble_eq_true rfl⟩) (z_preS hK hZ _) rfl rfl hl.1 rfl (lv_room (Nat.le_of_ble_eq_true rfl)) dX8_votes_20 ⟨Nat.le_of_ble_eq_true rfl, Nat.le_of_ble_eq_true rfl⟩) (fun H locs hZ => ?_)
      refine z_ifB_eq (tgt := 63) F dX8_votes_23 (by decide) (fun c_23 => ?_) (fun c_23 => ?_)
      · skip
        refine z_iconst F dX8_votes_63 ?_
        exact z_iret F hr hlocks hZ (by unfold rVotes; (repeat' split) <;> first | rfl | omega) rfl dX8_votes_64 (by omega) (by omega)
      · skip
        refine z_iload F dX8_votes_26 (lv_at hl 4 rfl) ?_
        refine z_iconst F dX8_votes_28 ?_
        refine z_bipush F (by decide) dX8_votes_29 ?_
        refine z_bxi hZ (va_runS (As := [.int (zI (r)), .int (zI (0)), .int (zI (9))]) (rest := []) F (k_X8_in l w dom A hDA sz G r 0 9 (by omega) (by omega) (by omega)) (va_cwS 3 F.2.2.2.2 gX8_votes_X8_in rfl rfl rfl (by decide +kernel) ⟨Nat.le_of_ble_eq_true rfl, Nat.le_of_ble_eq_true rfl⟩) (z_preS hK hZ _) rfl rfl hl.1 rfl (lv_room (Nat.le_of_ble_eq_true rfl)) dX8_votes_31 ⟨Nat.le_of_ble_eq_true rfl, Nat.le_of_ble_eq_true rfl⟩) (fun H locs hZ => ?_)
        refine z_ifB_eq (tgt := 63) F dX8_votes_34 (by decide) (fun c_34 => ?_) (fun c_34 => ?_)
        · skip
          refine z_iconst F dX8_votes_63 ?_
          exact z_iret F hr hlocks hZ (by unfold rVotes; (repeat' split) <;> first | rfl | omega) rfl dX8_votes_64 (by omega) (by omega)
        · skip
          refine z_iload F dX8_votes_37 (lv_at hl 5 rfl) ?_
          refine z_bipush F (by decide) dX8_votes_39 ?_
          refine z_bipush F (by decide) dX8_votes_41 ?_
          refine z_bxi hZ (va_runS (As := [.int (zI (v)), .int (zI (-2)), .int (zI (99))]) (rest := []) F (k_X8_in l w dom A hDA sz G v (-2) 99 (by omega) (by omega) (by omega)) (va_cwS 3 F.2.2.2.2 gX8_votes_X8_in rfl rfl rfl (by decide +kernel) ⟨Nat.le_of_ble_eq_true rfl, Nat.le_of_ble_eq_true rfl⟩) (z_preS hK hZ _) rfl rfl hl.1 rfl (lv_room (Nat.le_of_ble_eq_true rfl)) dX8_votes_43 ⟨Nat.le_of_ble_eq_true rfl, Nat.le_of_ble_eq_true rfl⟩) (fun H locs hZ => ?_)
          refine z_ifB_eq (tgt := 63) F dX8_votes_46 (by decide) (fun c_46 => ?_) (fun c_46 => ?_)
          · skip
            refine z_iconst F dX8_votes_63 ?_
            exact z_iret F hr hlocks hZ (by unfold rVotes; (repeat' split) <;> first | rfl | omega) rfl dX8_votes_64 (by omega) (by omega)
          · skip
            refine z_aload_n F dX8_votes_49 rfl (lv_at hl 0 rfl) ?_
            refine z_iload_n F dX8_votes_50 rfl (lv_at hl 1 rfl) ?_
            refine z_iload_n F dX8_votes_51 rfl (lv_at hl 2 rfl) ?_
            refine z_iload_n F dX8_votes_52 rfl (lv_at hl 3 rfl) ?_
            refine z_iload F dX8_votes_53 (lv_at hl 4 rfl) ?_
            refine z_iload F dX8_votes_55 (lv_at hl 5 rfl) ?_
            refine z_bxi hZ (va_runV (As := [.int (zI (x)), .int (zI (kd)), .int (zI (h)), .int (zI (r)), .int (zI (v))]) (rest := []) F (k_X8_voted l w dom A hDA sz G hd (by omega) x kd h r v (by omega) (by omega) (by omega) (by omega) (by omega) (by omega)) (cwV 5 F.2.2.2.2 gX8_votes_X8_voted rfl rfl rfl (by decide +kernel) ⟨Nat.le_of_ble_eq_true rfl, Nat.le_of_ble_eq_true rfl⟩) (z_preV hK hZ (64) (hd _ (by omega)) rfl (by decide) rfl _) rfl rfl hl.1 rfl (lv_room (Nat.le_of_ble_eq_true rfl)) dX8_votes_57 ⟨Nat.le_of_ble_eq_true rfl, Nat.le_of_ble_eq_true rfl⟩) (fun H locs hZ => ?_)
            have r_1 := voteN_rng G x kd h r v
            refine lv_goto (tgt := 64) F.1 F.2.1 dX8_votes_60 (by decide) ?_
            exact z_iret F hr hlocks hZ (by unfold rVotes; (repeat' split) <;> first | rfl | omega) rfl dX8_votes_64 (by omega) (by omega)
