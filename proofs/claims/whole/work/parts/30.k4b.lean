theorem mX4_shows_17 : Cond.fieldLink RX4 17 "LockedChain$Post" "firsts" "[LLockedChain$Letter;" ∈ wsX4_shows := by decide +kernel
theorem mX4_shows_32 : Cond.fieldLink RX4 32 "LockedChain$Letter" "sender" "I" ∈ wsX4_shows := by decide +kernel
theorem mX4_shows_53 : Cond.fieldLink RX4 53 "LockedChain$Letter" "next" "LLockedChain$Letter;" ∈ wsX4_shows := by decide +kernel
set_option maxHeartbeats 4000000 in
set_option maxRecDepth 100000 in
theorem k_X4_shows (l : Launch) (w : zW) (dom : Nat → Prop) (A : Nat → Prop) (hDA : ∀ i, dom i → A (w.2.1 + i)) (sz : Nat) (G : zM) (X : zM) (mm : Nat) (hd : ∀ i, i < 64 → dom i) (hdl : ∀ i, 71 ≤ i ∧ i < 71 + mm → dom i) (hS : PostS G X mm) (hI : Inv X) (x t : Int) (hx : 0 ≤ x ∧ x < 7) (ht : -2147483648 ≤ t ∧ t < 2147483648) : Met l yX4_shows wsX4_shows { frames := 1, cells := 0, slots := 0, locals := 21 } (zPre w dom sz G [.ref (w.2.1 + (2)), .int (zI (x)), .int (zI (t))]) (zQi w dom sz (bI (anyB (shA X x t) (X 64 7).toNat = true)) (fun C => C = G) A) (0) (0) A := by
  refine Met.ofW (cc := cX4_shows) (maxL := 6) (ret := (some .boolean)) (by decide) rfl ?_
  intro p e s m args below meth c s₁ B hml hv
  obtain ⟨rfl, hsz, hP, hK⟩ := hv
  have F : CallFix p m c cX4_shows 6 s _ wsX4_shows RX4 := ⟨B.exec, B.bytes, hml, findClass_of_methodNamed B.named, atoms_spec (ws := wsX4_shows) B.pre⟩
  have hr := B.returns
  have hlocks := B.notSynchronized
  have hZ : Zs w dom A s.heap sz G s.heap [] := ⟨hsz, hP, va_S.rf⟩
  have hl := lv_entry ([.ref (w.2.1 + (2)), .int (zI (x)), .int (zI (t))]) (n := 6) (Nat.le_of_ble_eq_true rfl)
  rw [lg_entry_eq]
  generalize (lg_sl ([.ref (w.2.1 + (2)), .int (zI (x)), .int (zI (t))]) ++ List.replicate (6 - (lg_sl ([.ref (w.2.1 + (2)), .int (zI (x)), .int (zI (t))])).length) Slot.unset).toArray = ls at hl ⊢
  have hl : lv_has ls 6 [(0, .ref (w.2.1 + (2))), (1, .int (zI (x))), (2, .int (zI (t)))] := hl
  have hin2 : ∀ v ∈ u_ws RX2 TX2 8, v ∈ wsX4_shows := by decide +kernel
  have hin4 : ∀ v ∈ u_ws RX4 TX4 4, v ∈ wsX4_shows := by decide +kernel
  obtain ⟨hS1, hS2, hS3, hS4, hS5⟩ := hS
  have hS : PostS G X mm := ⟨hS1, hS2, hS3, hS4, hS5⟩
  have hn := hI.1
  have hLL := hI.2.2.2.1
  refine z_iconst F dX4_shows_0 ?_
  refine z_istore_n (lv' := [(3, .int (zI (0))), (0, .ref (w.2.1 + (2))), (1, .int (zI (x))), (2, .int (zI (t)))]) F dX4_shows_1 rfl hl (by decide) rfl (fun ls hl => ?_)
  have L_2 : ∀ (nf : Nat) (k : Nat), (181 ≤ k + nf) → (k ≤ 180) → (shO X k x t) →  ∀ (H : Heap) (locs : List Loc) (ls : Array Slot), Zs w dom A s.heap sz G H locs → lv_has ls 6 [(0, .ref (w.2.1 + (2))), (1, .int (zI (x))), (2, .int (zI (t))), (3, .int (zI ((k : Int))))] → W p l e (headSpec wsX4_shows { frames := 1, cells := 0, slots := 0, locals := 21 }).room s m ([.ref (w.2.1 + (2)), .int (zI (x)), .int (zI (t))] : List Value).toArray below meth c H locs (0) (0) (MQ below (zQi w dom sz (bI (anyB (shA X x t) (X 64 7).toNat = true)) (fun C => C = G) A) ([.ref (w.2.1 + (2)), .int (zI (x)), .int (zI (t))] : List Value).toArray s (0) (0) A) (F0 m 2 ls []) := by
    intro nf
    induction nf with
    | zero => intro k  h2_0 h2_1 h2_2; exact absurd h2_0 (by omega)
    | succ nf ih_2 =>
      intro k  h2_0 h2_1 h2_2 H locs ls hZ hl
      refine z_iload_n F dX4_shows_2 rfl (lv_at hl 3 rfl) ?_
      refine z_aload_n F dX4_shows_3 rfl (lv_at hl 0 rfl) ?_
      refine z_get F hK hZ (2) (hd _ (by omega)) rfl (by decide) rfl hin4 1 (by decide) mX4_shows_17 rfl rfl dX4_shows_4 ?_
      refine z_alen F hK hZ (4) (hd _ (by omega)) (by decide) rfl dX4_shows_7 ?_
      refine z_icmp_ge (tgt := 77) F (by omega) (by omega) dX4_shows_8 (by decide) (fun c_8 => ?_) (fun c_8 => ?_)
      · skip
        refine z_iconst F dX4_shows_77 ?_
        exact z_zret F hr hlocks hZ (bI_0 (shA_no hI (by rw [← show k = 180 by omega]; exact h2_2))) (by omega) rfl dX4_shows_78 (by omega) (by omega)
      · skip
        refine lv_null F.1 F.2.1 dX4_shows_11 ?_
        rw [← zV_m1 w]
        refine z_vstore (lv' := [(4, zV w ((-1))), (0, .ref (w.2.1 + (2))), (1, .int (zI (x))), (2, .int (zI (t))), (3, .int (zI ((k : Int))))]) F dX4_shows_12 hl (by decide) (by unfold zV; (repeat' split) <;> rfl) (fun ls hl => ?_)
        refine z_aload_n F dX4_shows_14 rfl (lv_at hl 1 rfl) ?_
        refine z_get F hK hZ (2) (hd _ (by omega)) rfl (by decide) rfl hin4 1 (by decide) mX4_shows_17 rfl rfl dX4_shows_15 ?_
        refine z_iload_n F dX4_shows_18 rfl (lv_at hl 4 rfl) ?_
        refine z_aald F hK hZ (4) (hd _ (by omega)) (by decide) rfl (by decide) (by omega) (by omega) dX4_shows_19 ?_
        rw [show G (4) ((k : Int)) = nx X (k : Int) 0 from (hS4 _ (by omega) (by omega)).1]
        refine z_vstore (lv' := [(5, zV w (nx X (k : Int) 0)), (4, zV w ((-1))), (0, .ref (w.2.1 + (2))), (1, .int (zI (x))), (2, .int (zI (t))), (3, .int (zI ((k : Int))))]) F dX4_shows_20 hl (by decide) (by unfold zV; (repeat' split) <;> rfl) (fun ls hl => ?_)
        have L_22 : ∀ (nf : Nat) (i : Nat) (o : Int), ((X 64 7).toNat + 1 ≤ i + nf) → (i ≤ (X 64 7).toNat) → (shI X (k : Int) x t i o) →  ∀ (H : Heap) (locs : List Loc) (ls : Array Slot), Zs w dom A s.heap sz G H locs → lv_has ls 6 [(0, .ref (w.2.1 + (2))), (1, .int (zI (x))), (2, .int (zI (t))), (3, .int (zI ((k : Int)))), (4, zV w (o)), (5, zV w (nx X (k : Int) i))] → W p l e (headSpec wsX4_shows { frames := 1, cells := 0, slots := 0, locals := 21 }).room s m ([.ref (w.2.1 + (2)), .int (zI (x)), .int (zI (t))] : List Value).toArray below meth c H locs (0) (0) (MQ below (zQi w dom sz (bI (anyB (shA X x t) (X 64 7).toNat = true)) (fun C => C = G) A) ([.ref (w.2.1 + (2)), .int (zI (x)), .int (zI (t))] : List Value).toArray s (0) (0) A) (F0 m 22 ls []) := by
          intro nf
          induction nf with
          | zero => intro i  o  h22_0 h22_1 h22_2; exact absurd h22_0 (by omega)
          | succ nf ih_22 =>
            intro i  o  h22_0 h22_1 h22_2 H locs ls hZ hl
            refine z_vload (w := w) F dX4_shows_22 (lv_at hl 5 rfl) ?_
            refine z_ifnull (tgt := 71) F dX4_shows_24 (by decide) (fun c_24 => ?_) (fun c_24 => ?_)
            · skip
              have hoe := shI_end (shI_skip (q := (X 64 7).toNat) h22_2 (by omega) (fun l a b => nx_neg c_24 l a (by omega))) (by omega) h2_2
              refine z_iinc (k := 3) (z := (k : Int)) (lv' := [(3, .int (zI ((k : Int) + 1))), (0, .ref (w.2.1 + (2))), (1, .int (zI (x))), (2, .int (zI (t))), (4, zV w (o)), (5, zV w (nx X (k : Int) i))]) F dX4_shows_71 hl rfl (by decide) (by unfold zV; (repeat' split) <;> rfl) (fun ls hl => ?_)
              refine lv_goto (tgt := 2) F.1 F.2.1 dX4_shows_74 (by decide) ?_
              exact ih_2 (k + 1) (by omega) (by omega) hoe _ _ _ hZ (lv_sub hl [1, 2, 3, 0] rfl)
            · skip
              obtain ⟨q, hq, hq1, hq2, hq3, hq4⟩ := nx_pos (X := X) (k := (k : Int)) (i := i) (by assumption)
              rw [hq, zV_nat] at hl
              obtain ⟨⟨e0, e1, e2, e3, e4, e5⟩, e6, e7⟩ := hS5 q hq2
              have hqr := let_rng hI (l := (q : Int)) ⟨by omega, hq2⟩
              have hsk := shI_skip h22_2 hq1 hq4
              refine z_aload F dX4_shows_27 (lv_at hl 5 rfl) ?_
              refine z_get F hK hZ (71 + q) (hdl _ (by omega)) (shp_let q) (by decide) rfl hin2 0 (by decide) mX4_shows_32 rfl rfl dX4_shows_29 ?_
              have r_1 := hZ.2.1.1 (71 + q) (0)
              refine z_iload_n F dX4_shows_32 rfl (lv_at hl 2 rfl) ?_
              refine z_icmp_ne (tgt := 61) F (by omega) (by omega) dX4_shows_33 (by decide) (fun c_33 => ?_) (fun c_33 => ?_)
              · skip
                refine z_aload F dX4_shows_61 (lv_at hl 5 rfl) ?_
                refine z_get F hK hZ (71 + q) (hdl _ (by omega)) (shp_let q) (by decide) rfl hin2 7 (by decide) mX4_shows_53 rfl rfl dX4_shows_63 ?_
                rw [show G (71 + q) 7 = nx X ((k : Int)) (q + 1) from by rw [e7, hq3]]
                refine z_vstore (lv' := [(5, zV w (nx X ((k : Int)) (q + 1))), (0, .ref (w.2.1 + (2))), (1, .int (zI (x))), (2, .int (zI (t))), (3, .int (zI ((k : Int)))), (4, zV w (o))]) F dX4_shows_66 hl (by decide) (by unfold zV; (repeat' split) <;> rfl) (fun ls hl => ?_)
                refine lv_goto (tgt := 22) F.1 F.2.1 dX4_shows_68 (by decide) ?_
                exact ih_22 (q + 1) o (by omega) (by omega) (shI_no hsk (fun z => by first | exact c_33 (e0.trans z.2.1) | exact c_42 z.2.2)) _ _ _ hZ (lv_sub hl [1, 2, 3, 4, 5, 0] rfl)
              · skip
                refine z_aload F dX4_shows_36 (lv_at hl 5 rfl) ?_
                refine z_iload_n F dX4_shows_38 rfl (lv_at hl 1 rfl) ?_
                refine z_bxi hZ (va_runV (As := [.int (zI (x))]) (rest := []) F (k_X2_cameTo l w dom A hDA sz G q (hdl _ (by omega)) (cam_rng hS (by omega)) x (by omega)) (cwV 1 F.2.2.2.2 gX4_shows_X2_cameTo rfl rfl rfl (by decide +kernel) ⟨Nat.le_of_ble_eq_true rfl, Nat.le_of_ble_eq_true rfl⟩) (z_preV hK hZ (71 + q) (hdl _ (by omega)) (shp_let q) (by decide) rfl _) rfl rfl hl.1 rfl (lv_room (Nat.le_of_ble_eq_true rfl)) dX4_shows_39 ⟨Nat.le_of_ble_eq_true rfl, Nat.le_of_ble_eq_true rfl⟩) (fun H locs hZ => ?_)
                refine z_topI (cam_bI hS (l := q) (s := x) (by omega) (by omega)) ?_
                refine z_ifB_eq (tgt := 61) F dX4_shows_42 (by decide) (fun c_42 => ?_) (fun c_42 => ?_)
                · skip
                  refine z_aload F dX4_shows_61 (lv_at hl 5 rfl) ?_
                  refine z_get F hK hZ (71 + q) (hdl _ (by omega)) (shp_let q) (by decide) rfl hin2 7 (by decide) mX4_shows_53 rfl rfl dX4_shows_63 ?_
                  rw [show G (71 + q) 7 = nx X ((k : Int)) (q + 1) from by rw [e7, hq3]]
                  refine z_vstore (lv' := [(5, zV w (nx X ((k : Int)) (q + 1))), (0, .ref (w.2.1 + (2))), (1, .int (zI (x))), (2, .int (zI (t))), (3, .int (zI ((k : Int)))), (4, zV w (o))]) F dX4_shows_66 hl (by decide) (by unfold zV; (repeat' split) <;> rfl) (fun ls hl => ?_)
                  refine lv_goto (tgt := 22) F.1 F.2.1 dX4_shows_68 (by decide) ?_
                  exact ih_22 (q + 1) o (by omega) (by omega) (shI_no hsk (fun z => by first | exact c_33 (e0.trans z.2.1) | exact c_42 z.2.2)) _ _ _ hZ (lv_sub hl [1, 2, 3, 4, 5, 0] rfl)
                · skip
                  refine z_aload F dX4_shows_45 (lv_at hl 5 rfl) ?_
                  refine z_vload (w := w) F dX4_shows_47 (lv_at hl 4 rfl) ?_
                  have hod : 0 ≤ o → ∃ q : Nat, o = ((71 + q : Nat) : Int) ∧ dom (71 + q) := fun z => hsk.elim (fun y => by omega) (fun ⟨p, y1, y2, _, _⟩ => ⟨p, y2, hdl _ (by omega)⟩)
                  refine z_bxi hZ (va_runV (As := [zV w (o)]) (rest := []) F (k_X2_isUnlike l w dom A hDA sz G q (hdl _ (by omega)) o hod) (cwV 1 F.2.2.2.2 gX4_shows_X2_isUnlike rfl rfl rfl (by decide +kernel) ⟨Nat.le_of_ble_eq_true rfl, Nat.le_of_ble_eq_true rfl⟩) (z_preV hK hZ (71 + q) (hdl _ (by omega)) (shp_let q) (by decide) rfl _) rfl rfl hl.1 rfl (lv_room (Nat.le_of_ble_eq_true rfl)) dX4_shows_49 ⟨Nat.le_of_ble_eq_true rfl, Nat.le_of_ble_eq_true rfl⟩) (fun H locs hZ => ?_)
                  clear hod
                  have hun : (0 ≤ o ∧ (G (71 + q) 4 ≠ G o.toNat 4 ∨ G (71 + q) 5 ≠ G o.toNat 5)) ↔ shU X (k : Int) x t q o := by
                    constructor
                    · rintro ⟨z, y⟩
                      rcases hsk with ⟨y1, _⟩ | ⟨p, y1, y2, y3, _⟩
                      · omega
                      · refine ⟨p, y1, y2, y3, fun y5 => ?_⟩
                        have hp := (hS5 p (by omega)).1
                        rw [y2, show (((71 + p : Nat) : Int)).toNat = 71 + p from rfl, e4, e5, hp.2.2.2.2.1, hp.2.2.2.2.2] at y
                        exact y.elim (fun y => y y5.1) (fun y => y y5.2)
                    · rintro ⟨p, y1, y2, y3, y4⟩
                      have hp := (hS5 p (by omega)).1
                      refine ⟨by omega, ?_⟩
                      rw [y2, show (((71 + p : Nat) : Int)).toNat = 71 + p from rfl, e4, e5, hp.2.2.2.2.1, hp.2.2.2.2.2]
                      exact Decidable.by_contra fun z => y4 ⟨Decidable.by_contra fun y => z (Or.inl y), Decidable.by_contra fun y => z (Or.inr y)⟩
                  refine z_ifB_eq (tgt := 57) F dX4_shows_52 (by decide) (fun c_52 => ?_) (fun c_52 => ?_)
                  · skip
                    refine z_aload F dX4_shows_57 (lv_at hl 5 rfl) ?_
                    rw [← zV_nat w (71 + q)]
                    refine z_vstore (lv' := [(4, zV w (((71 + q : Nat) : Int))), (0, .ref (w.2.1 + (2))), (1, .int (zI (x))), (2, .int (zI (t))), (3, .int (zI ((k : Int)))), (5, .ref (w.2.1 + (71 + q)))]) F dX4_shows_59 hl (by decide) (by unfold zV; (repeat' split) <;> rfl) (fun ls hl => ?_)
                    refine z_aload F dX4_shows_61 (lv_at hl 5 rfl) ?_
                    refine z_get F hK hZ (71 + q) (hdl _ (by omega)) (shp_let q) (by decide) rfl hin2 7 (by decide) mX4_shows_53 rfl rfl dX4_shows_63 ?_
                    rw [show G (71 + q) 7 = nx X ((k : Int)) (q + 1) from by rw [e7, hq3]]
                    refine z_vstore (lv' := [(5, zV w (nx X ((k : Int)) (q + 1))), (4, zV w (((71 + q : Nat) : Int))), (0, .ref (w.2.1 + (2))), (1, .int (zI (x))), (2, .int (zI (t))), (3, .int (zI ((k : Int))))]) F dX4_shows_66 hl (by decide) (by unfold zV; (repeat' split) <;> rfl) (fun ls hl => ?_)
                    refine lv_goto (tgt := 22) F.1 F.2.1 dX4_shows_68 (by decide) ?_
                    exact ih_22 (q + 1) ((71 + q : Nat) : Int) (by omega) (by omega) (shI_yes hsk ⟨hq3, e0.symm.trans c_33, c_42⟩ (fun p hp => Classical.byContradiction fun z => c_52 (hun.mpr (by rcases hsk with ⟨y, _⟩ | ⟨p2, y1, y2, y3, _⟩; (exfalso; omega); have h2 : p2 = p := (by omega); rw [h2] at y1 y2 y3; exact ⟨p, y1, y2, y3, z⟩)))) _ _ _ hZ (lv_sub hl [2, 3, 4, 5, 1, 0] rfl)
                  · skip
                    refine z_iconst F dX4_shows_55 ?_
                    exact z_zret F hr hlocks hZ (bI_1 (by obtain ⟨p, y1, y2, y3, y4⟩ := hun.mp c_52; exact shA_yes hI y1 (by omega) y3 ⟨hq3, e0.symm.trans c_33, c_42⟩ y4)) (by omega) rfl dX4_shows_56 (by omega) (by omega)
        exact L_22 ((X 64 7).toNat + 1) 0 (-1) (by omega) (by omega) (Or.inl ⟨rfl, fun l h => absurd h (Nat.not_lt_zero l)⟩) _ _ _ hZ (lv_sub hl [2, 3, 4, 5, 1, 0] rfl)
  exact L_2 181 0 (by omega) (by omega) (fun k h => absurd h (Nat.not_lt_zero k)) _ _ _ hZ (lv_sub hl [1, 2, 3, 0] rfl)
