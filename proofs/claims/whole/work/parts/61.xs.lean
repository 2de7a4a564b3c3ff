/-! ===== objects half made: a partial picture of the cells ===== -/
abbrev zX : Type := Nat → Option va_E
def x0 : zX := fun _ => none
def xu (X : zX) (i : Nat) (e : va_E) : zX := fun j => if j = i then some e else X j
def xj (X Y : zX) : zX := fun j => match Y j with
  | some e => some e
  | none => X j
def xz (w : zW) (a b : Nat) (G : zM) : zX := fun i => if a ≤ i ∧ i < b then some (zE w i (G i)) else none
theorem xu_at (X : zX) (i : Nat) (e : va_E) : xu X i e i = some e := if_pos rfl
theorem xu_ne (X : zX) {i j : Nat} (e : va_E) (h : j ≠ i) : xu X i e j = X j := if_neg h
def xP (w : zW) (X : zX) (H : Heap) : Prop := ∀ (i : Nat) (e : va_E), X i = some e → va_at w.1 vwCl (w.2.1 + i, e) H
def Xs (w : zW) (A : Nat → Prop) (H0 : Heap) (n : Nat) (X : zX) (H : Heap) (locs : List Loc) : Prop := H.size = w.2.1 + n ∧ xP w X H ∧ va_S A H0 H locs
def zK7 (w : zW) (U : State) : Prop := zK w U ∧ (va_Nw (.methodLinkNest RX7 9 yX1_init "LockedChain") U ∧ va_Nw (.methodLinkNest RX7 18 yX4_init "LockedChain") U ∧ va_Nw (.methodLinkNest RX6 11 yX3_init "LockedChain") U ∧ va_Nw (.methodLinkNest RX6 23 yX0_init "LockedChain") U) ∧ va_AO "LockedChain$Letter" U ∧ va_AO "LockedChain$Seat" U
theorem zK7.moved {w : zW} {s U : State} (hW : s.WarmedH U.vm) (h : zK7 w s) : zK7 w U := ⟨h.1.moved hW, ⟨va_Nw.warmM hW h.2.1.1, va_Nw.warmM hW h.2.1.2.1, va_Nw.warmM hW h.2.1.2.2.1, va_Nw.warmM hW h.2.1.2.2.2⟩, va_AO.moved hW.alike h.2.2.1, va_AO.moved hW.alike h.2.2.2⟩
theorem zK7.blind {w : zW} {U : State} {g : JFrame} {mk : MethodId} {a : Array Value} (h : zK7 w U) : zK7 w (U.calling g mk a) := ⟨h.1.blind, ⟨va_Nw.same rfl (u := U) (U := U.calling g mk a) rfl h.2.1.1, va_Nw.same rfl (u := U) (U := U.calling g mk a) rfl h.2.1.2.1, va_Nw.same rfl (u := U) (U := U.calling g mk a) rfl h.2.1.2.2.1, va_Nw.same rfl (u := U) (U := U.calling g mk a) rfl h.2.1.2.2.2⟩, va_AO.moved (u := U) (U := U.calling g mk a) (Vm.Alike.refl U.vm) h.2.2.1, va_AO.moved (u := U) (U := U.calling g mk a) (Vm.Alike.refl U.vm) h.2.2.2⟩
def aN (w : zW) (i n : Nat) : Nat → Prop := fun q => q = w.2.1 + i ∨ w.2.1 + n ≤ q
def xB (w : zW) (n : Nat) (X : zX) : State → Prop := fun U => U.heap.size = w.2.1 + n ∧ xP w X U.heap ∧ zK7 w U
def xPre (w : zW) (n : Nat) (X : zX) (av : List Value) : Array Value → State → Prop := va_Pc av (xB w n X)
def xQ (w : zW) (n : Nat) (X : zX) : Unit → State → Prop := fun _ t => t.heap.size = w.2.1 + n ∧ xP w X t.heap
abbrev xQv (w : zW) (n : Nat) (X : zX) (A : Nat → Prop) := va_Qv (S := Unit) (fun _ => True) (xQ w n X) A
theorem xPre_blind (w : zW) (n : Nat) (X : zX) (av : List Value) : FrameBlind (xPre w n X av) := fun a U g mk q => by
  obtain ⟨q0, q1, q2, q3⟩ := q
  exact ⟨q0, q1, q2, q3.blind⟩
section ZX
variable {p : Program} {l : Launch} {e : Env} {R : Room} {s : State} {m : MethodId} {args : Array Value} {below : List Frame} {meth : Method} {c : Code} {H : Heap} {locs : List Loc} {cells slots : Nat} {Q : State → Prop}
variable {cc : ByteArray} {nL : Nat} {Ts : List Cond} {own : String} {pc : Nat} {ls : Array Slot} {rest : List Value}
variable {w : zW} {A : Nat → Prop} {H0 : Heap} {n : Nat} {X : zX}
theorem Xs_push (hZ : Xs w A H0 n X H locs) {H1 : Heap} {e : va_E} (z : H1.size = H.size + 1) (o1 : ∀ q, q < H.size → H1[q]? = H[q]?) (he : va_at w.1 vwCl (w.2.1 + n, e) H1) : Xs w A H0 (n + 1) (xu X n e) H1 locs := by
  obtain ⟨h1, h2, h3⟩ := hZ
  refine ⟨by rw [z, h1]; omega, fun j e' hj => ?_, ⟨Nat.le_trans h3.1 (by omega), fun x a b => (o1 x (Nat.lt_of_lt_of_le a h3.1)).trans (h3.2.1 x a b), h3.2.2⟩⟩
  by_cases q : j = n
  · rw [q, xu_at] at hj
    cases hj
    rw [q]; exact he
  · rw [xu_ne _ _ q] at hj
    exact (h2 j e' hj).kept (o1 _ (h2 j e' hj).lt)
theorem Xs_set (hZ : Xs w A H0 n X H locs) {i k : Nat} {e : va_E} {H1 : Heap} (hi : A (w.2.1 + i)) (z : H1.size = H.size) (oq : ∀ q : Nat, q ≠ w.2.1 + i → H1[q]? = H[q]?) (he : va_at w.1 vwCl (w.2.1 + i, e) H1) : Xs w A H0 n (xu X i e) H1 (locs ++ [⟨w.2.1 + i, k⟩]) := by
  obtain ⟨h1, h2, h3⟩ := hZ
  refine ⟨z.trans h1, fun j e' hj => ?_, h3.put z oq hi⟩
  by_cases q : j = i
  · rw [q, xu_at] at hj
    cases hj
    rw [q]; exact he
  · rw [xu_ne _ _ q] at hj
    exact (h2 j e' hj).kept (oq _ (by omega))
theorem x_new (F : CallFix p m c cc nL s args Ts own) (hK : zK7 w s) (hZ : Xs w A H0 n X H locs) {index k N : Nat} {C : String} {T : u_T} (hc : vwCl[k]? = some (C, T, N)) (ty : Nat → FieldType) (hty : ∀ k, k < N → parseFieldDescriptor (T k).2.2.1 = some (ty k)) (hcl : Cond.classLink own index C ∈ Ts) (hins : Cond.instantiable C N ∈ Ts) (hini : Cond.initialized C ∈ Ts) (hin : ∀ v ∈ u_ws C T N, v ∈ Ts) (fs : List Value) (hfs : ∀ j, j < N → defaultValue (ty j) = vp_V fs j) (hcells : cells + 1 ≤ R.cells) (hslots : slots + N ≤ R.slots) (hdg : decode cc pc = .ok (.new index, 3))
    (kk : ∀ H1 : Heap, Xs w A H0 (n + 1) (xu X n (.inr (k, fs))) H1 locs → W p l e R s m args below meth c H1 locs (cells + 1) (slots + N) Q (F0 m (pc + 3) ls (.ref (w.2.1 + n) :: rest))) : W p l e R s m args below meth c H locs cells slots Q (F0 m pc ls rest) := by
  have hKn := hK.1.1.1 k _ hc
  refine W.newcK F.1 F.2.1 F.2.2.2.1 (F.2.2.2.2 _ hcl) (F.2.2.2.2 _ hins) (F.2.2.2.2 _ hini) rfl hdg hcells hslots hKn.2.1 hZ.1 fun H1 kC hkC e1 z1 o1 => ?_
  have hs := hZ.1
  refine kk H1 (Xs_push hZ (by omega) (fun q h => o1 q (by omega)) ?_)
  exact ⟨_, hc, (u_born ty F.2.2.2.2 hin hKn hkC e1 hty).to (fun j hj => hfs j hj)⟩
theorem x_newI (F : CallFix p m c cc nL s args Ts own) (hK : zK7 w s) (hZ : Xs w A H0 n X H locs) (hin : Cond.arrayClass .int ∈ Ts) {z : Int} {N : Nat} (hz : 0 ≤ z ∧ z < 2147483648) (hN : z.toNat = N) (hb : N * 4 ≤ 536870912) (hcells : cells + 1 ≤ R.cells) (hslots : slots + N ≤ R.slots) (hdg : decode cc pc = .ok (.newarray .int, 2))
    (kk : ∀ H1 : Heap, Xs w A H0 (n + 1) (xu X n (.inl (w.2.2.1, N, .inl (fun _ => 0)))) H1 locs → W p l e R s m args below meth c H1 locs (cells + 1) (slots + N) Q (F0 m (pc + 2) ls (.ref (w.2.1 + n) :: rest))) : W p l e R s m args below meth c H locs cells slots Q (F0 m pc ls (.int (zI z) :: rest)) := by
  have hq := hK.1.1.2 0 _ rfl
  refine va_newaK (atype := .int) F.1 F.2.1 (F.2.2.2.2 _ hin) rfl hdg rfl (by rw [show (0 : Int32) = zI 0 from rfl, zI_lt (by omega) (by omega)]; omega) ((zI_clamp hz.1 hz.2).trans hN) hb hcells hslots hZ.1 fun H1 cA e1 z1 o1 hAr hNm => ?_
  have hs := hZ.1
  have hc : cA = w.2.2.1 := Option.some.inj (hNm.symm.trans hq.2)
  subst hc
  exact kk H1 (Xs_push hZ (by omega) (fun q h => o1 q (by omega)) e1)
theorem x_newZ (F : CallFix p m c cc nL s args Ts own) (hK : zK7 w s) (hZ : Xs w A H0 n X H locs) (hin : Cond.arrayClass .boolean ∈ Ts) {z : Int} {N : Nat} (hz : 0 ≤ z ∧ z < 2147483648) (hN : z.toNat = N) (hb : N * 1 ≤ 536870912) (hcells : cells + 1 ≤ R.cells) (hslots : slots + N ≤ R.slots) (hdg : decode cc pc = .ok (.newarray .boolean, 2))
    (kk : ∀ H1 : Heap, Xs w A H0 (n + 1) (xu X n (.inl (w.2.2.2.1, N, .inl (fun _ => 0)))) H1 locs → W p l e R s m args below meth c H1 locs (cells + 1) (slots + N) Q (F0 m (pc + 2) ls (.ref (w.2.1 + n) :: rest))) : W p l e R s m args below meth c H locs cells slots Q (F0 m pc ls (.int (zI z) :: rest)) := by
  have hq := hK.1.1.2 1 _ rfl
  refine va_newaK (atype := .boolean) F.1 F.2.1 (F.2.2.2.2 _ hin) rfl hdg rfl (by rw [show (0 : Int32) = zI 0 from rfl, zI_lt (by omega) (by omega)]; omega) ((zI_clamp hz.1 hz.2).trans hN) hb hcells hslots hZ.1 fun H1 cA e1 z1 o1 hAr hNm => ?_
  have hs := hZ.1
  have hc : cA = w.2.2.2.1 := Option.some.inj (hNm.symm.trans hq.2)
  subst hc
  exact kk H1 (Xs_push hZ (by omega) (fun q h => o1 q (by omega)) e1)
theorem x_newQ (F : CallFix p m c cc nL s args Ts own) (hZ : Xs w A H0 n X H locs) {index : Nat} {C : String} {cA0 : ClassId} (hclink : Cond.classLink own index C ∈ Ts) (hover : va_AO C s) (hq : va_RA s cA0 (.object C)) {z : Int} {N : Nat} (hz : 0 ≤ z ∧ z < 2147483648) (hN : z.toNat = N) (hb : N * 4 ≤ 536870912) (hcells : cells + 1 ≤ R.cells) (hslots : slots + N ≤ R.slots) (hdg : decode cc pc = .ok (.anewarray index, 3))
    (kk : ∀ H1 : Heap, Xs w A H0 (n + 1) (xu X n (.inl (cA0, N, .inr (.inr (.inr (.inr (fun _ => none))))))) H1 locs → W p l e R s m args below meth c H1 locs (cells + 1) (slots + N) Q (F0 m (pc + 3) ls (.ref (w.2.1 + n) :: rest))) : W p l e R s m args below meth c H locs cells slots Q (F0 m pc ls (.int (zI z) :: rest)) := by
  have hcl : (zI z).toNatClampNeg = N := (zI_clamp hz.1 hz.2).trans hN
  refine W.anew F.1 F.2.1 F.2.2.2.1 (F.2.2.2.2 _ hclink) (va_AO.use hover) rfl hdg rfl (by rw [show (0 : Int32) = zI 0 from rfl, zI_lt (by omega) (by omega)]; omega) (by rw [hcl]; exact hb) hcells (by rw [hcl]; exact hslots) fun cA kA comp f1 f2 f3 f4 => ?_
  rw [hcl, hZ.1]
  have hs := hZ.1
  generalize hH1 : H.push ({ cls := cA, slots := Array.replicate N .null, vm := .none } : Cell) = H1
  have z1 : H1.size = H.size + 1 := by rw [← hH1, Array.size_push]
  have e1 : H1[H.size]? = some (arrV cA N (fun _ => .null)) := by rw [← hH1, Array.getElem?_push_size, ← arrV_new]
  have o1 : ∀ q : Nat, q < H.size → H1[q]? = H[q]? := fun q hq => by rw [← hH1, Array.getElem?_push, if_neg (Nat.ne_of_lt hq)]
  obtain ⟨kA', comp', -, -, -, h4⟩ := hq
  have hc : cA = cA0 := Option.some.inj (f1.symm.trans h4)
  subst hc
  refine kk H1 (Xs_push hZ z1 o1 ?_)
  show H1[w.2.1 + n]? = some (vp_cell _ _)
  rw [vp_cell_q, ← hs]
  exact e1
theorem x_put (F : CallFix p m c cc nL s args Ts own) (hK : zK7 w s) (hZ : Xs w A H0 n X H locs) (i : Nat) (hA : A (w.2.1 + i)) {k : Nat} {fs : List Value} (he : X i = some (.inr (k, fs))) {C : String} {T : u_T} {N index : Nat} (hc : vwCl[k]? = some (C, T, N)) (hin : ∀ v ∈ u_ws C T N, v ∈ Ts) (ty0 : Nat → FieldType) (hty : ∀ k, k < N → parseFieldDescriptor (T k).2.2.1 = some (ty0 k)) (hnm : ∀ a, a < N → ∀ b, b < N → a ≠ b → (T a).2.1 ≠ (T b).2.1) (kf : Nat) (hk : kf < N) (hlink : Cond.fieldLink own index C (T kf).2.1 (T kf).2.2.1 ∈ Ts) (hsame : (T kf).1 = C) (hfin : (T kf).2.2.2 = false) {v : Value} (hn : narrow (ty0 kf) v = v) (hfit : fits (ty0 kf) v = true) (hl : kf < fs.length) (hdg : decode cc pc = .ok (.putfield index, 3))
    (kk : ∀ (H1 : Heap) (locs1 : List Loc), Xs w A H0 n (xu X i (.inr (k, fs.set kf v))) H1 locs1 → W p l e R s m args below meth c H1 locs1 cells slots Q (F0 m (pc + 3) ls rest)) : W p l e R s m args below meth c H locs cells slots Q (F0 m pc ls (v :: .ref (w.2.1 + i) :: rest)) := by
  have h := hZ.2.1 i _ he
  have hts := F.2.2.2.2
  have hap := va_apart (own := own) hts hin ty0 hty hnm hK.1.1 hc
  obtain ⟨r, h1, cell, q1, q2, q3, q4⟩ := h
  have hr' : r = (C, T, N) := Option.some.inj (h1.symm.trans hc)
  subst hr'
  obtain ⟨hS, hfc, kC, hkC, hkind⟩ := hK.1.1.1 k _ hc
  obtain ⟨cf, kf', fi, f, hi', hsl⟩ := hS kf hk
  have hlay := hts _ (hin _ (u_in_lay hk))
  unfold u_lay at hlay
  rw [if_neg (by rw [hfin]; decide)] at hlay
  have hst := (u_facts hfc hkC (u_lays hts hin hk) hi').1
  have h6 := u_store hfc hkC hkind hlay hi' (hty kf hk) hn hfit
  have hi2 := hi'
  rw [hsame] at hi2
  refine W.putK F.1 F.2.1 (f := f) ⟨F.2.2.2.1, hts _ hlink, ⟨_, _, _, hi2⟩, hst⟩ (by rw [q2]; exact h6) q1 q3 (by rw [hsl]; exact k2_hasslot (q4 kf hk)) rfl rfl hdg fun H' e1 e2 e3 => ?_
  rw [hsl] at e1 ⊢
  refine kk H' _ (Xs_set hZ hA e2 e3 ?_)
  exact ⟨_, hc, t_OB.to (V := updV (vp_V fs) kf v) ⟨_, e1, q2, q3, t_set q4 hap hk v⟩ (fun j _ => vp_updV_set hl v j)⟩
theorem x_putF (F : CallFix p m c cc nL s args Ts own) (hK : zK7 w s) (hZ : Xs w A H0 n X H locs) (i : Nat) (hA : A (w.2.1 + i)) {k : Nat} {fs : List Value} (he : X i = some (.inr (k, fs))) {C : String} {T : u_T} {N index : Nat} (hc : vwCl[k]? = some (C, T, N)) (hin : ∀ v ∈ u_ws C T N, v ∈ Ts) (ty0 : Nat → FieldType) (hty : ∀ k, k < N → parseFieldDescriptor (T k).2.2.1 = some (ty0 k)) (hnm : ∀ a, a < N → ∀ b, b < N → a ≠ b → (T a).2.1 ≠ (T b).2.1) (kf : Nat) (hk : kf < N) (hlink : Cond.fieldLink own index C (T kf).2.1 (T kf).2.2.1 ∈ Ts) (hsame : (T kf).1 = C) (hfin : (T kf).2.2.2 = true) (hin2 : meth.name = "<init>") (hdecl : (T kf).1 = own) {v : Value} (hn : narrow (ty0 kf) v = v) (hfit : fits (ty0 kf) v = true) (hl : kf < fs.length) (hdg : decode cc pc = .ok (.putfield index, 3))
    (kk : ∀ (H1 : Heap) (locs1 : List Loc), Xs w A H0 n (xu X i (.inr (k, fs.set kf v))) H1 locs1 → W p l e R s m args below meth c H1 locs1 cells slots Q (F0 m (pc + 3) ls rest)) : W p l e R s m args below meth c H locs cells slots Q (F0 m pc ls (v :: .ref (w.2.1 + i) :: rest)) := by
  have h := hZ.2.1 i _ he
  have hts := F.2.2.2.2
  have hap := va_apart (own := own) hts hin ty0 hty hnm hK.1.1 hc
  obtain ⟨r, h1, cell, q1, q2, q3, q4⟩ := h
  have hr' : r = (C, T, N) := Option.some.inj (h1.symm.trans hc)
  subst hr'
  obtain ⟨hS, hfc, kC, hkC, hkind⟩ := hK.1.1.1 k _ hc
  obtain ⟨cf, kf', fi, f, hi', hsl⟩ := hS kf hk
  have hlay := hts _ (hin _ (u_in_lay hk))
  unfold u_lay at hlay
  rw [if_pos hfin] at hlay
  have hst := (u_facts hfc hkC (u_lays hts hin hk) hi').1
  have hcf : m.cls = cf := by
    obtain ⟨_, _, c', _, _, _, -, -, hf', -, -, -, hown2, -⟩ := Cond.laysFinal_spec hlay
    have e1 : c' = cf := by have := hi'.symm.trans hf'; simp at this; exact this.1.symm
    rw [hdecl] at hown2
    rw [← e1]; exact Option.some.inj (F.2.2.2.1.symm.trans hown2)
  have h6 := u_fits hfc hkC hkind (Or.inr hlay) hi' (hty kf hk) hn hfit
  have hi2 := hi'
  rw [hsame] at hi2
  refine W.putFinK F.1 F.2.1 F.2.2.2.1 (hts _ hlink) hi2 hst hcf hin2 (by rw [q2]; exact h6) q1 q3 (by rw [hsl]; exact k2_hasslot (q4 kf hk)) rfl rfl hdg fun H' e1 e2 e3 => ?_
  rw [hsl] at e1 ⊢
  refine kk H' _ (Xs_set hZ hA e2 e3 ?_)
  exact ⟨_, hc, t_OB.to (V := updV (vp_V fs) kf v) ⟨_, e1, q2, q3, t_set q4 hap hk v⟩ (fun j _ => vp_updV_set hl v j)⟩
theorem x_get (F : CallFix p m c cc nL s args Ts own) (hK : zK7 w s) (hZ : Xs w A H0 n X H locs) (i : Nat) {k : Nat} {fs : List Value} (he : X i = some (.inr (k, fs))) {C : String} {T : u_T} {N index : Nat} (hc : vwCl[k]? = some (C, T, N)) (hin : ∀ v ∈ u_ws C T N, v ∈ Ts) (kf : Nat) (hk : kf < N) (hlink : Cond.fieldLink own index C (T kf).2.1 (T kf).2.2.1 ∈ Ts) (hsame : (T kf).1 = C) {v : Value} (hv : fs[kf]? = some v) (hdg : decode cc pc = .ok (.getfield index, 3))
    (kk : W p l e R s m args below meth c H locs cells slots Q (F0 m (pc + 3) ls (v :: rest))) : W p l e R s m args below meth c H locs cells slots Q (F0 m pc ls (.ref (w.2.1 + i) :: rest)) := by
  have h := hZ.2.1 i _ he
  have hP : va_P w.1 vwCl [(w.2.1 + i, .inr (k, fs))] H := by
    intro q x hx
    cases q with
    | zero => cases hx; exact h
    | succ q => simp at hx
  refine va_get F.1 F.2.1 F.2.2.2.2 hin F.2.2.2.1 hK.1.1 hP 0 rfl hc kf hk (F.2.2.2.2 _ hlink) ?_ hv hdg kk
  intro x hx
  rw [hsame] at hx
  exact hx
theorem x_one {i : Nat} {e : va_E} {H : Heap} (h : va_at w.1 vwCl (w.2.1 + i, e) H) : xP w (xu x0 i e) H := by
  intro j e' hj
  by_cases q : j = i
  · rw [q, xu_at] at hj; cases hj; rw [q]; exact h
  · rw [xu_ne _ _ q] at hj; cases hj
theorem x_preS (hK : zK7 w s) (hZ : Xs w A H0 n X H locs) {i : Nat} {e : va_E} (he : X i = some e) (As : List Value) : PreS s H (xPre w n (xu x0 i e) As) As :=
  ⟨xPre_blind _ _ _ _, fun U hU hW => ⟨rfl, by rw [hU]; exact hZ.1, x_one (by rw [hU]; exact hZ.2.1 i e he), hK.moved hW⟩⟩
theorem x_back {st0 : List Value} {a : Array Value} {mc ms n' i : Nat} {Y : zX} (hZ : Xs w A H0 n X H locs) (hi : A (w.2.1 + i)) (hA : ∀ q, w.2.1 + n ≤ q → A q) (hY : ∃ e, Y i = some e) (hr : va_Run p l e R s m args below meth c H locs cells slots mc ms (F0 m pc ls st0) rest (xQv w n' Y (aN w i n) a) (aN w i n))
    (kk : ∀ (H1 : Heap) (locs1 : List Loc), Xs w A H0 n' (xj X Y) H1 locs1 → W p l e R s m args below meth c H1 locs1 (cells + mc) (slots + ms) Q (F0 m (pc + 3) ls rest)) : W p l e R s m args below meth c H locs cells slots Q (F0 m pc ls st0) := by
  have hAA : ∀ q, aN w i n q → A q := fun q h => h.elim (fun z => by rw [z]; exact hi) (fun z => hA q z)
  refine va_callv hr hZ.2.2 (fun q _ h => hAA q h) hAA (fun u t H1 locs1 ht hvm hw hB hz1 hk1 hS => kk H1 locs1 ⟨by rw [← ht]; exact hB.1, fun j e hj => ?_, hS⟩)
  unfold xj at hj
  cases y : Y j with
  | some e' =>
    rw [y] at hj
    cases hj
    rw [← ht]
    exact hB.2 j _ y
  | none =>
    rw [y] at hj
    have h := hZ.2.1 j e hj
    refine h.kept (hk1 _ h.lt (fun z => ?_))
    have hs := hZ.1
    have hl := h.lt
    rcases z with z | z
    · obtain ⟨e0, he0⟩ := hY
      have : j = i := by omega
      rw [this, he0] at y
      cases y
    · have : w.2.1 + j < H.size := hl
      omega
theorem x_vret {n' : Nat} {Y : zX} {mc ms : Nat} (F : CallFix p m c cc nL s args Ts own) (hr : meth.sig.returnType = none) (hlocks : meth.locks = false) (hZ : Xs w A s.heap n' X H locs) (hY : ∀ j e, Y j = some e → X j = some e) (hdg : decode cc pc = .ok (.return_, 1)) (hc : cells ≤ mc) (hs : slots ≤ ms) : W p l e R s m args below meth c H locs cells slots (MQ below (xQv w n' Y A) args s mc ms A) (F0 m pc ls []) :=
  W.widen hc hs (W.vret F.1 F.2.1 hr (fun t ht hW => ⟨⟨(), rfl, trivial, ⟨by rw [ht]; exact hZ.1, fun j e hj => by rw [ht]; exact hZ.2.1 j e (hY j e hj)⟩⟩, hZ.2.2.F ht⟩) hZ.2.2.2.2 hdg hlocks)
/-- all made: the cells of dom are a memory's -/
theorem Xs_Zs {dom : Nat → Prop} {G : zM} (hZ : Xs w A H0 n X H locs) (hG : zRng G) (h : ∀ i, dom i → X i = some (zE w i (G i))) : Zs w dom A H0 (w.2.1 + n) G H locs := ⟨hZ.1, ⟨hG, fun i hi => hZ.2.1 i _ (h i hi)⟩, hZ.2.2⟩
theorem Zs_Xs {a b : Nat} {G : zM} (hZ : Zs w (fun i => a ≤ i ∧ i < b) A H0 (w.2.1 + n) G H locs) : Xs w A H0 n (xz w a b G) H locs := by
  refine ⟨hZ.1, fun i e hi => ?_, hZ.2.2⟩
  unfold xz at hi
  by_cases q : a ≤ i ∧ i < b
  · rw [if_pos q] at hi; cases hi; exact hZ.2.1.2 i q
  · rw [if_neg q] at hi; cases hi
end ZX
