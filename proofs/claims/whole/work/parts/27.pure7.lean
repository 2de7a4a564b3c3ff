/-! ===== the class's letters, against the reference's ===== -/
def slF (kd h r : Int) : Int := if (0 ≤ kd ∧ kd ≤ 2) ∧ (0 ≤ h ∧ h ≤ 5) ∧ 0 ≤ r ∧ r ≤ 9 then (kd * 6 + h) * 10 + r else -1
def slotL (X : zM) (l : Nat) : Int := (X 69 (6 * (l : Int) + 1) * 6 + X 69 (6 * (l : Int) + 2)) * 10 + X 69 (6 * (l : Int) + 3)
def nxF (X : zM) (k : Int) (f i : Nat) : Int := match fstB (fun l => decide (slotL X l = k)) f i with
  | some l => 71 + (l : Int)
  | none => -1
def nx (X : zM) (k : Int) (i : Nat) : Int := nxF X k ((X 64 7).toNat - i) i
def lsF (X : zM) (k : Int) : Nat → Int
  | 0 => -1
  | n + 1 => if slotL X n = k then 71 + (n : Int) else lsF X k n
def camP (X : zM) (l t : Nat) : Bool := decide (X 70 (7 * (l : Int) + (t : Int)) ≠ 0)
def LetC (C X : zM) (l : Nat) : Prop :=
  (C (71 + l) 0 = X 69 (6 * (l : Int) + 0) ∧ C (71 + l) 1 = X 69 (6 * (l : Int) + 1) ∧ C (71 + l) 2 = X 69 (6 * (l : Int) + 2) ∧ C (71 + l) 3 = X 69 (6 * (l : Int) + 3) ∧ C (71 + l) 4 = X 69 (6 * (l : Int) + 4) ∧ C (71 + l) 5 = X 69 (6 * (l : Int) + 5)) ∧
  C (71 + l) 6 = msk (camP X l) 7 ∧ C (71 + l) 7 = nx X (slotL X l) (l + 1)
def PostS (C X : zM) (m : Nat) : Prop :=
  C 2 3 = X 64 7 ∧ (X 64 7 ≤ (m : Int) ∧ m ≤ 400) ∧ (∀ j : Nat, j < 400 → C 3 (j : Int) = if j < m then 71 + (j : Int) else -1) ∧
  (∀ k : Int, 0 ≤ k → k < 180 → C 4 k = nx X k 0 ∧ C 5 k = lsF X k (X 64 7).toNat) ∧ ∀ l : Nat, (l : Int) < X 64 7 → LetC C X l
theorem fstB_none {P : Nat → Bool} : ∀ {k i : Nat}, fstB P k i = none → ∀ l, i ≤ l → l < i + k → ¬ P l = true
  | 0, i, _, l, a, b => by omega
  | k + 1, i, h, l, a, b => by
    unfold fstB at h
    by_cases e : P i = true
    · rw [if_pos e] at h; cases h
    · rw [if_neg e] at h
      by_cases z : l = i
      · rw [z]; exact e
      · exact fstB_none h l (by omega) (by omega)
theorem fstB_first {P : Nat → Bool} : ∀ {k i q : Nat}, fstB P k i = some q → ∀ l, i ≤ l → l < q → ¬ P l = true
  | 0, i, q, h, l, a, b => by simp [fstB] at h
  | k + 1, i, q, h, l, a, b => by
    unfold fstB at h
    by_cases e : P i = true
    · rw [if_pos e] at h; cases h; omega
    · rw [if_neg e] at h
      by_cases z : l = i
      · rw [z]; exact e
      · exact fstB_first h l (by omega) b
theorem nx_neg {X : zM} {k : Int} {i : Nat} (h : nx X k i < 0) : ∀ l : Nat, i ≤ l → (l : Int) < X 64 7 → slotL X l ≠ k := by
  intro l a b
  unfold nx nxF at h
  cases e : fstB (fun l => decide (slotL X l = k)) ((X 64 7).toNat - i) i with
  | some q => rw [e] at h; simp only at h; omega
  | none =>
    have := fstB_none e l a (by omega)
    simpa using this
theorem nx_pos {X : zM} {k : Int} {i : Nat} (h : 0 ≤ nx X k i) : ∃ q : Nat, nx X k i = ((71 + q : Nat) : Int) ∧ i ≤ q ∧ (q : Int) < X 64 7 ∧ slotL X q = k ∧ ∀ l : Nat, i ≤ l → l < q → slotL X l ≠ k := by
  unfold nx nxF at h ⊢
  cases e : fstB (fun l => decide (slotL X l = k)) ((X 64 7).toNat - i) i with
  | none => rw [e] at h; simp only at h; omega
  | some q =>
    have a := fstB_some e
    have b := fstB_first e
    refine ⟨q, by simp only; omega, a.1, by omega, by simpa using a.2.2, fun l c d => by simpa using b l c d⟩
theorem slotL_rng {X : zM} {l : Nat} (hI : Inv X) (h : (l : Int) < X 64 7) : 0 ≤ slotL X l ∧ slotL X l < 180 := by
  have := let_rng hI (l := (l : Int)) ⟨by omega, h⟩
  unfold slotL
  omega
theorem slotL_eq {X : zM} {l : Nat} (hI : Inv X) (h : (l : Int) < X 64 7) {kd h' r : Int} (hk : 0 ≤ kd ∧ kd ≤ 2) (hh : 0 ≤ h' ∧ h' ≤ 5) (hr : 0 ≤ r ∧ r ≤ 9) : slotL X l = (kd * 6 + h') * 10 + r ↔ X 69 (6 * (l : Int) + 1) = kd ∧ X 69 (6 * (l : Int) + 2) = h' ∧ X 69 (6 * (l : Int) + 3) = r := by
  have := let_rng hI (l := (l : Int)) ⟨by omega, h⟩
  unfold slotL
  constructor
  · intro q; omega
  · rintro ⟨a, b, c⟩; rw [a, b, c]
theorem cam_bI {C X : zM} {m l : Nat} (hS : PostS C X m) (h : (l : Int) < X 64 7) {s : Int} (hs : 0 ≤ s ∧ s < 7) : bI (bitZ (C (71 + l) 6) s = 1) = bI (X 70 (7 * (l : Int) + s) ≠ 0) := by
  rw [(hS.2.2.2.2 l h).2.1]
  have e := msk_bit (camP X l) (s := s.toNat) (by omega)
  rw [show ((s.toNat : Nat) : Int) = s by omega] at e
  rw [e]
  unfold camP
  rw [show ((s.toNat : Nat) : Int) = s by omega]
  simp only [decide_eq_true_eq]
  unfold bI
  split <;> simp_all
theorem cam_rng {C X : zM} {m l : Nat} (hS : PostS C X m) (h : (l : Int) < X 64 7) : 0 ≤ C (71 + l) 6 ∧ C (71 + l) 6 < 128 := by
  rw [(hS.2.2.2.2 l h).2.1]
  exact msk_rng _
theorem anyB_skip {P : Nat → Bool} {i : Nat} : ∀ {q : Nat}, i ≤ q → (∀ l, i ≤ l → l < q → ¬ P l = true) → anyB P q = anyB P i
  | 0, h, _ => by rw [show i = 0 by omega]
  | q + 1, h, hp => by
    by_cases e : i = q + 1
    · rw [e]
    · rw [anyB, anyB_skip (q := q) (by omega) (fun l a b => hp l a (by omega))]
      have := hp q (by omega) (by omega)
      simp_all
theorem cntB_cut {P : Nat → Bool} {n : Nat} : ∀ {k : Nat}, n ≤ k → (∀ t, n ≤ t → t < k → ¬ P t = true) → cntB P k = cntB P n
  | 0, h, _ => by rw [show n = 0 by omega]
  | k + 1, h, hp => by
    by_cases e : n = k + 1
    · rw [e]
    · rw [cntB, cntB_cut (k := k) (by omega) (fun l a b => hp l a (by omega)), bI_f (hp k (by omega) (by omega)), Int.add_zero]
/-- a letter of slot k that came to s, for the value v, of the sender t -/
def vK (X : zM) (k s v : Int) (t l : Nat) : Bool := decide (slotL X l = k ∧ X 70 (7 * (l : Int) + s) ≠ 0 ∧ X 69 (6 * (l : Int) + 0) = (t : Int) ∧ (v = -2 ∨ X 69 (6 * (l : Int) + 4) = v))
def vM (X : zM) (k s v : Int) (i : Nat) : Int := msk (fun t => anyB (vK X k s v t) i) 7
theorem vM_0 (X : zM) (k s v : Int) : vM X k s v 0 = 0 := msk_none
theorem vM_skip {X : zM} {k s v : Int} {i q : Nat} (h : i ≤ q) (hn : ∀ l : Nat, i ≤ l → l < q → slotL X l ≠ k) : vM X k s v q = vM X k s v i :=
  msk_congr fun t _ => anyB_skip h fun l a b c => by
    unfold vK at c
    rw [decide_eq_true_eq] at c
    exact hn l a b c.1
theorem vM_no {X : zM} {k s v : Int} {q : Nat} (h : ¬ (X 70 (7 * (q : Int) + s) ≠ 0 ∧ (v = -2 ∨ X 69 (6 * (q : Int) + 4) = v))) : vM X k s v (q + 1) = vM X k s v q :=
  msk_congr fun t _ => by
    rw [anyB]
    have : vK X k s v t q = false := by
      unfold vK
      rw [decide_eq_false_iff_not]
      exact fun c => h ⟨c.2.1, c.2.2.2⟩
    rw [this, Bool.or_false]
theorem vM_yes {X : zM} {k s v : Int} {q : Nat} (hk : slotL X q = k) (hc : X 70 (7 * (q : Int) + s) ≠ 0) (hv : v = -2 ∨ X 69 (6 * (q : Int) + 4) = v) (hs : 0 ≤ X 69 (6 * (q : Int) + 0) ∧ X 69 (6 * (q : Int) + 0) < 7) : orS (vM X k s v q) (X 69 (6 * (q : Int) + 0)) = vM X k s v (q + 1) := by
  have a := msk_or (fun t => anyB (vK X k s v t) q) (s := (X 69 (6 * (q : Int) + 0)).toNat) (by omega)
  rw [show (((X 69 (6 * (q : Int) + 0)).toNat : Nat) : Int) = X 69 (6 * (q : Int) + 0) by omega] at a
  refine a.trans (msk_congr fun t _ => ?_)
  rw [anyB]
  congr 1
  unfold vK
  rw [decide_eq_decide]
  constructor
  · intro z; exact ⟨hk, hc, by omega, hv⟩
  · intro z; have := z.2.2.1; omega
theorem vM_vote {X : zM} (hI : Inv X) {kd h r s v : Int} (hk : 0 ≤ kd ∧ kd ≤ 2) (hh : 0 ≤ h ∧ h ≤ 5) (hr : 0 ≤ r ∧ r ≤ 9) : popZ (vM X ((kd * 6 + h) * 10 + r) s v (X 64 7).toNat) = voteN X s kd h r v := by
  have hn := hI.1
  unfold vM
  rw [msk_pop, cntB_cut (n := (X 64 0).toNat) (k := 7) (by omega)]
  · unfold voteN
    refine cntB_congr fun t _ => anyB_congr fun l hl => ?_
    unfold vK vP
    rw [decide_eq_decide, slotL_eq hI (by omega) hk hh hr]
    constructor
    · rintro ⟨⟨a, b, c⟩, d, e, f⟩; exact ⟨d, e, a, b, c, f⟩
    · rintro ⟨d, e, a, b, c, f⟩; exact ⟨⟨a, b, c⟩, d, e, f⟩
  · intro t a b c
    rw [anyB_iff] at c
    obtain ⟨l, hl, c⟩ := c
    unfold vK at c
    rw [decide_eq_true_eq] at c
    have := let_rng hI (l := (l : Int)) ⟨by omega, by omega⟩
    have := c.2.2.1
    omega
