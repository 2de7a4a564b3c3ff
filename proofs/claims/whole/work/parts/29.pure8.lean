/-! ===== what shows a false seat: chains against all pairs ===== -/
def gdL (X : zM) (k x t : Int) (l : Nat) : Prop := slotL X l = k ∧ X 69 (6 * (l : Int) + 0) = t ∧ X 70 (7 * (l : Int) + x) ≠ 0
def smL (X : zM) (a b : Nat) : Prop := X 69 (6 * (a : Int) + 4) = X 69 (6 * (b : Int) + 4) ∧ X 69 (6 * (a : Int) + 5) = X 69 (6 * (b : Int) + 5)
def shI (X : zM) (k x t : Int) (i : Nat) (o : Int) : Prop := (o = -1 ∧ ∀ l, l < i → ¬ gdL X k x t l) ∨ ∃ p : Nat, p < i ∧ o = ((71 + p : Nat) : Int) ∧ gdL X k x t p ∧ ∀ l, l < i → gdL X k x t l → smL X l p
def shO (X : zM) (k : Nat) (x t : Int) : Prop := ∀ k' : Nat, k' < k → ∀ a b : Nat, (a : Int) < X 64 7 → (b : Int) < X 64 7 → gdL X k' x t a → gdL X k' x t b → smL X a b
def shU (X : zM) (k x t : Int) (q : Nat) (o : Int) : Prop := ∃ p : Nat, p < q ∧ o = ((71 + p : Nat) : Int) ∧ gdL X k x t p ∧ ¬ smL X q p
theorem shI_skip {X : zM} {k x t : Int} {i q : Nat} {o : Int} (h : shI X k x t i o) (hq : i ≤ q) (hn : ∀ l : Nat, i ≤ l → l < q → slotL X l ≠ k) : shI X k x t q o := by
  rcases h with ⟨a, b⟩ | ⟨p, a, b, c, d⟩
  · exact Or.inl ⟨a, fun l h1 h2 => if z : l < i then b l z h2 else hn l (by omega) h1 h2.1⟩
  · exact Or.inr ⟨p, by omega, b, c, fun l h1 h2 => if z : l < i then d l z h2 else absurd h2.1 (hn l (by omega) h1)⟩
theorem shI_no {X : zM} {k x t : Int} {q : Nat} {o : Int} (h : shI X k x t q o) (hn : ¬ gdL X k x t q) : shI X k x t (q + 1) o := by
  rcases h with ⟨a, b⟩ | ⟨p, a, b, c, d⟩
  · refine Or.inl ⟨a, fun l h1 => ?_⟩
    by_cases z : l = q
    · rw [z]; exact hn
    · exact b l (by omega)
  · refine Or.inr ⟨p, by omega, b, c, fun l h1 h2 => ?_⟩
    by_cases z : l = q
    · rw [z] at h2; exact absurd h2 hn
    · exact d l (by omega) h2
theorem shI_yes {X : zM} {k x t : Int} {q : Nat} {o : Int} (h : shI X k x t q o) (hg : gdL X k x t q) (hs : ∀ p : Nat, o = ((71 + p : Nat) : Int) → smL X q p) : shI X k x t (q + 1) ((71 + q : Nat) : Int) := by
  refine Or.inr ⟨q, by omega, rfl, hg, fun l h1 h2 => ?_⟩
  by_cases z : l = q
  · rw [z]; exact ⟨rfl, rfl⟩
  · rcases h with ⟨a, b⟩ | ⟨p, a, b, c, d⟩
    · exact absurd h2 (b l (by omega))
    · have e1 := d l (by omega) h2
      have e2 := hs p b
      exact ⟨e1.1.trans e2.1.symm, e1.2.trans e2.2.symm⟩
theorem shI_end {X : zM} {k : Nat} {x t o : Int} {i : Nat} (h : shI X (k : Int) x t i o) (hi : X 64 7 ≤ (i : Int)) (hO : shO X k x t) : shO X (k + 1) x t := by
  intro k' hk a b ha hb ga gb
  by_cases z : k' = k
  · subst z
    rcases h with ⟨c, d⟩ | ⟨p, c, d, f, g⟩
    · exact absurd ga (d a (by omega))
    · have e1 := g a (by omega) ga
      have e2 := g b (by omega) gb
      exact ⟨e1.1.trans e2.1.symm, e1.2.trans e2.2.symm⟩
  · exact hO k' (by omega) a b ha hb ga gb
theorem unl_iff {X : zM} {a b : Nat} (hI : Inv X) (ha : (a : Int) < X 64 7) (hb : (b : Int) < X 64 7) : unl X a b = true ↔ X 69 (6 * (a : Int) + 0) = X 69 (6 * (b : Int) + 0) ∧ slotL X a = slotL X b ∧ ¬ smL X a b := by
  have r := let_rng hI (l := (b : Int)) ⟨by omega, hb⟩
  have e : slotL X a = slotL X b ↔ _ := slotL_eq hI ha (kd := X 69 (6 * (b : Int) + 1)) (h' := X 69 (6 * (b : Int) + 2)) (r := X 69 (6 * (b : Int) + 3)) (by omega) (by omega) (by omega)
  rw [e]
  unfold unl smL
  rw [Bool.and_eq_true, decide_eq_true_eq]
  have f : alE X a b 4 = true ↔ X 69 (6 * (a : Int) + 0) = X 69 (6 * (b : Int) + 0) ∧ X 69 (6 * (a : Int) + 1) = X 69 (6 * (b : Int) + 1) ∧ X 69 (6 * (a : Int) + 2) = X 69 (6 * (b : Int) + 2) ∧ X 69 (6 * (a : Int) + 3) = X 69 (6 * (b : Int) + 3) := by
    rw [alE_S, alE_S, alE_S, alE_S]
    constructor
    · rintro ⟨⟨⟨⟨-, p⟩, q⟩, r⟩, s⟩; exact ⟨p, q, r, s⟩
    · rintro ⟨p, q, r, s⟩; exact ⟨⟨⟨⟨rfl, p⟩, q⟩, r⟩, s⟩
  rw [f]
  constructor
  · rintro ⟨⟨p, q⟩, r⟩; exact ⟨p, q, fun z => r.elim (fun y => y z.1) (fun y => y z.2)⟩
  · rintro ⟨p, q, r⟩; exact ⟨⟨p, q⟩, Decidable.by_contra fun z => r ⟨Decidable.by_contra fun y => z (Or.inl y), Decidable.by_contra fun y => z (Or.inr y)⟩⟩
theorem shA_yes {X : zM} (hI : Inv X) {k x t : Int} {p q : Nat} (hp : p < q) (hq : (q : Int) < X 64 7) (gp : gdL X k x t p) (gq : gdL X k x t q) (hn : ¬ smL X q p) : anyB (shA X x t) (X 64 7).toNat = true := by
  rw [anyB_iff]
  refine ⟨q, by omega, ?_⟩
  unfold shA
  rw [Bool.and_eq_true, decide_eq_true_eq, anyB_iff]
  refine ⟨⟨gq.2.1, gq.2.2⟩, p, hp, ?_⟩
  unfold shB
  rw [Bool.and_eq_true, decide_eq_true_eq, unl_iff hI hq (by omega)]
  exact ⟨gp.2.2, gq.2.1.trans gp.2.1.symm, gq.1.trans gp.1.symm, hn⟩
theorem shA_no {X : zM} (hI : Inv X) {x t : Int} (h : shO X 180 x t) : ¬ anyB (shA X x t) (X 64 7).toNat = true := by
  rw [anyB_iff]
  rintro ⟨q, hq, c⟩
  unfold shA at c
  rw [Bool.and_eq_true, decide_eq_true_eq, anyB_iff] at c
  obtain ⟨⟨c1, c2⟩, p, hp, d⟩ := c
  unfold shB at d
  rw [Bool.and_eq_true, decide_eq_true_eq, unl_iff hI (by omega) (by omega)] at d
  obtain ⟨d1, d2, d3, d4⟩ := d
  have r := slotL_rng hI (l := q) (by omega)
  have e : (((slotL X q).toNat : Nat) : Int) = slotL X q := by omega
  exact d4 (h (slotL X q).toNat (by omega) q p (by omega) (by omega) ⟨e.symm, c1, c2⟩ ⟨by rw [e]; exact d3.symm, d2.symm.trans c1, d1⟩)
