def sgOK (rc tc : Nat) (rs : Nat → Nat) (M : Mm) (rg tp pl sec : Int32) : Prop := (0 ≤ rg.toInt ∧ rg.toInt < (rc : Int)) ∧ (0 ≤ tp.toInt ∧ tp.toInt < (tc : Int)) ∧ (0 ≤ pl.toInt ∧ pl.toInt < (rs (vN rg) : Int)) ∧ (0 < sec.toInt ∧ sec.toInt < 1013) ∧ nI (4 ^ vN sec % 2027) = M (13 + 2 * vN rg + 1) (vN pl)
/-- the rings that there are; the topics -/
def rgP (rc : Nat) (rs : Nat → Nat) (M : Mm) : Prop := ∀ r, r < rc → M (13 + 2 * r) 1 = nI (rs r) ∧ rs r ≤ 6 ∧ ∀ j, j < rs r → eltN (vN (M (13 + 2 * r + 1) j)) = true
def bsP (tc : Nat) (M : Mm) : Prop := ∀ t, t < tc → M (29 + 18 * t) 1 = nI (tB (M (29 + 18 * t) 0))
/-- a stored signature is well: it is good, and none before it has its tag -/
def swP (rs : Nat → Nat) (sr : Nat → Nat) (sc t : Nat) (M : Mm) (k : Nat) : Prop :=
  gdP (rs (sr k)) (M (13 + 2 * sr k + 1)) (M (29 + 18 * t) 0) (M (29 + 18 * t + 2 + 2 * k) 3) (tB (M (29 + 18 * t) 0)) (M (29 + 18 * t + 2 + 2 * k + 1)) ∧
  ¬ ∃ j, j < k ∧ j < sc ∧ M (29 + 18 * t + 2 + 2 * j + 1) 1 = M (29 + 18 * t + 2 + 2 * k + 1) 1
def stP (rc : Nat) (rs : Nat → Nat) (sr : Nat → Nat) (sc t : Nat) (M : Mm) : Prop := ∀ k, k < sc → M (29 + 18 * t + 2 + 2 * k) 2 = nI (sr k) ∧ sr k < rc ∧ M (29 + 18 * t + 2 + 2 * k) 1 = nI (2 + rs (sr k))
