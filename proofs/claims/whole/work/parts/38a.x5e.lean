/-- a signature's piece of a bundle: n keys of the group, all different, at 'at'; good; within b ints -/
def pkN (row : Nat → Int32) (at_ : Nat) : Nat := vN (row at_)
def okS (row : Nat → Int32) (b : Nat) (v : Int32) (B : Nat) (at_ : Nat) : Prop :=
  at_ < b ∧ 2 ≤ (row at_).toInt ∧ (row at_).toInt ≤ 6 ∧ at_ + 4 + 2 * pkN row at_ ≤ b ∧
  (∀ i, i < pkN row at_ → eltN (vN (row (at_ + 1 + i))) = true ∧ ∀ j, j < i → row (at_ + 1 + j) ≠ row (at_ + 1 + i)) ∧
  gdP (pkN row at_) (fun i => row (at_ + 1 + i)) v (row (at_ + 1 + pkN row at_)) B (fun i => row (at_ + 2 + pkN row at_ + i))
/-- where the k-th piece begins; its tag -/
def coN (row : Nat → Int32) : Nat → Nat
  | 0 => 2
  | k + 1 => coN row k + 4 + 2 * pkN row (coN row k)
def tgN (row : Nat → Int32) (k : Nat) : Int32 := row (coN row k + 2 + pkN row (coN row k) + 1)
def okK (row : Nat → Int32) (b : Nat) (v : Int32) (B : Nat) (k : Nat) : Prop := okS row b v B (coN row k) ∧ ∀ j, j < k → tgN row j ≠ tgN row k
/-- the world but for what check() writes -/
def scQ (M N : Mm) : Prop := ∀ a, a ≠ 8 → a ≠ 9 → a ≠ 10 → a ≠ 11 → N a = M a
def scP (M N : Mm) : Prop := ∀ a, a ≠ 8 → a ≠ 9 → a ≠ 10 → a ≠ 11 → a ≠ 12 → N a = M a
theorem cnF_s (s0 : Int32) (B tg : Nat) (y z : Nat → Nat) (c0 i : Nat) : cnF s0 B tg y z c0 (i + 1) = stN s0 B tg (cnF s0 B tg y z c0 i) (y i) (z i) := rfl
theorem stmF_s (h : Int32) (y : Nat → Int32) (i : Nat) : stmF h y (i + 1) = mxI (stmF h y i) (y i) := rfl
theorem gd_es {n : Nat} {y y' : Nat → Int32} (hy : ∀ i, i < n → y i = y' i) (h0 : Int32) : ∀ i : Nat, i ≤ n → stmF h0 y i = stmF h0 y' i
  | 0, _ => rfl
  | i + 1, hi => by rw [stmF_s, stmF_s, gd_es hy h0 i (by omega), hy i (by omega)]
theorem gd_et {n : Nat} {y y' : Nat → Int32} (hy : ∀ i, i < n → y i = y' i) (v mo tg : Int32) : stmI n y v mo tg = stmI n y' v mo tg := by unfold stmI; rw [gd_es hy _ n (Nat.le_refl _)]
theorem gd_ec {n : Nat} {y y' z z' : Nat → Nat} (hy : ∀ i, i < n → y i = y' i) (hz : ∀ i, i < n → z i = z' i) (s0 : Int32) (B tg c0 : Nat) : ∀ i : Nat, i ≤ n → cnF s0 B tg y z c0 i = cnF s0 B tg y' z' c0 i
  | 0, _ => rfl
  | i + 1, hi => by rw [cnF_s, cnF_s, gd_ec hy hz s0 B tg c0 i (by omega), hy i (by omega), hz i (by omega)]
theorem gd_cong {n B : Nat} {y y' : Nat → Int32} {v mo : Int32} {num num' : Nat → Int32} (hy : ∀ i, i < n → y i = y' i) (hn : ∀ i, i < 2 + n → num i = num' i) (h : gdP n y v mo B num) : gdP n y' v mo B num' := by
  have e0 := hn 0 (by omega)
  have e1 := hn 1 (by omega)
  obtain ⟨h1, h2, h3, h4⟩ := h
  rw [e0] at h1 h4
  rw [e1] at h2 h4
  have ec := gd_ec (y := fun i => vN (y i)) (y' := fun i => vN (y' i)) (z := fun i => vN (num (2 + i))) (z' := fun i => vN (num' (2 + i))) (n := n) (fun i hi => congrArg vN (hy i hi)) (fun i hi => congrArg vN (hn (2 + i) (by omega))) (stmI n y v mo (num' 1)) B (vN (num' 1)) (vN (num' 0)) n (Nat.le_refl _)
  rw [ec, gd_et hy] at h4
  exact ⟨h1, h2, fun i hi => by rw [← hn (2 + i) (by omega)]; exact h3 i hi, h4⟩
theorem gd_iff {n B : Nat} {y y' : Nat → Int32} {v mo : Int32} {num num' : Nat → Int32} (hy : ∀ i, i < n → y i = y' i) (hn : ∀ i, i < 2 + n → num i = num' i) : gdP n y v mo B num ↔ gdP n y' v mo B num' :=
  ⟨gd_cong hy hn, gd_cong (fun i hi => (hy i hi).symm) (fun i hi => (hn i hi).symm)⟩
def ckOK (row : Nat → Int32) (b : Nat) : Prop := 2 ≤ b ∧ 0 ≤ (row 1).toInt ∧ (row 1).toInt ≤ 8 ∧ (∀ k, k < vN (row 1) → okK row b (row 0) (tB (row 0)) k) ∧ coN row (vN (row 1)) = b
theorem co_lt {row : Nat → Int32} {b m : Nat} {v : Int32} {B : Nat} (h : ∀ k, k < m → okK row b v B k) (hb : b < 2 ^ 31) : coN row m < 2 ^ 31 := by
  cases m with
  | zero => show 2 < _; decide
  | succ m =>
    have h1 := (h m (Nat.lt_succ_self m)).1.2.2.2.1
    show coN row m + 4 + 2 * pkN row (coN row m) < _
    omega
theorem m1_ne (b : Nat) (hb : b < 2 ^ 31) : ¬ (-1 : Int32) = nI b := fun h => by
  have h8 := congrArg Int32.toInt h
  rw [nI_toInt hb, show ((-1 : Int32)).toInt = -1 by decide] at h8
  omega
