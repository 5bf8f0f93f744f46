/-! the two memories told together: rows of the class (0..136) and of the second class (137..153) -/
def RelL (mc rc tc d b : Nat) (rs sc : Nat → Nat) (sr : Nat → Nat → Nat) (M : Mm) : Prop := (mc ≤ 12) ∧ (rc ≤ 8) ∧ (tc ≤ 6) ∧ (d ≤ 8) ∧ (2 ≤ d) ∧ (b ≤ 200) ∧ (∀ t, sc t ≤ 8) ∧ (∀ r, rs r ≤ 6) ∧ (M 1 1 = nI mc) ∧ (M 137 3 = nI mc) ∧ (M 0 2 = nI rc) ∧ (M 137 5 = nI rc) ∧ (M 0 4 = nI tc) ∧ (M 137 8 = nI tc) ∧ (M 5 1 = nI d) ∧ (M 137 16 = nI d) ∧ (M 0 7 = nI b) ∧ (M 137 18 = nI b) ∧ (∀ j, j < mc → M 2 j = M 140 j) ∧ (∀ j, j < mc → eltN (vN (M 2 j)) = true) ∧ (∀ r, rc ≤ r → r < 8 → M (13 + 2 * r) 1 = nI 0) ∧ (rgP rc rs M) ∧ (mrP rc rs M) ∧ (∀ r, r < rc → ∀ j, j < rs r → M (13 + 2 * r + 1) j = M 142 (6 * r + j)) ∧ (bsP tc M) ∧ (mbP tc M) ∧ (∀ t, t < tc → M (29 + 18 * t) 0 = M 143 t) ∧ (∀ t, t < 6 → M (29 + 18 * t) 2 = M 145 t) ∧ (∀ t, M (29 + 18 * t) 4 = nI (sc t)) ∧ (∀ t, M 146 t = nI (sc t)) ∧ (∀ t, tc ≤ t → sc t = 0) ∧ (∀ t, t < tc → stP rc rs (sr t) (sc t) t M) ∧ (∀ t, t < tc → mtP rc (sr t) (sc t) t M) ∧ (∀ t, t < tc → ∀ k, k < sc t → M (29 + 18 * t + 2 + 2 * k) 3 = M 148 (8 * t + k)) ∧ (∀ t, t < tc → ∀ k, k < sc t → ∀ j, j < 2 + rs (sr t k) → M (29 + 18 * t + 2 + 2 * k + 1) j = M 149 (8 * (8 * t + k) + j)) ∧ (∀ j, j < d → M 6 j = M 150 j) ∧ (∀ j, j < b → M 7 j = M 151 j) ∧ (tbP M)
section RL
variable {mc rc tc d b : Nat} {rs sc : Nat → Nat} {sr : Nat → Nat → Nat} {M : Mm}
theorem rl_mc12 (h : RelL mc rc tc d b rs sc sr M) : mc ≤ 12 := h.1
theorem rl_rc8 (h : RelL mc rc tc d b rs sc sr M) : rc ≤ 8 := h.2.1
theorem rl_tc6 (h : RelL mc rc tc d b rs sc sr M) : tc ≤ 6 := h.2.2.1
theorem rl_d8 (h : RelL mc rc tc d b rs sc sr M) : d ≤ 8 := h.2.2.2.1
theorem rl_d2 (h : RelL mc rc tc d b rs sc sr M) : 2 ≤ d := h.2.2.2.2.1
theorem rl_b200 (h : RelL mc rc tc d b rs sc sr M) : b ≤ 200 := h.2.2.2.2.2.1
theorem rl_sc8 (h : RelL mc rc tc d b rs sc sr M) : ∀ t, sc t ≤ 8 := h.2.2.2.2.2.2.1
theorem rl_rs6 (h : RelL mc rc tc d b rs sc sr M) : ∀ r, rs r ≤ 6 := h.2.2.2.2.2.2.2.1
theorem rl_cmc (h : RelL mc rc tc d b rs sc sr M) : M 1 1 = nI mc := h.2.2.2.2.2.2.2.2.1
theorem rl_mmc (h : RelL mc rc tc d b rs sc sr M) : M 137 3 = nI mc := h.2.2.2.2.2.2.2.2.2.1
theorem rl_crc (h : RelL mc rc tc d b rs sc sr M) : M 0 2 = nI rc := h.2.2.2.2.2.2.2.2.2.2.1
theorem rl_mrc (h : RelL mc rc tc d b rs sc sr M) : M 137 5 = nI rc := h.2.2.2.2.2.2.2.2.2.2.2.1
theorem rl_ctc (h : RelL mc rc tc d b rs sc sr M) : M 0 4 = nI tc := h.2.2.2.2.2.2.2.2.2.2.2.2.1
theorem rl_mtc (h : RelL mc rc tc d b rs sc sr M) : M 137 8 = nI tc := h.2.2.2.2.2.2.2.2.2.2.2.2.2.1
theorem rl_cd (h : RelL mc rc tc d b rs sc sr M) : M 5 1 = nI d := h.2.2.2.2.2.2.2.2.2.2.2.2.2.2.1
theorem rl_md (h : RelL mc rc tc d b rs sc sr M) : M 137 16 = nI d := h.2.2.2.2.2.2.2.2.2.2.2.2.2.2.2.1
theorem rl_cb (h : RelL mc rc tc d b rs sc sr M) : M 0 7 = nI b := h.2.2.2.2.2.2.2.2.2.2.2.2.2.2.2.2.1
theorem rl_mb (h : RelL mc rc tc d b rs sc sr M) : M 137 18 = nI b := h.2.2.2.2.2.2.2.2.2.2.2.2.2.2.2.2.2.1
theorem rl_keys (h : RelL mc rc tc d b rs sc sr M) : ∀ j, j < mc → M 2 j = M 140 j := h.2.2.2.2.2.2.2.2.2.2.2.2.2.2.2.2.2.2.1
theorem rl_keyE (h : RelL mc rc tc d b rs sc sr M) : ∀ j, j < mc → eltN (vN (M 2 j)) = true := h.2.2.2.2.2.2.2.2.2.2.2.2.2.2.2.2.2.2.2.1
theorem rl_empt (h : RelL mc rc tc d b rs sc sr M) : ∀ r, rc ≤ r → r < 8 → M (13 + 2 * r) 1 = nI 0 := h.2.2.2.2.2.2.2.2.2.2.2.2.2.2.2.2.2.2.2.2.1
theorem rl_crg (h : RelL mc rc tc d b rs sc sr M) : rgP rc rs M := h.2.2.2.2.2.2.2.2.2.2.2.2.2.2.2.2.2.2.2.2.2.1
theorem rl_mrg (h : RelL mc rc tc d b rs sc sr M) : mrP rc rs M := h.2.2.2.2.2.2.2.2.2.2.2.2.2.2.2.2.2.2.2.2.2.2.1
theorem rl_rows (h : RelL mc rc tc d b rs sc sr M) : ∀ r, r < rc → ∀ j, j < rs r → M (13 + 2 * r + 1) j = M 142 (6 * r + j) := h.2.2.2.2.2.2.2.2.2.2.2.2.2.2.2.2.2.2.2.2.2.2.2.1
theorem rl_cbs (h : RelL mc rc tc d b rs sc sr M) : bsP tc M := h.2.2.2.2.2.2.2.2.2.2.2.2.2.2.2.2.2.2.2.2.2.2.2.2.1
theorem rl_mbs (h : RelL mc rc tc d b rs sc sr M) : mbP tc M := h.2.2.2.2.2.2.2.2.2.2.2.2.2.2.2.2.2.2.2.2.2.2.2.2.2.1
theorem rl_vals (h : RelL mc rc tc d b rs sc sr M) : ∀ t, t < tc → M (29 + 18 * t) 0 = M 143 t := h.2.2.2.2.2.2.2.2.2.2.2.2.2.2.2.2.2.2.2.2.2.2.2.2.2.2.1
theorem rl_clos (h : RelL mc rc tc d b rs sc sr M) : ∀ t, t < 6 → M (29 + 18 * t) 2 = M 145 t := h.2.2.2.2.2.2.2.2.2.2.2.2.2.2.2.2.2.2.2.2.2.2.2.2.2.2.2.1
theorem rl_ccn (h : RelL mc rc tc d b rs sc sr M) : ∀ t, M (29 + 18 * t) 4 = nI (sc t) := h.2.2.2.2.2.2.2.2.2.2.2.2.2.2.2.2.2.2.2.2.2.2.2.2.2.2.2.2.1
theorem rl_mcn (h : RelL mc rc tc d b rs sc sr M) : ∀ t, M 146 t = nI (sc t) := h.2.2.2.2.2.2.2.2.2.2.2.2.2.2.2.2.2.2.2.2.2.2.2.2.2.2.2.2.2.1
theorem rl_scz (h : RelL mc rc tc d b rs sc sr M) : ∀ t, tc ≤ t → sc t = 0 := h.2.2.2.2.2.2.2.2.2.2.2.2.2.2.2.2.2.2.2.2.2.2.2.2.2.2.2.2.2.2.1
theorem rl_cst (h : RelL mc rc tc d b rs sc sr M) : ∀ t, t < tc → stP rc rs (sr t) (sc t) t M := h.2.2.2.2.2.2.2.2.2.2.2.2.2.2.2.2.2.2.2.2.2.2.2.2.2.2.2.2.2.2.2.1
theorem rl_mst (h : RelL mc rc tc d b rs sc sr M) : ∀ t, t < tc → mtP rc (sr t) (sc t) t M := h.2.2.2.2.2.2.2.2.2.2.2.2.2.2.2.2.2.2.2.2.2.2.2.2.2.2.2.2.2.2.2.2.1
theorem rl_smo (h : RelL mc rc tc d b rs sc sr M) : ∀ t, t < tc → ∀ k, k < sc t → M (29 + 18 * t + 2 + 2 * k) 3 = M 148 (8 * t + k) := h.2.2.2.2.2.2.2.2.2.2.2.2.2.2.2.2.2.2.2.2.2.2.2.2.2.2.2.2.2.2.2.2.2.1
theorem rl_snu (h : RelL mc rc tc d b rs sc sr M) : ∀ t, t < tc → ∀ k, k < sc t → ∀ j, j < 2 + rs (sr t k) → M (29 + 18 * t + 2 + 2 * k + 1) j = M 149 (8 * (8 * t + k) + j) := h.2.2.2.2.2.2.2.2.2.2.2.2.2.2.2.2.2.2.2.2.2.2.2.2.2.2.2.2.2.2.2.2.2.2.1
theorem rl_drf (h : RelL mc rc tc d b rs sc sr M) : ∀ j, j < d → M 6 j = M 150 j := h.2.2.2.2.2.2.2.2.2.2.2.2.2.2.2.2.2.2.2.2.2.2.2.2.2.2.2.2.2.2.2.2.2.2.2.1
theorem rl_row (h : RelL mc rc tc d b rs sc sr M) : ∀ j, j < b → M 7 j = M 151 j := h.2.2.2.2.2.2.2.2.2.2.2.2.2.2.2.2.2.2.2.2.2.2.2.2.2.2.2.2.2.2.2.2.2.2.2.2.1
theorem rl_tbl (h : RelL mc rc tc d b rs sc sr M) : tbP M := h.2.2.2.2.2.2.2.2.2.2.2.2.2.2.2.2.2.2.2.2.2.2.2.2.2.2.2.2.2.2.2.2.2.2.2.2.2
end RL
theorem rel_0 {f1 f2 : Nat → Int32} (h : (∀ a, a < 1013 → f1 a = nI (4 ^ a % 2027)) ∧ ∀ x, 1 < x → x < 2027 → f2 x = if eltN x = true then nI (dlg x) else (-1)) : RelL 0 0 0 2 0 (fun _ => 0) (fun _ => 0) (fun _ _ => 0) (M1 f1 f2) := by
  refine ⟨?_, ?_, ?_, ?_, ?_, ?_, ?_, ?_, ?_, ?_, ?_, ?_, ?_, ?_, ?_, ?_, ?_, ?_, ?_, ?_, ?_, ?_, ?_, ?_, ?_, ?_, ?_, ?_, ?_, ?_, ?_, ?_, ?_, ?_, ?_, ?_, ?_, ?_⟩
  · first | rfl | decide | (intro j hj; exact absurd hj (Nat.not_lt_zero j))
  · first | rfl | decide | (intro j hj; exact absurd hj (Nat.not_lt_zero j))
  · first | rfl | decide | (intro j hj; exact absurd hj (Nat.not_lt_zero j))
  · first | rfl | decide | (intro j hj; exact absurd hj (Nat.not_lt_zero j))
  · first | rfl | decide | (intro j hj; exact absurd hj (Nat.not_lt_zero j))
  · first | rfl | decide | (intro j hj; exact absurd hj (Nat.not_lt_zero j))
  · intro t; exact Nat.zero_le _
  · intro t; exact Nat.zero_le _
  · first | rfl | decide | (intro j hj; exact absurd hj (Nat.not_lt_zero j))
  · first | rfl | decide | (intro j hj; exact absurd hj (Nat.not_lt_zero j))
  · first | rfl | decide | (intro j hj; exact absurd hj (Nat.not_lt_zero j))
  · first | rfl | decide | (intro j hj; exact absurd hj (Nat.not_lt_zero j))
  · first | rfl | decide | (intro j hj; exact absurd hj (Nat.not_lt_zero j))
  · first | rfl | decide | (intro j hj; exact absurd hj (Nat.not_lt_zero j))
  · first | rfl | decide | (intro j hj; exact absurd hj (Nat.not_lt_zero j))
  · first | rfl | decide | (intro j hj; exact absurd hj (Nat.not_lt_zero j))
  · first | rfl | decide | (intro j hj; exact absurd hj (Nat.not_lt_zero j))
  · first | rfl | decide | (intro j hj; exact absurd hj (Nat.not_lt_zero j))
  · first | rfl | decide | (intro j hj; exact absurd hj (Nat.not_lt_zero j))
  · first | rfl | decide | (intro j hj; exact absurd hj (Nat.not_lt_zero j))
  · intro r _ hr; rcases (show r = 0 ∨ r = 1 ∨ r = 2 ∨ r = 3 ∨ r = 4 ∨ r = 5 ∨ r = 6 ∨ r = 7 by omega) with rfl | rfl | rfl | rfl | rfl | rfl | rfl | rfl <;> rfl
  · first | rfl | decide | (intro j hj; exact absurd hj (Nat.not_lt_zero j))
  · first | rfl | decide | (intro j hj; exact absurd hj (Nat.not_lt_zero j))
  · first | rfl | decide | (intro j hj; exact absurd hj (Nat.not_lt_zero j))
  · first | rfl | decide | (intro j hj; exact absurd hj (Nat.not_lt_zero j))
  · first | rfl | decide | (intro j hj; exact absurd hj (Nat.not_lt_zero j))
  · first | rfl | decide | (intro j hj; exact absurd hj (Nat.not_lt_zero j))
  · intro t ht; rcases (show t = 0 ∨ t = 1 ∨ t = 2 ∨ t = 3 ∨ t = 4 ∨ t = 5 by omega) with rfl | rfl | rfl | rfl | rfl | rfl <;> rfl
  · intro t; unfold M1; by_cases e : 29 + 18 * t = 137
    · rw [if_pos e]; rfl
    · rw [if_neg e, if_neg (by omega), if_neg (by omega)]; unfold M0; rw [if_neg (by omega), if_neg (by omega)]
      by_cases e2 : 29 + 18 * t < 137
      · rw [if_pos e2, if_neg (by omega), if_neg (by omega)]; rfl
      · rw [if_neg e2]; rfl
  · intro t; rfl
  · intro t _; rfl
  · first | rfl | decide | (intro j hj; exact absurd hj (Nat.not_lt_zero j))
  · first | rfl | decide | (intro j hj; exact absurd hj (Nat.not_lt_zero j))
  · first | rfl | decide | (intro j hj; exact absurd hj (Nat.not_lt_zero j))
  · first | rfl | decide | (intro j hj; exact absurd hj (Nat.not_lt_zero j))
  · intro j hj; rcases (show j = 0 ∨ j = 1 by omega) with rfl | rfl <;> rfl
  · first | rfl | decide | (intro j hj; exact absurd hj (Nat.not_lt_zero j))
  · exact h
