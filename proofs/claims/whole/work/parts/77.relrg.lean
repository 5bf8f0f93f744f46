/-- a ring comes -/
theorem rel_rg {mc rc tc d b : Nat} {rs sc : Nat → Nat} {sr : Nat → Nat → Nat} {M N : Mm} {z : Nat} (h : RelL mc rc tc d b rs sc sr M) (h1 : ∀ a, a ≠ 0 → a ≠ 13 + 2 * rc → a ≠ 13 + 2 * rc + 1 → a ≠ 141 → a ≠ 142 → a ≠ 8 → a ≠ 9 → a ≠ 10 → a ≠ 11 → a ≠ 12 → a ≠ 137 → a ≠ 152 → a ≠ 153 → a ≠ 154 → N a = M a) (h2 : ∀ c, c ≠ 5 → c ≠ 0 → c ≠ 20 → c ≠ 22 → c ≠ 23 → c ≠ 24 → c ≠ 26 → N 137 c = M 137 c) (h0 : ∀ c, c ≠ 2 → N 0 c = M 0 c) (h3 : ∀ c, c ≠ rc → N 141 c = M 141 c) (h4 : ∀ c, c < 6 * rc → N 142 c = M 142 c) (k0 : rc < 8) (kz : z ≤ 6) (k1 : N 0 2 = nI (rc + 1)) (k2 : N 137 5 = nI (rc + 1)) (k3 : N (13 + 2 * rc) 1 = nI z) (k4 : N 141 rc = nI z) (k5 : ∀ j, j < z → N (13 + 2 * rc + 1) j = N 142 (6 * rc + j)) (k6 : ∀ j, j < z → eltN (vN (N (13 + 2 * rc + 1) j)) = true) : RelL mc (rc + 1) tc d b (fun r => if r = rc then z else rs r) sc sr N := by
  have rc8 := rl_rc8 h
  have tc6 := rl_tc6 h
  have sc8 := rl_sc8 h
  have rs6 := rl_rs6 h
  refine ⟨?_, ?_, ?_, ?_, ?_, ?_, ?_, ?_, ?_, ?_, ?_, ?_, ?_, ?_, ?_, ?_, ?_, ?_, ?_, ?_, ?_, ?_, ?_, ?_, ?_, ?_, ?_, ?_, ?_, ?_, ?_, ?_, ?_, ?_, ?_, ?_, ?_, ?_⟩
  · exact rl_mc12 h
  · exact k0
  · exact rl_tc6 h
  · exact rl_d8 h
  · exact rl_d2 h
  · exact rl_b200 h
  · exact rl_sc8 h
  · intro r
    show (if r = rc then z else rs r) ≤ 6
    by_cases e : r = rc
    · rw [if_pos e]; exact kz
    · rw [if_neg e]; exact rs6 r
  · rw [h1 (1) (by omega) (by omega) (by omega) (by omega) (by omega) (by omega) (by omega) (by omega) (by omega) (by omega) (by omega) (by omega) (by omega) (by omega)]; exact rl_cmc h
  · rw [h2 _ (by decide) (by decide) (by decide) (by decide) (by decide) (by decide) (by decide)]; exact rl_mmc h
  · exact k1
  · exact k2
  · rw [h0 4 (by decide)]; exact rl_ctc h
  · rw [h2 _ (by decide) (by decide) (by decide) (by decide) (by decide) (by decide) (by decide)]; exact rl_mtc h
  · rw [h1 (5) (by omega) (by omega) (by omega) (by omega) (by omega) (by omega) (by omega) (by omega) (by omega) (by omega) (by omega) (by omega) (by omega) (by omega)]; exact rl_cd h
  · rw [h2 _ (by decide) (by decide) (by decide) (by decide) (by decide) (by decide) (by decide)]; exact rl_md h
  · rw [h0 7 (by decide)]; exact rl_cb h
  · rw [h2 _ (by decide) (by decide) (by decide) (by decide) (by decide) (by decide) (by decide)]; exact rl_mb h
  · intro j hj; rw [h1 (2) (by omega) (by omega) (by omega) (by omega) (by omega) (by omega) (by omega) (by omega) (by omega) (by omega) (by omega) (by omega) (by omega) (by omega), h1 (140) (by omega) (by omega) (by omega) (by omega) (by omega) (by omega) (by omega) (by omega) (by omega) (by omega) (by omega) (by omega) (by omega) (by omega)]; exact rl_keys h j hj
  · intro j hj; rw [h1 (2) (by omega) (by omega) (by omega) (by omega) (by omega) (by omega) (by omega) (by omega) (by omega) (by omega) (by omega) (by omega) (by omega) (by omega)]; exact rl_keyE h j hj
  · intro r hr hr8; rw [h1 (13 + 2 * r) (by omega) (by omega) (by omega) (by omega) (by omega) (by omega) (by omega) (by omega) (by omega) (by omega) (by omega) (by omega) (by omega) (by omega)]; exact rl_empt h r (by omega) hr8
  · intro r hr
    show N (13 + 2 * r) 1 = nI (if r = rc then z else rs r) ∧ (if r = rc then z else rs r) ≤ 6 ∧ ∀ j, j < (if r = rc then z else rs r) → eltN (vN (N (13 + 2 * r + 1) j)) = true
    by_cases e : r = rc
    · rw [if_pos e, e]; exact ⟨k3, kz, k6⟩
    · rw [if_neg e, h1 (13 + 2 * r) (by omega) (by omega) (by omega) (by omega) (by omega) (by omega) (by omega) (by omega) (by omega) (by omega) (by omega) (by omega) (by omega) (by omega), h1 (13 + 2 * r + 1) (by omega) (by omega) (by omega) (by omega) (by omega) (by omega) (by omega) (by omega) (by omega) (by omega) (by omega) (by omega) (by omega) (by omega)]; exact rl_crg h r (by omega)
  · intro r hr
    show N 141 r = nI (if r = rc then z else rs r) ∧ (if r = rc then z else rs r) ≤ 6 ∧ ∀ j, j < (if r = rc then z else rs r) → eltN (vN (N 142 (6 * r + j))) = true
    by_cases e : r = rc
    · rw [if_pos e, e]; exact ⟨k4, kz, fun j hj => by rw [← k5 j hj]; exact k6 j hj⟩
    · have h9 := rl_mrg h r (by omega)
      rw [if_neg e, h3 r e]
      refine ⟨h9.1, h9.2.1, fun j hj => ?_⟩
      rw [h4 (6 * r + j) (by have := rs6 r; omega)]
      exact h9.2.2 j hj
  · intro r hr j hj
    have hj : j < (if r = rc then z else rs r) := hj
    by_cases e : r = rc
    · rw [if_pos e] at hj; rw [e]; exact k5 j hj
    · rw [if_neg e] at hj; rw [h1 (13 + 2 * r + 1) (by omega) (by omega) (by omega) (by omega) (by omega) (by omega) (by omega) (by omega) (by omega) (by omega) (by omega) (by omega) (by omega) (by omega), h4 (6 * r + j) (by have := rs6 r; omega)]; exact rl_rows h r (by omega) j hj
  · intro t ht; rw [h1 (29 + 18 * t) (by omega) (by omega) (by omega) (by omega) (by omega) (by omega) (by omega) (by omega) (by omega) (by omega) (by omega) (by omega) (by omega) (by omega)]; exact rl_cbs h t ht
  · intro t ht; rw [h1 (143) (by omega) (by omega) (by omega) (by omega) (by omega) (by omega) (by omega) (by omega) (by omega) (by omega) (by omega) (by omega) (by omega) (by omega), h1 (144) (by omega) (by omega) (by omega) (by omega) (by omega) (by omega) (by omega) (by omega) (by omega) (by omega) (by omega) (by omega) (by omega) (by omega)]; exact rl_mbs h t ht
  · intro t ht; rw [h1 (29 + 18 * t) (by omega) (by omega) (by omega) (by omega) (by omega) (by omega) (by omega) (by omega) (by omega) (by omega) (by omega) (by omega) (by omega) (by omega), h1 (143) (by omega) (by omega) (by omega) (by omega) (by omega) (by omega) (by omega) (by omega) (by omega) (by omega) (by omega) (by omega) (by omega) (by omega)]; exact rl_vals h t ht
  · intro t ht; rw [h1 (29 + 18 * t) (by omega) (by omega) (by omega) (by omega) (by omega) (by omega) (by omega) (by omega) (by omega) (by omega) (by omega) (by omega) (by omega) (by omega), h1 (145) (by omega) (by omega) (by omega) (by omega) (by omega) (by omega) (by omega) (by omega) (by omega) (by omega) (by omega) (by omega) (by omega) (by omega)]; exact rl_clos h t ht
  · intro t; by_cases e7 : 29 + 18 * t = 137
    · rw [e7, h2 4 (by decide) (by decide) (by decide) (by decide) (by decide) (by decide) (by decide), ← e7]; exact rl_ccn h t
    · rw [h1 (29 + 18 * t) (by omega) (by omega) (by omega) (by omega) (by omega) (by omega) (by omega) (by omega) (by omega) (by omega) (by omega) (by omega) (by omega) (by omega)]; exact rl_ccn h t
  · intro t; rw [h1 (146) (by omega) (by omega) (by omega) (by omega) (by omega) (by omega) (by omega) (by omega) (by omega) (by omega) (by omega) (by omega) (by omega) (by omega)]; exact rl_mcn h t
  · exact rl_scz h
  · intro t ht k hk
    have := sc8 t
    have h9 := rl_cst h t ht k hk
    show N (29 + 18 * t + 2 + 2 * k) 2 = nI (sr t k) ∧ sr t k < rc + 1 ∧ N (29 + 18 * t + 2 + 2 * k) 1 = nI (2 + (if sr t k = rc then z else rs (sr t k)))
    rw [h1 (29 + 18 * t + 2 + 2 * k) (by omega) (by omega) (by omega) (by omega) (by omega) (by omega) (by omega) (by omega) (by omega) (by omega) (by omega) (by omega) (by omega) (by omega), if_neg (show sr t k ≠ rc by have := h9.2.1; omega)]
    exact ⟨h9.1, by have := h9.2.1; omega, h9.2.2⟩
  · intro t ht k hk
    have h9 := rl_mst h t ht k hk
    rw [h1 (147) (by omega) (by omega) (by omega) (by omega) (by omega) (by omega) (by omega) (by omega) (by omega) (by omega) (by omega) (by omega) (by omega) (by omega)]
    exact ⟨h9.1, by have := h9.2; omega⟩
  · intro t ht k hk; have := sc8 t; rw [h1 (29 + 18 * t + 2 + 2 * k) (by omega) (by omega) (by omega) (by omega) (by omega) (by omega) (by omega) (by omega) (by omega) (by omega) (by omega) (by omega) (by omega) (by omega), h1 (148) (by omega) (by omega) (by omega) (by omega) (by omega) (by omega) (by omega) (by omega) (by omega) (by omega) (by omega) (by omega) (by omega) (by omega)]; exact rl_smo h t ht k hk
  · intro t ht k hk j hj
    have := sc8 t
    have h9 := rl_mst h t ht k hk
    have hj : j < 2 + (if sr t k = rc then z else rs (sr t k)) := hj
    rw [if_neg (show sr t k ≠ rc by have := h9.2; omega)] at hj
    rw [h1 (29 + 18 * t + 2 + 2 * k + 1) (by omega) (by omega) (by omega) (by omega) (by omega) (by omega) (by omega) (by omega) (by omega) (by omega) (by omega) (by omega) (by omega) (by omega), h1 (149) (by omega) (by omega) (by omega) (by omega) (by omega) (by omega) (by omega) (by omega) (by omega) (by omega) (by omega) (by omega) (by omega) (by omega)]; exact rl_snu h t ht k hk j hj
  · intro j hj; rw [h1 (6) (by omega) (by omega) (by omega) (by omega) (by omega) (by omega) (by omega) (by omega) (by omega) (by omega) (by omega) (by omega) (by omega) (by omega), h1 (150) (by omega) (by omega) (by omega) (by omega) (by omega) (by omega) (by omega) (by omega) (by omega) (by omega) (by omega) (by omega) (by omega) (by omega)]; exact rl_drf h j hj
  · intro j hj; rw [h1 (7) (by omega) (by omega) (by omega) (by omega) (by omega) (by omega) (by omega) (by omega) (by omega) (by omega) (by omega) (by omega) (by omega) (by omega), h1 (151) (by omega) (by omega) (by omega) (by omega) (by omega) (by omega) (by omega) (by omega) (by omega) (by omega) (by omega) (by omega) (by omega) (by omega)]; exact rl_row h j hj
  · exact tb_mx (rl_tbl h) (h1 (138) (by omega) (by omega) (by omega) (by omega) (by omega) (by omega) (by omega) (by omega) (by omega) (by omega) (by omega) (by omega) (by omega) (by omega)) (h1 (139) (by omega) (by omega) (by omega) (by omega) (by omega) (by omega) (by omega) (by omega) (by omega) (by omega) (by omega) (by omega) (by omega) (by omega))
