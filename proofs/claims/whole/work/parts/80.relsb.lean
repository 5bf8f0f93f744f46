/-- a signature is stored -/
theorem rel_sb {mc rc tc d b : Nat} {rs sc : Nat → Nat} {sr : Nat → Nat → Nat} {M N : Mm} {t0 s rg : Nat} (h : RelL mc rc tc d b rs sc sr M) (h1 : ∀ a, a ≠ 29 + 18 * t0 + 2 + 2 * s → a ≠ 29 + 18 * t0 + 2 + 2 * s + 1 → a ≠ 29 + 18 * t0 → a ≠ 146 → a ≠ 147 → a ≠ 148 → a ≠ 149 → a ≠ 8 → a ≠ 9 → a ≠ 10 → a ≠ 11 → a ≠ 12 → a ≠ 137 → a ≠ 152 → a ≠ 153 → a ≠ 154 → N a = M a) (h2 : ∀ c, c ≠ 0 → c ≠ 20 → c ≠ 22 → c ≠ 23 → c ≠ 24 → c ≠ 26 → N 137 c = M 137 c) (h3 : ∀ c, c ≠ 4 → N (29 + 18 * t0) c = M (29 + 18 * t0) c) (h6 : ∀ c, c ≠ t0 → N 146 c = M 146 c) (h7 : ∀ c, c ≠ 8 * t0 + s → N 147 c = M 147 c) (h8 : ∀ c, c ≠ 8 * t0 + s → N 148 c = M 148 c) (h9 : ∀ c, c < 8 * (8 * t0 + s) ∨ 8 * (8 * t0 + s) + 8 ≤ c → N 149 c = M 149 c) (k0 : t0 < tc) (ks : sc t0 = s) (ks8 : s < 8) (kr : rg < rc) (k1 : N (29 + 18 * t0) 4 = nI (s + 1)) (k2 : N 146 t0 = nI (s + 1)) (k3 : N (29 + 18 * t0 + 2 + 2 * s) 2 = nI rg) (k4 : N 147 (8 * t0 + s) = nI rg) (k5 : N (29 + 18 * t0 + 2 + 2 * s) 1 = nI (2 + rs rg)) (k6 : N (29 + 18 * t0 + 2 + 2 * s) 3 = N 148 (8 * t0 + s)) (k7 : ∀ j, j < 2 + rs rg → N (29 + 18 * t0 + 2 + 2 * s + 1) j = N 149 (8 * (8 * t0 + s) + j)) : RelL mc rc tc d b rs (fun t => if t = t0 then s + 1 else sc t) (fun t k => if t = t0 ∧ k = s then rg else sr t k) N := by
  have rc8 := rl_rc8 h
  have tc6 := rl_tc6 h
  have sc8 := rl_sc8 h
  have rs6 := rl_rs6 h
  have hR : ∀ t c, t < 6 → c ≠ 4 → N (29 + 18 * t) c = M (29 + 18 * t) c := fun t c ht hc => by
    by_cases e : t = t0
    · rw [e]; exact h3 c hc
    · rw [h1 (29 + 18 * t) (by omega) (by omega) (by omega) (by omega) (by omega) (by omega) (by omega) (by omega) (by omega) (by omega) (by omega) (by omega) (by omega) (by omega) (by omega) (by omega)]
  have hK : ∀ t k, k < (if t = t0 then s + 1 else sc t) → (t = t0 ∧ k = s) ∨ k < sc t := fun t k hk => by
    by_cases e : t = t0
    · rw [if_pos e] at hk; rw [e, ks]; omega
    · rw [if_neg e] at hk; exact Or.inr hk
  refine ⟨?_, ?_, ?_, ?_, ?_, ?_, ?_, ?_, ?_, ?_, ?_, ?_, ?_, ?_, ?_, ?_, ?_, ?_, ?_, ?_, ?_, ?_, ?_, ?_, ?_, ?_, ?_, ?_, ?_, ?_, ?_, ?_, ?_, ?_, ?_, ?_, ?_, ?_⟩
  · exact rl_mc12 h
  · exact rl_rc8 h
  · exact rl_tc6 h
  · exact rl_d8 h
  · exact rl_d2 h
  · exact rl_b200 h
  · intro t
    show (if t = t0 then s + 1 else sc t) ≤ 8
    by_cases e : t = t0
    · rw [if_pos e]; exact ks8
    · rw [if_neg e]; exact sc8 t
  · exact rl_rs6 h
  · rw [h1 (1) (by omega) (by omega) (by omega) (by omega) (by omega) (by omega) (by omega) (by omega) (by omega) (by omega) (by omega) (by omega) (by omega) (by omega) (by omega) (by omega)]; exact rl_cmc h
  · rw [h2 _ (by decide) (by decide) (by decide) (by decide) (by decide) (by decide)]; exact rl_mmc h
  · rw [h1 (0) (by omega) (by omega) (by omega) (by omega) (by omega) (by omega) (by omega) (by omega) (by omega) (by omega) (by omega) (by omega) (by omega) (by omega) (by omega) (by omega)]; exact rl_crc h
  · rw [h2 _ (by decide) (by decide) (by decide) (by decide) (by decide) (by decide)]; exact rl_mrc h
  · rw [h1 (0) (by omega) (by omega) (by omega) (by omega) (by omega) (by omega) (by omega) (by omega) (by omega) (by omega) (by omega) (by omega) (by omega) (by omega) (by omega) (by omega)]; exact rl_ctc h
  · rw [h2 _ (by decide) (by decide) (by decide) (by decide) (by decide) (by decide)]; exact rl_mtc h
  · rw [h1 (5) (by omega) (by omega) (by omega) (by omega) (by omega) (by omega) (by omega) (by omega) (by omega) (by omega) (by omega) (by omega) (by omega) (by omega) (by omega) (by omega)]; exact rl_cd h
  · rw [h2 _ (by decide) (by decide) (by decide) (by decide) (by decide) (by decide)]; exact rl_md h
  · rw [h1 (0) (by omega) (by omega) (by omega) (by omega) (by omega) (by omega) (by omega) (by omega) (by omega) (by omega) (by omega) (by omega) (by omega) (by omega) (by omega) (by omega)]; exact rl_cb h
  · rw [h2 _ (by decide) (by decide) (by decide) (by decide) (by decide) (by decide)]; exact rl_mb h
  · intro j hj; rw [h1 (2) (by omega) (by omega) (by omega) (by omega) (by omega) (by omega) (by omega) (by omega) (by omega) (by omega) (by omega) (by omega) (by omega) (by omega) (by omega) (by omega), h1 (140) (by omega) (by omega) (by omega) (by omega) (by omega) (by omega) (by omega) (by omega) (by omega) (by omega) (by omega) (by omega) (by omega) (by omega) (by omega) (by omega)]; exact rl_keys h j hj
  · intro j hj; rw [h1 (2) (by omega) (by omega) (by omega) (by omega) (by omega) (by omega) (by omega) (by omega) (by omega) (by omega) (by omega) (by omega) (by omega) (by omega) (by omega) (by omega)]; exact rl_keyE h j hj
  · intro r hr hr8; rw [h1 (13 + 2 * r) (by omega) (by omega) (by omega) (by omega) (by omega) (by omega) (by omega) (by omega) (by omega) (by omega) (by omega) (by omega) (by omega) (by omega) (by omega) (by omega)]; exact rl_empt h r hr hr8
  · intro r hr; rw [h1 (13 + 2 * r) (by omega) (by omega) (by omega) (by omega) (by omega) (by omega) (by omega) (by omega) (by omega) (by omega) (by omega) (by omega) (by omega) (by omega) (by omega) (by omega), h1 (13 + 2 * r + 1) (by omega) (by omega) (by omega) (by omega) (by omega) (by omega) (by omega) (by omega) (by omega) (by omega) (by omega) (by omega) (by omega) (by omega) (by omega) (by omega)]; exact rl_crg h r hr
  · intro r hr; rw [h1 (141) (by omega) (by omega) (by omega) (by omega) (by omega) (by omega) (by omega) (by omega) (by omega) (by omega) (by omega) (by omega) (by omega) (by omega) (by omega) (by omega), h1 (142) (by omega) (by omega) (by omega) (by omega) (by omega) (by omega) (by omega) (by omega) (by omega) (by omega) (by omega) (by omega) (by omega) (by omega) (by omega) (by omega)]; exact rl_mrg h r hr
  · intro r hr j hj; rw [h1 (13 + 2 * r + 1) (by omega) (by omega) (by omega) (by omega) (by omega) (by omega) (by omega) (by omega) (by omega) (by omega) (by omega) (by omega) (by omega) (by omega) (by omega) (by omega), h1 (142) (by omega) (by omega) (by omega) (by omega) (by omega) (by omega) (by omega) (by omega) (by omega) (by omega) (by omega) (by omega) (by omega) (by omega) (by omega) (by omega)]; exact rl_rows h r hr j hj
  · intro t ht; rw [hR t 1 (by omega) (by decide), hR t 0 (by omega) (by decide)]; exact rl_cbs h t ht
  · intro t ht; rw [h1 (143) (by omega) (by omega) (by omega) (by omega) (by omega) (by omega) (by omega) (by omega) (by omega) (by omega) (by omega) (by omega) (by omega) (by omega) (by omega) (by omega), h1 (144) (by omega) (by omega) (by omega) (by omega) (by omega) (by omega) (by omega) (by omega) (by omega) (by omega) (by omega) (by omega) (by omega) (by omega) (by omega) (by omega)]; exact rl_mbs h t ht
  · intro t ht; rw [hR t 0 (by omega) (by decide), h1 (143) (by omega) (by omega) (by omega) (by omega) (by omega) (by omega) (by omega) (by omega) (by omega) (by omega) (by omega) (by omega) (by omega) (by omega) (by omega) (by omega)]; exact rl_vals h t ht
  · intro t ht; rw [hR t 2 (by omega) (by decide), h1 (145) (by omega) (by omega) (by omega) (by omega) (by omega) (by omega) (by omega) (by omega) (by omega) (by omega) (by omega) (by omega) (by omega) (by omega) (by omega) (by omega)]; exact rl_clos h t ht
  · intro t
    show N (29 + 18 * t) 4 = nI (if t = t0 then s + 1 else sc t)
    by_cases e7 : 29 + 18 * t = 137
    · rw [if_neg (show t ≠ t0 by omega), e7, h2 4 (by decide) (by decide) (by decide) (by decide) (by decide) (by decide), ← e7]; exact rl_ccn h t
    by_cases e : t = t0
    · rw [if_pos e, e]; exact k1
    · rw [if_neg e, h1 (29 + 18 * t) (by omega) (by omega) (by omega) (by omega) (by omega) (by omega) (by omega) (by omega) (by omega) (by omega) (by omega) (by omega) (by omega) (by omega) (by omega) (by omega)]; exact rl_ccn h t
  · intro t
    show N 146 t = nI (if t = t0 then s + 1 else sc t)
    by_cases e : t = t0
    · rw [if_pos e, e]; exact k2
    · rw [if_neg e, h6 t e]; exact rl_mcn h t
  · intro t ht
    show (if t = t0 then s + 1 else sc t) = 0
    rw [if_neg (show t ≠ t0 by omega)]; exact rl_scz h t ht
  · intro t ht k hk
    show N (29 + 18 * t + 2 + 2 * k) 2 = nI (if t = t0 ∧ k = s then rg else sr t k) ∧ (if t = t0 ∧ k = s then rg else sr t k) < rc ∧ N (29 + 18 * t + 2 + 2 * k) 1 = nI (2 + rs (if t = t0 ∧ k = s then rg else sr t k))
    have hk := hK t k hk
    by_cases e : t = t0 ∧ k = s
    · rw [if_pos e, e.1, e.2]; exact ⟨k3, kr, k5⟩
    · have h5 := hk.resolve_left e
      have := sc8 t
      rw [if_neg e, h1 (29 + 18 * t + 2 + 2 * k) (by omega) (by omega) (by omega) (by omega) (by omega) (by omega) (by omega) (by omega) (by omega) (by omega) (by omega) (by omega) (by omega) (by omega) (by omega) (by omega)]; exact rl_cst h t ht k h5
  · intro t ht k hk
    show N 147 (8 * t + k) = nI (if t = t0 ∧ k = s then rg else sr t k) ∧ (if t = t0 ∧ k = s then rg else sr t k) < rc
    have hk := hK t k hk
    by_cases e : t = t0 ∧ k = s
    · rw [if_pos e, e.1, e.2]; exact ⟨k4, kr⟩
    · have h5 := hk.resolve_left e
      have := sc8 t
      rw [if_neg e, h7 (8 * t + k) (by omega)]; exact rl_mst h t ht k h5
  · intro t ht k hk
    have hk := hK t k hk
    by_cases e : t = t0 ∧ k = s
    · rw [e.1, e.2]; exact k6
    · have h5 := hk.resolve_left e
      have := sc8 t
      rw [h1 (29 + 18 * t + 2 + 2 * k) (by omega) (by omega) (by omega) (by omega) (by omega) (by omega) (by omega) (by omega) (by omega) (by omega) (by omega) (by omega) (by omega) (by omega) (by omega) (by omega), h8 (8 * t + k) (by omega)]; exact rl_smo h t ht k h5
  · intro t ht k hk j hj
    have hj : j < 2 + rs (if t = t0 ∧ k = s then rg else sr t k) := hj
    have hk := hK t k hk
    by_cases e : t = t0 ∧ k = s
    · rw [if_pos e] at hj; rw [e.1, e.2]; exact k7 j hj
    · have h5 := hk.resolve_left e
      have := sc8 t
      have := rs6 (sr t k)
      rw [if_neg e] at hj
      rw [h1 (29 + 18 * t + 2 + 2 * k + 1) (by omega) (by omega) (by omega) (by omega) (by omega) (by omega) (by omega) (by omega) (by omega) (by omega) (by omega) (by omega) (by omega) (by omega) (by omega) (by omega), h9 _ (by omega)]; exact rl_snu h t ht k h5 j hj
  · intro j hj; rw [h1 (6) (by omega) (by omega) (by omega) (by omega) (by omega) (by omega) (by omega) (by omega) (by omega) (by omega) (by omega) (by omega) (by omega) (by omega) (by omega) (by omega), h1 (150) (by omega) (by omega) (by omega) (by omega) (by omega) (by omega) (by omega) (by omega) (by omega) (by omega) (by omega) (by omega) (by omega) (by omega) (by omega) (by omega)]; exact rl_drf h j hj
  · intro j hj; rw [h1 (7) (by omega) (by omega) (by omega) (by omega) (by omega) (by omega) (by omega) (by omega) (by omega) (by omega) (by omega) (by omega) (by omega) (by omega) (by omega) (by omega), h1 (151) (by omega) (by omega) (by omega) (by omega) (by omega) (by omega) (by omega) (by omega) (by omega) (by omega) (by omega) (by omega) (by omega) (by omega) (by omega) (by omega)]; exact rl_row h j hj
  · exact tb_mx (rl_tbl h) (h1 (138) (by omega) (by omega) (by omega) (by omega) (by omega) (by omega) (by omega) (by omega) (by omega) (by omega) (by omega) (by omega) (by omega) (by omega) (by omega) (by omega)) (h1 (139) (by omega) (by omega) (by omega) (by omega) (by omega) (by omega) (by omega) (by omega) (by omega) (by omega) (by omega) (by omega) (by omega) (by omega) (by omega) (by omega))
