/-- a topic comes -/
theorem rel_tp {mc rc tc d b : Nat} {rs sc : Nat → Nat} {sr : Nat → Nat → Nat} {M N : Mm} {v : Int32} (h : RelL mc rc tc d b rs sc sr M) (h1 : ∀ a, a ≠ 0 → a ≠ 29 + 18 * tc → a ≠ 143 → a ≠ 144 → a ≠ 8 → a ≠ 9 → a ≠ 10 → a ≠ 11 → a ≠ 12 → a ≠ 137 → a ≠ 152 → a ≠ 153 → a ≠ 154 → N a = M a) (h2 : ∀ c, c ≠ 8 → c ≠ 0 → c ≠ 20 → c ≠ 22 → c ≠ 23 → c ≠ 24 → c ≠ 26 → N 137 c = M 137 c) (h0 : ∀ c, c ≠ 4 → N 0 c = M 0 c) (hT : ∀ c, c ≠ 0 → c ≠ 1 → N (29 + 18 * tc) c = M (29 + 18 * tc) c) (h3 : ∀ c, c ≠ tc → N 143 c = M 143 c) (h4 : ∀ c, c ≠ tc → N 144 c = M 144 c) (k0 : tc < 6) (k1 : N 0 4 = nI (tc + 1)) (k2 : N 137 8 = nI (tc + 1)) (k3 : N (29 + 18 * tc) 0 = v) (k4 : N (29 + 18 * tc) 1 = nI (tB v)) (k5 : N 143 tc = v) (k6 : N 144 tc = nI (tB v)) : RelL mc rc (tc + 1) d b rs sc sr N := by
  have rc8 := rl_rc8 h
  have tc6 := rl_tc6 h
  have sc8 := rl_sc8 h
  have rs6 := rl_rs6 h
  refine ⟨?_, ?_, ?_, ?_, ?_, ?_, ?_, ?_, ?_, ?_, ?_, ?_, ?_, ?_, ?_, ?_, ?_, ?_, ?_, ?_, ?_, ?_, ?_, ?_, ?_, ?_, ?_, ?_, ?_, ?_, ?_, ?_, ?_, ?_, ?_, ?_, ?_, ?_⟩
  · exact rl_mc12 h
  · exact rl_rc8 h
  · exact k0
  · exact rl_d8 h
  · exact rl_d2 h
  · exact rl_b200 h
  · exact rl_sc8 h
  · exact rl_rs6 h
  · rw [h1 (1) (by omega) (by omega) (by omega) (by omega) (by omega) (by omega) (by omega) (by omega) (by omega) (by omega) (by omega) (by omega) (by omega)]; exact rl_cmc h
  · rw [h2 _ (by decide) (by decide) (by decide) (by decide) (by decide) (by decide) (by decide)]; exact rl_mmc h
  · rw [h0 2 (by decide)]; exact rl_crc h
  · rw [h2 _ (by decide) (by decide) (by decide) (by decide) (by decide) (by decide) (by decide)]; exact rl_mrc h
  · exact k1
  · exact k2
  · rw [h1 (5) (by omega) (by omega) (by omega) (by omega) (by omega) (by omega) (by omega) (by omega) (by omega) (by omega) (by omega) (by omega) (by omega)]; exact rl_cd h
  · rw [h2 _ (by decide) (by decide) (by decide) (by decide) (by decide) (by decide) (by decide)]; exact rl_md h
  · rw [h0 7 (by decide)]; exact rl_cb h
  · rw [h2 _ (by decide) (by decide) (by decide) (by decide) (by decide) (by decide) (by decide)]; exact rl_mb h
  · intro j hj; rw [h1 (2) (by omega) (by omega) (by omega) (by omega) (by omega) (by omega) (by omega) (by omega) (by omega) (by omega) (by omega) (by omega) (by omega), h1 (140) (by omega) (by omega) (by omega) (by omega) (by omega) (by omega) (by omega) (by omega) (by omega) (by omega) (by omega) (by omega) (by omega)]; exact rl_keys h j hj
  · intro j hj; rw [h1 (2) (by omega) (by omega) (by omega) (by omega) (by omega) (by omega) (by omega) (by omega) (by omega) (by omega) (by omega) (by omega) (by omega)]; exact rl_keyE h j hj
  · intro r hr hr8; rw [h1 (13 + 2 * r) (by omega) (by omega) (by omega) (by omega) (by omega) (by omega) (by omega) (by omega) (by omega) (by omega) (by omega) (by omega) (by omega)]; exact rl_empt h r hr hr8
  · intro r hr; rw [h1 (13 + 2 * r) (by omega) (by omega) (by omega) (by omega) (by omega) (by omega) (by omega) (by omega) (by omega) (by omega) (by omega) (by omega) (by omega), h1 (13 + 2 * r + 1) (by omega) (by omega) (by omega) (by omega) (by omega) (by omega) (by omega) (by omega) (by omega) (by omega) (by omega) (by omega) (by omega)]; exact rl_crg h r hr
  · intro r hr; rw [h1 (141) (by omega) (by omega) (by omega) (by omega) (by omega) (by omega) (by omega) (by omega) (by omega) (by omega) (by omega) (by omega) (by omega), h1 (142) (by omega) (by omega) (by omega) (by omega) (by omega) (by omega) (by omega) (by omega) (by omega) (by omega) (by omega) (by omega) (by omega)]; exact rl_mrg h r hr
  · intro r hr j hj; rw [h1 (13 + 2 * r + 1) (by omega) (by omega) (by omega) (by omega) (by omega) (by omega) (by omega) (by omega) (by omega) (by omega) (by omega) (by omega) (by omega), h1 (142) (by omega) (by omega) (by omega) (by omega) (by omega) (by omega) (by omega) (by omega) (by omega) (by omega) (by omega) (by omega) (by omega)]; exact rl_rows h r hr j hj
  · intro t ht
    by_cases e : t = tc
    · rw [e, k3, k4]
    · rw [h1 (29 + 18 * t) (by omega) (by omega) (by omega) (by omega) (by omega) (by omega) (by omega) (by omega) (by omega) (by omega) (by omega) (by omega) (by omega)]; exact rl_cbs h t (by omega)
  · intro t ht
    by_cases e : t = tc
    · rw [e, k5, k6]
    · rw [h3 t e, h4 t e]; exact rl_mbs h t (by omega)
  · intro t ht
    by_cases e : t = tc
    · rw [e, k3, k5]
    · rw [h1 (29 + 18 * t) (by omega) (by omega) (by omega) (by omega) (by omega) (by omega) (by omega) (by omega) (by omega) (by omega) (by omega) (by omega) (by omega), h3 t e]; exact rl_vals h t (by omega)
  · intro t ht
    by_cases e : t = tc
    · rw [e, hT 2 (by decide) (by decide), h1 (145) (by omega) (by omega) (by omega) (by omega) (by omega) (by omega) (by omega) (by omega) (by omega) (by omega) (by omega) (by omega) (by omega)]; exact rl_clos h tc (by omega)
    · rw [h1 (29 + 18 * t) (by omega) (by omega) (by omega) (by omega) (by omega) (by omega) (by omega) (by omega) (by omega) (by omega) (by omega) (by omega) (by omega), h1 (145) (by omega) (by omega) (by omega) (by omega) (by omega) (by omega) (by omega) (by omega) (by omega) (by omega) (by omega) (by omega) (by omega)]; exact rl_clos h t ht
  · intro t
    by_cases e7 : 29 + 18 * t = 137
    · rw [e7, h2 4 (by decide) (by decide) (by decide) (by decide) (by decide) (by decide) (by decide), ← e7]; exact rl_ccn h t
    by_cases e : t = tc
    · rw [e, hT 4 (by decide) (by decide)]; exact rl_ccn h tc
    · rw [h1 (29 + 18 * t) (by omega) (by omega) (by omega) (by omega) (by omega) (by omega) (by omega) (by omega) (by omega) (by omega) (by omega) (by omega) (by omega)]; exact rl_ccn h t
  · intro t; rw [h1 (146) (by omega) (by omega) (by omega) (by omega) (by omega) (by omega) (by omega) (by omega) (by omega) (by omega) (by omega) (by omega) (by omega)]; exact rl_mcn h t
  · intro t ht; exact rl_scz h t (by omega)
  · intro t ht k hk
    rcases Nat.lt_or_ge t tc with q | q
    · have := sc8 t; rw [h1 (29 + 18 * t + 2 + 2 * k) (by omega) (by omega) (by omega) (by omega) (by omega) (by omega) (by omega) (by omega) (by omega) (by omega) (by omega) (by omega) (by omega)]; exact rl_cst h t q k hk
    · rw [rl_scz h t (show tc ≤ t by omega)] at hk; exact absurd hk (Nat.not_lt_zero _)
  · intro t ht k hk
    rcases Nat.lt_or_ge t tc with q | q
    · rw [h1 (147) (by omega) (by omega) (by omega) (by omega) (by omega) (by omega) (by omega) (by omega) (by omega) (by omega) (by omega) (by omega) (by omega)]; exact rl_mst h t q k hk
    · rw [rl_scz h t (show tc ≤ t by omega)] at hk; exact absurd hk (Nat.not_lt_zero _)
  · intro t ht k hk
    rcases Nat.lt_or_ge t tc with q | q
    · have := sc8 t; rw [h1 (29 + 18 * t + 2 + 2 * k) (by omega) (by omega) (by omega) (by omega) (by omega) (by omega) (by omega) (by omega) (by omega) (by omega) (by omega) (by omega) (by omega), h1 (148) (by omega) (by omega) (by omega) (by omega) (by omega) (by omega) (by omega) (by omega) (by omega) (by omega) (by omega) (by omega) (by omega)]; exact rl_smo h t q k hk
    · rw [rl_scz h t (show tc ≤ t by omega)] at hk; exact absurd hk (Nat.not_lt_zero _)
  · intro t ht k hk j hj
    rcases Nat.lt_or_ge t tc with q | q
    · have := sc8 t; rw [h1 (29 + 18 * t + 2 + 2 * k + 1) (by omega) (by omega) (by omega) (by omega) (by omega) (by omega) (by omega) (by omega) (by omega) (by omega) (by omega) (by omega) (by omega), h1 (149) (by omega) (by omega) (by omega) (by omega) (by omega) (by omega) (by omega) (by omega) (by omega) (by omega) (by omega) (by omega) (by omega)]; exact rl_snu h t q k hk j hj
    · rw [rl_scz h t (show tc ≤ t by omega)] at hk; exact absurd hk (Nat.not_lt_zero _)
  · intro j hj; rw [h1 (6) (by omega) (by omega) (by omega) (by omega) (by omega) (by omega) (by omega) (by omega) (by omega) (by omega) (by omega) (by omega) (by omega), h1 (150) (by omega) (by omega) (by omega) (by omega) (by omega) (by omega) (by omega) (by omega) (by omega) (by omega) (by omega) (by omega) (by omega)]; exact rl_drf h j hj
  · intro j hj; rw [h1 (7) (by omega) (by omega) (by omega) (by omega) (by omega) (by omega) (by omega) (by omega) (by omega) (by omega) (by omega) (by omega) (by omega), h1 (151) (by omega) (by omega) (by omega) (by omega) (by omega) (by omega) (by omega) (by omega) (by omega) (by omega) (by omega) (by omega) (by omega)]; exact rl_row h j hj
  · exact tb_mx (rl_tbl h) (h1 (138) (by omega) (by omega) (by omega) (by omega) (by omega) (by omega) (by omega) (by omega) (by omega) (by omega) (by omega) (by omega) (by omega)) (h1 (139) (by omega) (by omega) (by omega) (by omega) (by omega) (by omega) (by omega) (by omega) (by omega) (by omega) (by omega) (by omega) (by omega))
