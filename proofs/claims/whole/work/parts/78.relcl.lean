/-- a topic is closed -/
theorem rel_cl {mc rc tc d b : Nat} {rs sc : Nat → Nat} {sr : Nat → Nat → Nat} {M N : Mm} {t0 : Nat} (h : RelL mc rc tc d b rs sc sr M) (h1 : ∀ a, a ≠ 29 + 18 * t0 → a ≠ 145 → a ≠ 8 → a ≠ 9 → a ≠ 10 → a ≠ 11 → a ≠ 12 → a ≠ 137 → a ≠ 152 → a ≠ 153 → a ≠ 154 → N a = M a) (h2 : ∀ c, c ≠ 0 → c ≠ 20 → c ≠ 22 → c ≠ 23 → c ≠ 24 → c ≠ 26 → N 137 c = M 137 c) (h3 : ∀ c, c ≠ 2 → N (29 + 18 * t0) c = M (29 + 18 * t0) c) (h4 : ∀ c, c ≠ t0 → N 145 c = M 145 c) (k0 : t0 < tc) (k1 : N (29 + 18 * t0) 2 = N 145 t0) : RelL mc rc tc d b rs sc sr N := by
  have rc8 := rl_rc8 h
  have tc6 := rl_tc6 h
  have sc8 := rl_sc8 h
  have rs6 := rl_rs6 h
  have hR : ∀ t c, 29 + 18 * t ≠ 137 → c ≠ 2 → N (29 + 18 * t) c = M (29 + 18 * t) c := fun t c ht hc => by
    by_cases e : t = t0
    · rw [e]; exact h3 c hc
    · rw [h1 (29 + 18 * t) (by omega) (by omega) (by omega) (by omega) (by omega) (by omega) (by omega) (by omega) (by omega) (by omega) (by omega)]
  refine ⟨?_, ?_, ?_, ?_, ?_, ?_, ?_, ?_, ?_, ?_, ?_, ?_, ?_, ?_, ?_, ?_, ?_, ?_, ?_, ?_, ?_, ?_, ?_, ?_, ?_, ?_, ?_, ?_, ?_, ?_, ?_, ?_, ?_, ?_, ?_, ?_, ?_, ?_⟩
  · exact rl_mc12 h
  · exact rl_rc8 h
  · exact rl_tc6 h
  · exact rl_d8 h
  · exact rl_d2 h
  · exact rl_b200 h
  · exact rl_sc8 h
  · exact rl_rs6 h
  · rw [h1 (1) (by omega) (by omega) (by omega) (by omega) (by omega) (by omega) (by omega) (by omega) (by omega) (by omega) (by omega)]; exact rl_cmc h
  · rw [h2 _ (by decide) (by decide) (by decide) (by decide) (by decide) (by decide)]; exact rl_mmc h
  · rw [h1 (0) (by omega) (by omega) (by omega) (by omega) (by omega) (by omega) (by omega) (by omega) (by omega) (by omega) (by omega)]; exact rl_crc h
  · rw [h2 _ (by decide) (by decide) (by decide) (by decide) (by decide) (by decide)]; exact rl_mrc h
  · rw [h1 (0) (by omega) (by omega) (by omega) (by omega) (by omega) (by omega) (by omega) (by omega) (by omega) (by omega) (by omega)]; exact rl_ctc h
  · rw [h2 _ (by decide) (by decide) (by decide) (by decide) (by decide) (by decide)]; exact rl_mtc h
  · rw [h1 (5) (by omega) (by omega) (by omega) (by omega) (by omega) (by omega) (by omega) (by omega) (by omega) (by omega) (by omega)]; exact rl_cd h
  · rw [h2 _ (by decide) (by decide) (by decide) (by decide) (by decide) (by decide)]; exact rl_md h
  · rw [h1 (0) (by omega) (by omega) (by omega) (by omega) (by omega) (by omega) (by omega) (by omega) (by omega) (by omega) (by omega)]; exact rl_cb h
  · rw [h2 _ (by decide) (by decide) (by decide) (by decide) (by decide) (by decide)]; exact rl_mb h
  · intro j hj; rw [h1 (2) (by omega) (by omega) (by omega) (by omega) (by omega) (by omega) (by omega) (by omega) (by omega) (by omega) (by omega), h1 (140) (by omega) (by omega) (by omega) (by omega) (by omega) (by omega) (by omega) (by omega) (by omega) (by omega) (by omega)]; exact rl_keys h j hj
  · intro j hj; rw [h1 (2) (by omega) (by omega) (by omega) (by omega) (by omega) (by omega) (by omega) (by omega) (by omega) (by omega) (by omega)]; exact rl_keyE h j hj
  · intro r hr hr8; rw [h1 (13 + 2 * r) (by omega) (by omega) (by omega) (by omega) (by omega) (by omega) (by omega) (by omega) (by omega) (by omega) (by omega)]; exact rl_empt h r hr hr8
  · intro r hr; rw [h1 (13 + 2 * r) (by omega) (by omega) (by omega) (by omega) (by omega) (by omega) (by omega) (by omega) (by omega) (by omega) (by omega), h1 (13 + 2 * r + 1) (by omega) (by omega) (by omega) (by omega) (by omega) (by omega) (by omega) (by omega) (by omega) (by omega) (by omega)]; exact rl_crg h r hr
  · intro r hr; rw [h1 (141) (by omega) (by omega) (by omega) (by omega) (by omega) (by omega) (by omega) (by omega) (by omega) (by omega) (by omega), h1 (142) (by omega) (by omega) (by omega) (by omega) (by omega) (by omega) (by omega) (by omega) (by omega) (by omega) (by omega)]; exact rl_mrg h r hr
  · intro r hr j hj; rw [h1 (13 + 2 * r + 1) (by omega) (by omega) (by omega) (by omega) (by omega) (by omega) (by omega) (by omega) (by omega) (by omega) (by omega), h1 (142) (by omega) (by omega) (by omega) (by omega) (by omega) (by omega) (by omega) (by omega) (by omega) (by omega) (by omega)]; exact rl_rows h r hr j hj
  · intro t ht; rw [hR t 1 (by omega) (by decide), hR t 0 (by omega) (by decide)]; exact rl_cbs h t ht
  · intro t ht; rw [h1 (143) (by omega) (by omega) (by omega) (by omega) (by omega) (by omega) (by omega) (by omega) (by omega) (by omega) (by omega), h1 (144) (by omega) (by omega) (by omega) (by omega) (by omega) (by omega) (by omega) (by omega) (by omega) (by omega) (by omega)]; exact rl_mbs h t ht
  · intro t ht; rw [hR t 0 (by omega) (by decide), h1 (143) (by omega) (by omega) (by omega) (by omega) (by omega) (by omega) (by omega) (by omega) (by omega) (by omega) (by omega)]; exact rl_vals h t ht
  · intro t ht
    by_cases e : t = t0
    · rw [e]; exact k1
    · rw [h1 (29 + 18 * t) (by omega) (by omega) (by omega) (by omega) (by omega) (by omega) (by omega) (by omega) (by omega) (by omega) (by omega), h4 t e]; exact rl_clos h t ht
  · intro t
    by_cases e7 : 29 + 18 * t = 137
    · rw [e7, h2 4 (by decide) (by decide) (by decide) (by decide) (by decide) (by decide), ← e7]; exact rl_ccn h t
    · rw [hR t 4 e7 (by decide)]; exact rl_ccn h t
  · intro t; rw [h1 (146) (by omega) (by omega) (by omega) (by omega) (by omega) (by omega) (by omega) (by omega) (by omega) (by omega) (by omega)]; exact rl_mcn h t
  · exact rl_scz h
  · intro t ht k hk; have := sc8 t; rw [h1 (29 + 18 * t + 2 + 2 * k) (by omega) (by omega) (by omega) (by omega) (by omega) (by omega) (by omega) (by omega) (by omega) (by omega) (by omega)]; exact rl_cst h t ht k hk
  · intro t ht k hk; rw [h1 (147) (by omega) (by omega) (by omega) (by omega) (by omega) (by omega) (by omega) (by omega) (by omega) (by omega) (by omega)]; exact rl_mst h t ht k hk
  · intro t ht k hk; have := sc8 t; rw [h1 (29 + 18 * t + 2 + 2 * k) (by omega) (by omega) (by omega) (by omega) (by omega) (by omega) (by omega) (by omega) (by omega) (by omega) (by omega), h1 (148) (by omega) (by omega) (by omega) (by omega) (by omega) (by omega) (by omega) (by omega) (by omega) (by omega) (by omega)]; exact rl_smo h t ht k hk
  · intro t ht k hk j hj; have := sc8 t; rw [h1 (29 + 18 * t + 2 + 2 * k + 1) (by omega) (by omega) (by omega) (by omega) (by omega) (by omega) (by omega) (by omega) (by omega) (by omega) (by omega), h1 (149) (by omega) (by omega) (by omega) (by omega) (by omega) (by omega) (by omega) (by omega) (by omega) (by omega) (by omega)]; exact rl_snu h t ht k hk j hj
  · intro j hj; rw [h1 (6) (by omega) (by omega) (by omega) (by omega) (by omega) (by omega) (by omega) (by omega) (by omega) (by omega) (by omega), h1 (150) (by omega) (by omega) (by omega) (by omega) (by omega) (by omega) (by omega) (by omega) (by omega) (by omega) (by omega)]; exact rl_drf h j hj
  · intro j hj; rw [h1 (7) (by omega) (by omega) (by omega) (by omega) (by omega) (by omega) (by omega) (by omega) (by omega) (by omega) (by omega), h1 (151) (by omega) (by omega) (by omega) (by omega) (by omega) (by omega) (by omega) (by omega) (by omega) (by omega) (by omega)]; exact rl_row h j hj
  · exact tb_mx (rl_tbl h) (h1 (138) (by omega) (by omega) (by omega) (by omega) (by omega) (by omega) (by omega) (by omega) (by omega) (by omega) (by omega)) (h1 (139) (by omega) (by omega) (by omega) (by omega) (by omega) (by omega) (by omega) (by omega) (by omega) (by omega) (by omega))
