/-! the law's cases -/
set_option maxHeartbeats 1000000 in
set_option maxRecDepth 100000 in
theorem kC_member {p : Program} {l : Launch} {e : Env} {s : State} {m : MethodId} {below : List Frame} {meth : Method} {c : Code} {b L : Nat} {xs : Nat → Int32} {D : va_G} {cy ad : Nat → Nat} (C0 : LC p l s m c b L xs D cy ad) {M : Mm} (hR : RR M) {i : Nat} (hi : i + 6 ≤ L) (hL : L ≤ 3072) {H : Heap} {locs : List Loc} {cells slots : Nat} {ls : Array Slot} {Q : State → Prop} (hP : va_P D vwCl (wd cy ad 155 M ++ []) H) (hS : va_S (AL s) s.heap H locs) (hc : cells + 9 ≤ 601024) (hs : slots + 38 ≤ 7293034) (hl : lv_has ls 7 [(0, .ref b), (1, .ref (ad 0)), (2, .ref (ad 137)), (3, .ref (ad 154)), (4, .int (nI i))])
    (kk : ∀ (M2 : Mm) (H2 : Heap) (locs2 : List Loc) (ls2 : Array Slot), RR M2 → va_P D vwCl (wd cy ad 155 M2 ++ []) H2 → va_S (AL s) s.heap H2 locs2 → lv_has ls2 7 [(0, .ref b), (1, .ref (ad 0)), (2, .ref (ad 137)), (3, .ref (ad 154)), (4, .int (nI i))] → W p l e room_1 s m #[Value.ref b] below meth c H2 locs2 (cells + 9) (slots + 38) Q (F0 m 1243 ls2 [])) : W p l e room_1 s m #[Value.ref b] below meth c H locs cells slots Q (F0 m 132 ls []) := by
  obtain ⟨hx, hb, hml, hown, hts, hX, hbl, hE, hXF, hN1, hN2, hN3, hN4, hD, hlt⟩ := C0
  obtain ⟨mc, rc, tc, d, b1, rs, sc, sr, h⟩ := hR
  have hA : ∀ q, s.heap.size ≤ q → AL s q := fun _ h => h
  have hbA : ¬ AL s b := Nat.not_le.mpr hbl
  obtain ⟨x0, ex0⟩ : ∃ y, y = xs (i + 1) := ⟨_, rfl⟩
  refine lv_aload_n hx hb dL_law_132 rfl (lv_at hl 1 rfl) ?_
  refine lv_aload_n hx hb dL_law_133 rfl (lv_at hl 0 rfl) ?_
  refine lv_iload hx hb dL_law_134 (lv_at hl 4 rfl) ?_
  refine lv_iconst (v := nI 1) hx hb dL_law_136 (by decide) ?_
  refine lv_iadd hx hb dL_law_137 ?_
  refine wr_top (y := nI (i + 1)) (nI_add _ _) ?_
  refine va_sld hx hb hX hbl hbA hS (vp_in_nI (show i + 1 < L by omega) (by omega)) dL_law_138 ?_
  refine wr_top (y := x0) ((congrArg xs (nI_clamp (by omega))).trans ex0.symm) ?_
  refine lv_aload_n hx hb dL_law_139 rfl (lv_at hl 3 rfl) ?_
  refine vx_calli (vx_runSX (hh := [(0, 9, 12, 13), (0, 9, 15, 15)]) (As := [.ref (ad 0), .int x0, .ref (ad 154)]) (rest := []) ⟨hx, hb, hml, hown, hts⟩ (kL_member l hD (by decide) (P := PC_member mc x0 M) (X := XC_member mc x0 M) (fun _ _ hx => hx.1.elim (fun q => Or.inl q.1) (fun q => Or.inr q.1)) (kX5_member l hlt hD (by decide) (rl_cmc h) (rl_mc12 h))) (vx_cwSW 3 hts gL_law_L_member rfl rfl rfl (by decide +kernel) ⟨Nat.le_of_ble_eq_true rfl, Nat.le_of_ble_eq_true rfl⟩) (lp_ps hE hP hS hA hXF hN1 hN2 hN3 hN4) rfl rfl hl.1 rfl (lv_room (Nat.le_of_ble_eq_true rfl)) dL_law_140 ⟨(show cells + 1 ≤ 601024 by omega), (show slots + 6 ≤ 7293034 by omega)⟩) hS (fun q _ h => h) (fun q h => h) (fun q _ h => h) (fun E9 ce q9 u t H1 locs1 ht hvm hpx hBX hz1 hk1 hS hce hcv hcl => False.elim hBX) (fun r u1 t H1 locs ht hvm hw hB9 hz1 hk1 hS => ?_)
  have hw : WR_member mc x0 M r u1 := hw
  have hP : va_P D vwCl (wd cy ad 155 u1 ++ []) H1 := by rw [← ht]; exact hB9
  clear hB9 ht hvm hz1 hk1
  generalize H1 = H at hP hS ⊢
  obtain ⟨m1, m2, m3, m4, m5, m6, m7, m8, m9, m10⟩ := rm_of h (md_member h hw)
  refine lv_istore (lv' := [(5, .int r), (0, .ref b), (1, .ref (ad 0)), (2, .ref (ad 137)), (3, .ref (ad 154)), (4, .int (nI i))]) hx hb dL_law_143 hl (by decide) rfl (fun ls hl => ?_)
  refine lv_aload_n hx hb dL_law_145 rfl (lv_at hl 3 rfl) ?_
  refine lv_aload_n hx hb dL_law_146 rfl (lv_at hl 1 rfl) ?_
  refine lv_iload hx hb dL_law_147 (lv_at hl 5 rfl) ?_
  refine lv_iconst (v := nI 1) hx hb dL_law_149 (by decide) ?_
  refine lv_iadd hx hb dL_law_150 ?_
  refine wr_top (y := nI (i + 1)) (nI_add _ _) ?_
  refine va_sld hx hb hX hbl hbA hS (vp_in_nI (show i + 1 < L by omega) (by omega)) dL_law_151 ?_
  refine wr_top (y := x0) ((congrArg xs (nI_clamp (by omega))).trans ex0.symm) ?_
  refine va_calli (va_runV (As := [.int x0]) (rest := []) ⟨hx, hb, hml, hown, hts⟩ (kX6_member l hD (by decide) m10 m1 (rl_mc12 h)) (cwV 1 hts gL_law_X6_member rfl rfl rfl (by decide +kernel) ⟨Nat.le_of_ble_eq_true rfl, Nat.le_of_ble_eq_true rfl⟩) (rw_pv (ci := 5) (q := (RX6, TX6, 27)) hE hP hS hA rfl (wd_at (M := u1) (show 137 < 155 by decide) (g_137 cy ad _))) rfl rfl hl.1 rfl (lv_room (Nat.le_of_ble_eq_true rfl)) dL_law_152 ⟨(show cells + 1 + 0 ≤ 601024 by omega), (show slots + 6 + 0 ≤ 7293034 by omega)⟩) hS (fun q _ h => h) (fun q h => h) (fun bb u2 t H1 locs ht hvm hm hB9 hz1 hk1 hS => ?_)
  have hm : PM_member x0 mc u1 bb u2 := hm
  have hP : va_P D vwCl (wd cy ad 155 u2 ++ []) H1 := by rw [← ht]; exact hB9
  clear hB9 ht hvm hz1 hk1
  generalize H1 = H at hP hS ⊢
  have hcn := pq_member h hw hm
  refine lv_istore (lv' := [(6, .int bb), (5, .int r), (0, .ref b), (1, .ref (ad 0)), (2, .ref (ad 137)), (3, .ref (ad 154)), (4, .int (nI i))]) hx hb dL_law_155 hl (by decide) rfl (fun ls hl => ?_)
  refine lv_aload_n hx hb dL_law_157 rfl (lv_at hl 4 rfl) ?_
  refine vp_callSi (W.runV (As := []) (rest := []) ⟨hx, hb, hml, hown, hts⟩ (kX6_thrown l (M := u2) (by decide)) (cwV 0 hts gL_law_X6_thrown rfl rfl rfl (by decide +kernel) ⟨Nat.le_of_ble_eq_true rfl, Nat.le_of_ble_eq_true rfl⟩) (ro_pv (ci := 5) (q := (RX6, TX6, 27)) hE hP rfl (wd_at (M := u2) (show 137 < 155 by decide) (g_137 cy ad _))) rfl rfl hl.1 rfl (lv_room (Nat.le_of_ble_eq_true rfl)) dL_law_158 ⟨(show _ ≤ 601024 by omega), (show _ ≤ 7293034 by omega)⟩) (fun v9 hv9 => ?_)
  refine lv_iload hx hb dL_law_161 (lv_at hl 1 rfl) ?_
  refine lv_icmp_eq (tgt := 168) hx hb dL_law_163 (by decide) (fun c9 => ?_) (fun c9 => absurd (hv9.trans hcn.1) c9)
  refine lv_iload hx hb dL_law_168 (lv_at hl 1 rfl) ?_
  refine lv_if_ne (tgt := 185) hx hb dL_law_170 (by decide) (fun c8 => ?_) (fun c8 => ?_)
  · refine lv_goto (tgt := 1243) hx hb dL_law_185 (by decide) ?_
    refine W.widen (k := cells + 9) (n := slots + 38) (by omega) (by omega) ?_
    exact kk u2 _ _ ls hcn.2.2 hP hS (lv_sub hl [2, 3, 4, 5, 6] rfl)
  · have e8 := hcn.2.1 (c8.trans nI_0.symm)
    refine lv_aload_n hx hb dL_law_173 rfl (lv_at hl 5 rfl) ?_
    refine lv_iconst (v := nI 0) hx hb dL_law_174 (by decide) ?_
    refine va_lald (D := D) (cl := vwCl) hx hb hE.1 hP 154 2 (wd_at (by decide) (g_154 cy ad _)) rfl (vn_ins rfl (by decide : 0 < 1) (by decide)) dL_law_175 ?_
    refine lv_iload hx hb dL_law_176 (lv_at hl 0 rfl) ?_
    refine lv_i2l hx hb dL_law_178 rfl ?_
    refine W.lcmp hx hb dL_law_179 ?_
    refine wr_top (y := 0) (show lg_cmp ((u2 154 0).toInt64) (bb.toInt64) = 0 by rw [e8]; exact lc_0 _) ?_
    refine lv_if_eq (tgt := 185) hx hb dL_law_180 (by decide) (fun _ => ?_) (fun c7 => absurd rfl c7)
    refine lv_goto (tgt := 1243) hx hb dL_law_185 (by decide) ?_
    refine W.widen (k := cells + 9) (n := slots + 38) (by omega) (by omega) ?_
    exact kk u2 _ _ ls hcn.2.2 hP hS (lv_sub hl [2, 3, 4, 5, 6] rfl)
