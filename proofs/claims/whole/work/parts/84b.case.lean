/-! the law's cases, on -/
set_option maxHeartbeats 1000000 in
set_option maxRecDepth 100000 in
theorem kC_key {p : Program} {l : Launch} {e : Env} {s : State} {m : MethodId} {below : List Frame} {meth : Method} {c : Code} {b L : Nat} {xs : Nat → Int32} {D : va_G} {cy ad : Nat → Nat} (C0 : LC p l s m c b L xs D cy ad) {M : Mm} (hR : RR M) {i : Nat} (hi : i + 6 ≤ L) (hL : L ≤ 3072) {H : Heap} {locs : List Loc} {cells slots : Nat} {ls : Array Slot} {Q : State → Prop} (hP : va_P D vwCl (wd cy ad 155 M ++ []) H) (hS : va_S (AL s) s.heap H locs) (hc : cells + 9 ≤ 601024) (hs : slots + 38 ≤ 7293034) (hl : lv_has ls 7 [(0, .ref b), (1, .ref (ad 0)), (2, .ref (ad 137)), (3, .ref (ad 154)), (4, .int (nI i))])
    (kk : ∀ (M2 : Mm) (H2 : Heap) (locs2 : List Loc) (ls2 : Array Slot), RR M2 → va_P D vwCl (wd cy ad 155 M2 ++ []) H2 → va_S (AL s) s.heap H2 locs2 → lv_has ls2 7 [(0, .ref b), (1, .ref (ad 0)), (2, .ref (ad 137)), (3, .ref (ad 154)), (4, .int (nI i))] → W p l e room_1 s m #[Value.ref b] below meth c H2 locs2 (cells + 9) (slots + 38) Q (F0 m 1243 ls2 [])) : W p l e room_1 s m #[Value.ref b] below meth c H locs cells slots Q (F0 m 188 ls []) := by
  obtain ⟨hx, hb, hml, hown, hts, hX, hbl, hE, hXF, hN1, hN2, hN3, hN4, hD, hlt⟩ := C0
  obtain ⟨mc, rc, tc, d, b1, rs, sc, sr, h⟩ := hR
  have hA : ∀ q, s.heap.size ≤ q → AL s q := fun _ h => h
  have hbA : ¬ AL s b := Nat.not_le.mpr hbl
  obtain ⟨x0, ex0⟩ : ∃ y, y = xs (i + 1) := ⟨_, rfl⟩
  refine lv_aload_n hx hb dL_law_188 rfl (lv_at hl 1 rfl) ?_
  refine lv_aload_n hx hb dL_law_189 rfl (lv_at hl 0 rfl) ?_
  refine lv_iload hx hb dL_law_190 (lv_at hl 4 rfl) ?_
  refine lv_iconst (v := nI 1) hx hb dL_law_192 (by decide) ?_
  refine lv_iadd hx hb dL_law_193 ?_
  refine wr_top (y := nI (i + 1)) (nI_add _ _) ?_
  refine va_sld hx hb hX hbl hbA hS (vp_in_nI (show i + 1 < L by omega) (by omega)) dL_law_194 ?_
  refine wr_top (y := x0) ((congrArg xs (nI_clamp (by omega))).trans ex0.symm) ?_
  refine lv_aload_n hx hb dL_law_195 rfl (lv_at hl 3 rfl) ?_
  refine vx_calli (vx_runSX (hh := [(0, 9, 12, 13)]) (As := [.ref (ad 0), .int x0, .ref (ad 154)]) (rest := []) ⟨hx, hb, hml, hown, hts⟩ (kL_key l hD (by decide) (P := PC_key x0 M) (X := XC_key x0 M) (fun _ _ hx => hx.1) (kX5_key l hlt hD (by decide) )) (vx_cwSW 3 hts gL_law_L_key rfl rfl rfl (by decide +kernel) ⟨Nat.le_of_ble_eq_true rfl, Nat.le_of_ble_eq_true rfl⟩) (lp_ps hE hP hS hA hXF hN1 hN2 hN3 hN4) rfl rfl hl.1 rfl (lv_room (Nat.le_of_ble_eq_true rfl)) dL_law_196 ⟨(show cells + 1 ≤ 601024 by omega), (show slots + 6 ≤ 7293034 by omega)⟩) hS (fun q _ h => h) (fun q h => h) (fun q _ h => h) (fun E9 ce q9 u t H1 locs1 ht hvm hpx hBX hz1 hk1 hS hce hcv hcl => False.elim hBX) (fun r u1 t H1 locs ht hvm hw hB9 hz1 hk1 hS => ?_)
  have hw : WR_key x0 M r u1 := hw
  have hP : va_P D vwCl (wd cy ad 155 u1 ++ []) H1 := by rw [← ht]; exact hB9
  clear hB9 ht hvm hz1 hk1
  generalize H1 = H at hP hS ⊢
  obtain ⟨m1, m2, m3, m4, m5, m6, m7, m8, m9, m10⟩ := rm_of h (md_key h hw)
  refine lv_istore (lv' := [(5, .int r), (0, .ref b), (1, .ref (ad 0)), (2, .ref (ad 137)), (3, .ref (ad 154)), (4, .int (nI i))]) hx hb dL_law_199 hl (by decide) rfl (fun ls hl => ?_)
  refine lv_aload_n hx hb dL_law_201 rfl (lv_at hl 3 rfl) ?_
  refine lv_aload_n hx hb dL_law_202 rfl (lv_at hl 1 rfl) ?_
  refine lv_iload hx hb dL_law_203 (lv_at hl 5 rfl) ?_
  refine lv_iconst (v := nI 1) hx hb dL_law_205 (by decide) ?_
  refine lv_iadd hx hb dL_law_206 ?_
  refine wr_top (y := nI (i + 1)) (nI_add _ _) ?_
  refine va_sld hx hb hX hbl hbA hS (vp_in_nI (show i + 1 < L by omega) (by omega)) dL_law_207 ?_
  refine wr_top (y := x0) ((congrArg xs (nI_clamp (by omega))).trans ex0.symm) ?_
  refine va_calli (va_runV (As := [.int x0]) (rest := []) ⟨hx, hb, hml, hown, hts⟩ (kX6_key l hD (by decide) m10) (cwV 1 hts gL_law_X6_key rfl rfl rfl (by decide +kernel) ⟨Nat.le_of_ble_eq_true rfl, Nat.le_of_ble_eq_true rfl⟩) (rw_pv (ci := 5) (q := (RX6, TX6, 27)) hE hP hS hA rfl (wd_at (M := u1) (show 137 < 155 by decide) (g_137 cy ad _))) rfl rfl hl.1 rfl (lv_room (Nat.le_of_ble_eq_true rfl)) dL_law_208 ⟨(show cells + 1 + 0 ≤ 601024 by omega), (show slots + 6 + 0 ≤ 7293034 by omega)⟩) hS (fun q _ h => h) (fun q h => h) (fun bb u2 t H1 locs ht hvm hm hB9 hz1 hk1 hS => ?_)
  have hm : PM_key x0 u1 bb u2 := hm
  have hP : va_P D vwCl (wd cy ad 155 u2 ++ []) H1 := by rw [← ht]; exact hB9
  clear hB9 ht hvm hz1 hk1
  generalize H1 = H at hP hS ⊢
  have hcn := pq_key h hw hm
  refine lv_istore (lv' := [(6, .int bb), (5, .int r), (0, .ref b), (1, .ref (ad 0)), (2, .ref (ad 137)), (3, .ref (ad 154)), (4, .int (nI i))]) hx hb dL_law_211 hl (by decide) rfl (fun ls hl => ?_)
  refine lv_aload_n hx hb dL_law_213 rfl (lv_at hl 4 rfl) ?_
  refine vp_callSi (W.runV (As := []) (rest := []) ⟨hx, hb, hml, hown, hts⟩ (kX6_thrown l (M := u2) (by decide)) (cwV 0 hts gL_law_X6_thrown rfl rfl rfl (by decide +kernel) ⟨Nat.le_of_ble_eq_true rfl, Nat.le_of_ble_eq_true rfl⟩) (ro_pv (ci := 5) (q := (RX6, TX6, 27)) hE hP rfl (wd_at (M := u2) (show 137 < 155 by decide) (g_137 cy ad _))) rfl rfl hl.1 rfl (lv_room (Nat.le_of_ble_eq_true rfl)) dL_law_214 ⟨(show _ ≤ 601024 by omega), (show _ ≤ 7293034 by omega)⟩) (fun v9 hv9 => ?_)
  refine lv_iload hx hb dL_law_217 (lv_at hl 1 rfl) ?_
  refine lv_icmp_eq (tgt := 224) hx hb dL_law_219 (by decide) (fun c9 => ?_) (fun c9 => absurd (hv9.trans hcn.1) c9)
  refine lv_iload hx hb dL_law_224 (lv_at hl 1 rfl) ?_
  refine lv_if_ne (tgt := 241) hx hb dL_law_226 (by decide) (fun c8 => ?_) (fun c8 => ?_)
  · refine lv_goto (tgt := 1243) hx hb dL_law_241 (by decide) ?_
    refine W.widen (k := cells + 9) (n := slots + 38) (by omega) (by omega) ?_
    exact kk u2 _ _ ls hcn.2.2 hP hS (lv_sub hl [2, 3, 4, 5, 6] rfl)
  · have e8 := hcn.2.1 (c8.trans nI_0.symm)
    refine lv_aload_n hx hb dL_law_229 rfl (lv_at hl 5 rfl) ?_
    refine lv_iconst (v := nI 0) hx hb dL_law_230 (by decide) ?_
    refine va_lald (D := D) (cl := vwCl) hx hb hE.1 hP 154 2 (wd_at (by decide) (g_154 cy ad _)) rfl (vn_ins rfl (by decide : 0 < 1) (by decide)) dL_law_231 ?_
    refine lv_iload hx hb dL_law_232 (lv_at hl 0 rfl) ?_
    refine lv_i2l hx hb dL_law_234 rfl ?_
    refine W.lcmp hx hb dL_law_235 ?_
    refine wr_top (y := 0) (show lg_cmp ((u2 154 0).toInt64) (bb.toInt64) = 0 by rw [e8]; exact lc_0 _) ?_
    refine lv_if_eq (tgt := 241) hx hb dL_law_236 (by decide) (fun _ => ?_) (fun c7 => absurd rfl c7)
    refine lv_goto (tgt := 1243) hx hb dL_law_241 (by decide) ?_
    refine W.widen (k := cells + 9) (n := slots + 38) (by omega) (by omega) ?_
    exact kk u2 _ _ ls hcn.2.2 hP hS (lv_sub hl [2, 3, 4, 5, 6] rfl)

set_option maxHeartbeats 1000000 in
set_option maxRecDepth 100000 in
theorem kC_ring {p : Program} {l : Launch} {e : Env} {s : State} {m : MethodId} {below : List Frame} {meth : Method} {c : Code} {b L : Nat} {xs : Nat → Int32} {D : va_G} {cy ad : Nat → Nat} (C0 : LC p l s m c b L xs D cy ad) {M : Mm} (hR : RR M) {i : Nat} (hi : i + 6 ≤ L) (hL : L ≤ 3072) {H : Heap} {locs : List Loc} {cells slots : Nat} {ls : Array Slot} {Q : State → Prop} (hP : va_P D vwCl (wd cy ad 155 M ++ []) H) (hS : va_S (AL s) s.heap H locs) (hc : cells + 9 ≤ 601024) (hs : slots + 38 ≤ 7293034) (hl : lv_has ls 7 [(0, .ref b), (1, .ref (ad 0)), (2, .ref (ad 137)), (3, .ref (ad 154)), (4, .int (nI i))])
    (kk : ∀ (M2 : Mm) (H2 : Heap) (locs2 : List Loc) (ls2 : Array Slot), RR M2 → va_P D vwCl (wd cy ad 155 M2 ++ []) H2 → va_S (AL s) s.heap H2 locs2 → lv_has ls2 7 [(0, .ref b), (1, .ref (ad 0)), (2, .ref (ad 137)), (3, .ref (ad 154)), (4, .int (nI i))] → W p l e room_1 s m #[Value.ref b] below meth c H2 locs2 (cells + 9) (slots + 38) Q (F0 m 1243 ls2 [])) : W p l e room_1 s m #[Value.ref b] below meth c H locs cells slots Q (F0 m 244 ls []) := by
  obtain ⟨hx, hb, hml, hown, hts, hX, hbl, hE, hXF, hN1, hN2, hN3, hN4, hD, hlt⟩ := C0
  obtain ⟨mc, rc, tc, d, b1, rs, sc, sr, h⟩ := hR
  have hA : ∀ q, s.heap.size ≤ q → AL s q := fun _ h => h
  have hbA : ¬ AL s b := Nat.not_le.mpr hbl
  obtain ⟨x0, ex0⟩ : ∃ y, y = xs (i + 1) := ⟨_, rfl⟩
  refine lv_aload_n hx hb dL_law_244 rfl (lv_at hl 1 rfl) ?_
  refine lv_aload_n hx hb dL_law_245 rfl (lv_at hl 0 rfl) ?_
  refine lv_iload hx hb dL_law_246 (lv_at hl 4 rfl) ?_
  refine lv_iconst (v := nI 1) hx hb dL_law_248 (by decide) ?_
  refine lv_iadd hx hb dL_law_249 ?_
  refine wr_top (y := nI (i + 1)) (nI_add _ _) ?_
  refine va_sld hx hb hX hbl hbA hS (vp_in_nI (show i + 1 < L by omega) (by omega)) dL_law_250 ?_
  refine wr_top (y := x0) ((congrArg xs (nI_clamp (by omega))).trans ex0.symm) ?_
  refine lv_aload_n hx hb dL_law_251 rfl (lv_at hl 3 rfl) ?_
  refine vx_calli (vx_runSX (hh := [(0, 9, 12, 13), (0, 9, 15, 15)]) (As := [.ref (ad 0), .int x0, .ref (ad 154)]) (rest := []) ⟨hx, hb, hml, hown, hts⟩ (kL_ring l hD (by decide) (P := PC_ring mc rc x0 M) (X := XC_ring mc rc x0 M) (fun _ _ hx => hx.1.elim (fun q => Or.inl q.1) (fun q => Or.inr q.1)) (kX5_ring l hlt hD (by decide) (rl_cmc h) (rl_mc12 h) (rl_crc h) (rl_rc8 h) (rl_empt h))) (vx_cwSW 3 hts gL_law_L_ring rfl rfl rfl (by decide +kernel) ⟨Nat.le_of_ble_eq_true rfl, Nat.le_of_ble_eq_true rfl⟩) (lp_ps hE hP hS hA hXF hN1 hN2 hN3 hN4) rfl rfl hl.1 rfl (lv_room (Nat.le_of_ble_eq_true rfl)) dL_law_252 ⟨(show cells + 1 ≤ 601024 by omega), (show slots + 6 ≤ 7293034 by omega)⟩) hS (fun q _ h => h) (fun q h => h) (fun q _ h => h) (fun E9 ce q9 u t H1 locs1 ht hvm hpx hBX hz1 hk1 hS hce hcv hcl => False.elim hBX) (fun r u1 t H1 locs ht hvm hw hB9 hz1 hk1 hS => ?_)
  have hw : WR_ring mc rc x0 M r u1 := hw
  have hP : va_P D vwCl (wd cy ad 155 u1 ++ []) H1 := by rw [← ht]; exact hB9
  clear hB9 ht hvm hz1 hk1
  generalize H1 = H at hP hS ⊢
  obtain ⟨m1, m2, m3, m4, m5, m6, m7, m8, m9, m10⟩ := rm_of h (md_ring h hw)
  refine lv_istore (lv' := [(5, .int r), (0, .ref b), (1, .ref (ad 0)), (2, .ref (ad 137)), (3, .ref (ad 154)), (4, .int (nI i))]) hx hb dL_law_255 hl (by decide) rfl (fun ls hl => ?_)
  refine lv_aload_n hx hb dL_law_257 rfl (lv_at hl 3 rfl) ?_
  refine lv_aload_n hx hb dL_law_258 rfl (lv_at hl 1 rfl) ?_
  refine lv_iload hx hb dL_law_259 (lv_at hl 5 rfl) ?_
  refine lv_iconst (v := nI 1) hx hb dL_law_261 (by decide) ?_
  refine lv_iadd hx hb dL_law_262 ?_
  refine wr_top (y := nI (i + 1)) (nI_add _ _) ?_
  refine va_sld hx hb hX hbl hbA hS (vp_in_nI (show i + 1 < L by omega) (by omega)) dL_law_263 ?_
  refine wr_top (y := x0) ((congrArg xs (nI_clamp (by omega))).trans ex0.symm) ?_
  refine va_calli (va_runV (As := [.int x0]) (rest := []) ⟨hx, hb, hml, hown, hts⟩ (kX6_ring l hD (by decide) m1 (rl_mc12 h) m2 (rl_rc8 h)) (cwV 1 hts gL_law_X6_ring rfl rfl rfl (by decide +kernel) ⟨Nat.le_of_ble_eq_true rfl, Nat.le_of_ble_eq_true rfl⟩) (rw_pv (ci := 5) (q := (RX6, TX6, 27)) hE hP hS hA rfl (wd_at (M := u1) (show 137 < 155 by decide) (g_137 cy ad _))) rfl rfl hl.1 rfl (lv_room (Nat.le_of_ble_eq_true rfl)) dL_law_264 ⟨(show cells + 1 + 0 ≤ 601024 by omega), (show slots + 6 + 0 ≤ 7293034 by omega)⟩) hS (fun q _ h => h) (fun q h => h) (fun bb u2 t H1 locs ht hvm hm hB9 hz1 hk1 hS => ?_)
  have hm : PM_ring x0 mc rc u1 bb u2 := hm
  have hP : va_P D vwCl (wd cy ad 155 u2 ++ []) H1 := by rw [← ht]; exact hB9
  clear hB9 ht hvm hz1 hk1
  generalize H1 = H at hP hS ⊢
  have hcn := pq_ring h hw hm
  refine lv_istore (lv' := [(6, .int bb), (5, .int r), (0, .ref b), (1, .ref (ad 0)), (2, .ref (ad 137)), (3, .ref (ad 154)), (4, .int (nI i))]) hx hb dL_law_267 hl (by decide) rfl (fun ls hl => ?_)
  refine lv_aload_n hx hb dL_law_269 rfl (lv_at hl 4 rfl) ?_
  refine vp_callSi (W.runV (As := []) (rest := []) ⟨hx, hb, hml, hown, hts⟩ (kX6_thrown l (M := u2) (by decide)) (cwV 0 hts gL_law_X6_thrown rfl rfl rfl (by decide +kernel) ⟨Nat.le_of_ble_eq_true rfl, Nat.le_of_ble_eq_true rfl⟩) (ro_pv (ci := 5) (q := (RX6, TX6, 27)) hE hP rfl (wd_at (M := u2) (show 137 < 155 by decide) (g_137 cy ad _))) rfl rfl hl.1 rfl (lv_room (Nat.le_of_ble_eq_true rfl)) dL_law_270 ⟨(show _ ≤ 601024 by omega), (show _ ≤ 7293034 by omega)⟩) (fun v9 hv9 => ?_)
  refine lv_iload hx hb dL_law_273 (lv_at hl 1 rfl) ?_
  refine lv_icmp_eq (tgt := 280) hx hb dL_law_275 (by decide) (fun c9 => ?_) (fun c9 => absurd (hv9.trans hcn.1) c9)
  refine lv_iload hx hb dL_law_280 (lv_at hl 1 rfl) ?_
  refine lv_if_ne (tgt := 297) hx hb dL_law_282 (by decide) (fun c8 => ?_) (fun c8 => ?_)
  · refine lv_goto (tgt := 1243) hx hb dL_law_297 (by decide) ?_
    refine W.widen (k := cells + 9) (n := slots + 38) (by omega) (by omega) ?_
    exact kk u2 _ _ ls hcn.2.2 hP hS (lv_sub hl [2, 3, 4, 5, 6] rfl)
  · have e8 := hcn.2.1 (c8.trans nI_0.symm)
    refine lv_aload_n hx hb dL_law_285 rfl (lv_at hl 5 rfl) ?_
    refine lv_iconst (v := nI 0) hx hb dL_law_286 (by decide) ?_
    refine va_lald (D := D) (cl := vwCl) hx hb hE.1 hP 154 2 (wd_at (by decide) (g_154 cy ad _)) rfl (vn_ins rfl (by decide : 0 < 1) (by decide)) dL_law_287 ?_
    refine lv_iload hx hb dL_law_288 (lv_at hl 0 rfl) ?_
    refine lv_i2l hx hb dL_law_290 rfl ?_
    refine W.lcmp hx hb dL_law_291 ?_
    refine wr_top (y := 0) (show lg_cmp ((u2 154 0).toInt64) (bb.toInt64) = 0 by rw [e8]; exact lc_0 _) ?_
    refine lv_if_eq (tgt := 297) hx hb dL_law_292 (by decide) (fun _ => ?_) (fun c7 => absurd rfl c7)
    refine lv_goto (tgt := 1243) hx hb dL_law_297 (by decide) ?_
    refine W.widen (k := cells + 9) (n := slots + 38) (by omega) (by omega) ?_
    exact kk u2 _ _ ls hcn.2.2 hP hS (lv_sub hl [2, 3, 4, 5, 6] rfl)

set_option maxHeartbeats 1000000 in
set_option maxRecDepth 100000 in
theorem kC_topic {p : Program} {l : Launch} {e : Env} {s : State} {m : MethodId} {below : List Frame} {meth : Method} {c : Code} {b L : Nat} {xs : Nat → Int32} {D : va_G} {cy ad : Nat → Nat} (C0 : LC p l s m c b L xs D cy ad) {M : Mm} (hR : RR M) {i : Nat} (hi : i + 6 ≤ L) (hL : L ≤ 3072) {H : Heap} {locs : List Loc} {cells slots : Nat} {ls : Array Slot} {Q : State → Prop} (hP : va_P D vwCl (wd cy ad 155 M ++ []) H) (hS : va_S (AL s) s.heap H locs) (hc : cells + 9 ≤ 601024) (hs : slots + 38 ≤ 7293034) (hl : lv_has ls 7 [(0, .ref b), (1, .ref (ad 0)), (2, .ref (ad 137)), (3, .ref (ad 154)), (4, .int (nI i))])
    (kk : ∀ (M2 : Mm) (H2 : Heap) (locs2 : List Loc) (ls2 : Array Slot), RR M2 → va_P D vwCl (wd cy ad 155 M2 ++ []) H2 → va_S (AL s) s.heap H2 locs2 → lv_has ls2 7 [(0, .ref b), (1, .ref (ad 0)), (2, .ref (ad 137)), (3, .ref (ad 154)), (4, .int (nI i))] → W p l e room_1 s m #[Value.ref b] below meth c H2 locs2 (cells + 9) (slots + 38) Q (F0 m 1243 ls2 [])) : W p l e room_1 s m #[Value.ref b] below meth c H locs cells slots Q (F0 m 300 ls []) := by
  obtain ⟨hx, hb, hml, hown, hts, hX, hbl, hE, hXF, hN1, hN2, hN3, hN4, hD, hlt⟩ := C0
  obtain ⟨mc, rc, tc, d, b1, rs, sc, sr, h⟩ := hR
  have hA : ∀ q, s.heap.size ≤ q → AL s q := fun _ h => h
  have hbA : ¬ AL s b := Nat.not_le.mpr hbl
  obtain ⟨x0, ex0⟩ : ∃ y, y = xs (i + 1) := ⟨_, rfl⟩
  refine lv_aload_n hx hb dL_law_300 rfl (lv_at hl 1 rfl) ?_
  refine lv_aload_n hx hb dL_law_301 rfl (lv_at hl 0 rfl) ?_
  refine lv_iload hx hb dL_law_302 (lv_at hl 4 rfl) ?_
  refine lv_iconst (v := nI 1) hx hb dL_law_304 (by decide) ?_
  refine lv_iadd hx hb dL_law_305 ?_
  refine wr_top (y := nI (i + 1)) (nI_add _ _) ?_
  refine va_sld hx hb hX hbl hbA hS (vp_in_nI (show i + 1 < L by omega) (by omega)) dL_law_306 ?_
  refine wr_top (y := x0) ((congrArg xs (nI_clamp (by omega))).trans ex0.symm) ?_
  refine lv_aload_n hx hb dL_law_307 rfl (lv_at hl 3 rfl) ?_
  refine vx_calli (vx_runSX (hh := [(0, 9, 12, 15)]) (As := [.ref (ad 0), .int x0, .ref (ad 154)]) (rest := []) ⟨hx, hb, hml, hown, hts⟩ (kL_topic l hD (by decide) (P := PC_topic tc x0 M) (X := XC_topic tc x0 M) (fun _ _ hx => hx.1) (kX5_topic l hlt hD (by decide) (rl_ctc h) (rl_tc6 h))) (vx_cwSW 3 hts gL_law_L_topic rfl rfl rfl (by decide +kernel) ⟨Nat.le_of_ble_eq_true rfl, Nat.le_of_ble_eq_true rfl⟩) (lp_ps hE hP hS hA hXF hN1 hN2 hN3 hN4) rfl rfl hl.1 rfl (lv_room (Nat.le_of_ble_eq_true rfl)) dL_law_308 ⟨(show cells + 1 ≤ 601024 by omega), (show slots + 6 ≤ 7293034 by omega)⟩) hS (fun q _ h => h) (fun q h => h) (fun q _ h => h) (fun E9 ce q9 u t H1 locs1 ht hvm hpx hBX hz1 hk1 hS hce hcv hcl => False.elim hBX) (fun r u1 t H1 locs ht hvm hw hB9 hz1 hk1 hS => ?_)
  have hw : WR_topic tc x0 M r u1 := hw
  have hP : va_P D vwCl (wd cy ad 155 u1 ++ []) H1 := by rw [← ht]; exact hB9
  clear hB9 ht hvm hz1 hk1
  generalize H1 = H at hP hS ⊢
  obtain ⟨m1, m2, m3, m4, m5, m6, m7, m8, m9, m10⟩ := rm_of h (md_topic h hw)
  refine lv_istore (lv' := [(5, .int r), (0, .ref b), (1, .ref (ad 0)), (2, .ref (ad 137)), (3, .ref (ad 154)), (4, .int (nI i))]) hx hb dL_law_311 hl (by decide) rfl (fun ls hl => ?_)
  refine lv_aload_n hx hb dL_law_313 rfl (lv_at hl 3 rfl) ?_
  refine lv_aload_n hx hb dL_law_314 rfl (lv_at hl 1 rfl) ?_
  refine lv_iload hx hb dL_law_315 (lv_at hl 5 rfl) ?_
  refine lv_iconst (v := nI 1) hx hb dL_law_317 (by decide) ?_
  refine lv_iadd hx hb dL_law_318 ?_
  refine wr_top (y := nI (i + 1)) (nI_add _ _) ?_
  refine va_sld hx hb hX hbl hbA hS (vp_in_nI (show i + 1 < L by omega) (by omega)) dL_law_319 ?_
  refine wr_top (y := x0) ((congrArg xs (nI_clamp (by omega))).trans ex0.symm) ?_
  refine va_calli (va_runV (As := [.int x0]) (rest := []) ⟨hx, hb, hml, hown, hts⟩ (kX6_topic l hD (by decide) m3 (rl_tc6 h) m10) (cwV 1 hts gL_law_X6_topic rfl rfl rfl (by decide +kernel) ⟨Nat.le_of_ble_eq_true rfl, Nat.le_of_ble_eq_true rfl⟩) (rw_pv (ci := 5) (q := (RX6, TX6, 27)) hE hP hS hA rfl (wd_at (M := u1) (show 137 < 155 by decide) (g_137 cy ad _))) rfl rfl hl.1 rfl (lv_room (Nat.le_of_ble_eq_true rfl)) dL_law_320 ⟨(show cells + 1 + 0 ≤ 601024 by omega), (show slots + 6 + 0 ≤ 7293034 by omega)⟩) hS (fun q _ h => h) (fun q h => h) (fun bb u2 t H1 locs ht hvm hm hB9 hz1 hk1 hS => ?_)
  have hm : PM_topic tc x0 u1 bb u2 := hm
  have hP : va_P D vwCl (wd cy ad 155 u2 ++ []) H1 := by rw [← ht]; exact hB9
  clear hB9 ht hvm hz1 hk1
  generalize H1 = H at hP hS ⊢
  have hcn := pq_topic h hw hm
  refine lv_istore (lv' := [(6, .int bb), (5, .int r), (0, .ref b), (1, .ref (ad 0)), (2, .ref (ad 137)), (3, .ref (ad 154)), (4, .int (nI i))]) hx hb dL_law_323 hl (by decide) rfl (fun ls hl => ?_)
  refine lv_aload_n hx hb dL_law_325 rfl (lv_at hl 4 rfl) ?_
  refine vp_callSi (W.runV (As := []) (rest := []) ⟨hx, hb, hml, hown, hts⟩ (kX6_thrown l (M := u2) (by decide)) (cwV 0 hts gL_law_X6_thrown rfl rfl rfl (by decide +kernel) ⟨Nat.le_of_ble_eq_true rfl, Nat.le_of_ble_eq_true rfl⟩) (ro_pv (ci := 5) (q := (RX6, TX6, 27)) hE hP rfl (wd_at (M := u2) (show 137 < 155 by decide) (g_137 cy ad _))) rfl rfl hl.1 rfl (lv_room (Nat.le_of_ble_eq_true rfl)) dL_law_326 ⟨(show _ ≤ 601024 by omega), (show _ ≤ 7293034 by omega)⟩) (fun v9 hv9 => ?_)
  refine lv_iload hx hb dL_law_329 (lv_at hl 1 rfl) ?_
  refine lv_icmp_eq (tgt := 336) hx hb dL_law_331 (by decide) (fun c9 => ?_) (fun c9 => absurd (hv9.trans hcn.1) c9)
  refine lv_iload hx hb dL_law_336 (lv_at hl 1 rfl) ?_
  refine lv_if_ne (tgt := 353) hx hb dL_law_338 (by decide) (fun c8 => ?_) (fun c8 => ?_)
  · refine lv_goto (tgt := 1243) hx hb dL_law_353 (by decide) ?_
    refine W.widen (k := cells + 9) (n := slots + 38) (by omega) (by omega) ?_
    exact kk u2 _ _ ls hcn.2.2 hP hS (lv_sub hl [2, 3, 4, 5, 6] rfl)
  · have e8 := hcn.2.1 (c8.trans nI_0.symm)
    refine lv_aload_n hx hb dL_law_341 rfl (lv_at hl 5 rfl) ?_
    refine lv_iconst (v := nI 0) hx hb dL_law_342 (by decide) ?_
    refine va_lald (D := D) (cl := vwCl) hx hb hE.1 hP 154 2 (wd_at (by decide) (g_154 cy ad _)) rfl (vn_ins rfl (by decide : 0 < 1) (by decide)) dL_law_343 ?_
    refine lv_iload hx hb dL_law_344 (lv_at hl 0 rfl) ?_
    refine lv_i2l hx hb dL_law_346 rfl ?_
    refine W.lcmp hx hb dL_law_347 ?_
    refine wr_top (y := 0) (show lg_cmp ((u2 154 0).toInt64) (bb.toInt64) = 0 by rw [e8]; exact lc_0 _) ?_
    refine lv_if_eq (tgt := 353) hx hb dL_law_348 (by decide) (fun _ => ?_) (fun c7 => absurd rfl c7)
    refine lv_goto (tgt := 1243) hx hb dL_law_353 (by decide) ?_
    refine W.widen (k := cells + 9) (n := slots + 38) (by omega) (by omega) ?_
    exact kk u2 _ _ ls hcn.2.2 hP hS (lv_sub hl [2, 3, 4, 5, 6] rfl)

set_option maxHeartbeats 1000000 in
set_option maxRecDepth 100000 in
theorem kC_base {p : Program} {l : Launch} {e : Env} {s : State} {m : MethodId} {below : List Frame} {meth : Method} {c : Code} {b L : Nat} {xs : Nat → Int32} {D : va_G} {cy ad : Nat → Nat} (C0 : LC p l s m c b L xs D cy ad) {M : Mm} (hR : RR M) {i : Nat} (hi : i + 6 ≤ L) (hL : L ≤ 3072) {H : Heap} {locs : List Loc} {cells slots : Nat} {ls : Array Slot} {Q : State → Prop} (hP : va_P D vwCl (wd cy ad 155 M ++ []) H) (hS : va_S (AL s) s.heap H locs) (hc : cells + 9 ≤ 601024) (hs : slots + 38 ≤ 7293034) (hl : lv_has ls 7 [(0, .ref b), (1, .ref (ad 0)), (2, .ref (ad 137)), (3, .ref (ad 154)), (4, .int (nI i))])
    (kk : ∀ (M2 : Mm) (H2 : Heap) (locs2 : List Loc) (ls2 : Array Slot), RR M2 → va_P D vwCl (wd cy ad 155 M2 ++ []) H2 → va_S (AL s) s.heap H2 locs2 → lv_has ls2 7 [(0, .ref b), (1, .ref (ad 0)), (2, .ref (ad 137)), (3, .ref (ad 154)), (4, .int (nI i))] → W p l e room_1 s m #[Value.ref b] below meth c H2 locs2 (cells + 9) (slots + 38) Q (F0 m 1243 ls2 [])) : W p l e room_1 s m #[Value.ref b] below meth c H locs cells slots Q (F0 m 356 ls []) := by
  obtain ⟨hx, hb, hml, hown, hts, hX, hbl, hE, hXF, hN1, hN2, hN3, hN4, hD, hlt⟩ := C0
  obtain ⟨mc, rc, tc, d, b1, rs, sc, sr, h⟩ := hR
  have hA : ∀ q, s.heap.size ≤ q → AL s q := fun _ h => h
  have hbA : ¬ AL s b := Nat.not_le.mpr hbl
  obtain ⟨x0, ex0⟩ : ∃ y, y = xs (i + 1) := ⟨_, rfl⟩
  refine lv_aload_n hx hb dL_law_356 rfl (lv_at hl 1 rfl) ?_
  refine lv_aload_n hx hb dL_law_357 rfl (lv_at hl 0 rfl) ?_
  refine lv_iload hx hb dL_law_358 (lv_at hl 4 rfl) ?_
  refine lv_iconst (v := nI 1) hx hb dL_law_360 (by decide) ?_
  refine lv_iadd hx hb dL_law_361 ?_
  refine wr_top (y := nI (i + 1)) (nI_add _ _) ?_
  refine va_sld hx hb hX hbl hbA hS (vp_in_nI (show i + 1 < L by omega) (by omega)) dL_law_362 ?_
  refine wr_top (y := x0) ((congrArg xs (nI_clamp (by omega))).trans ex0.symm) ?_
  refine lv_aload_n hx hb dL_law_363 rfl (lv_at hl 3 rfl) ?_
  refine vx_calli (vx_runSX (hh := [(0, 9, 12, 13)]) (As := [.ref (ad 0), .int x0, .ref (ad 154)]) (rest := []) ⟨hx, hb, hml, hown, hts⟩ (kL_base l hD (by decide) (P := PC_base tc x0 M) (X := XC_base tc x0 M) (fun _ _ hx => hx.1) (kX5_base l hlt hD (by decide) (rl_ctc h) (rl_tc6 h))) (vx_cwSW 3 hts gL_law_L_base rfl rfl rfl (by decide +kernel) ⟨Nat.le_of_ble_eq_true rfl, Nat.le_of_ble_eq_true rfl⟩) (lp_ps hE hP hS hA hXF hN1 hN2 hN3 hN4) rfl rfl hl.1 rfl (lv_room (Nat.le_of_ble_eq_true rfl)) dL_law_364 ⟨(show cells + 1 ≤ 601024 by omega), (show slots + 6 ≤ 7293034 by omega)⟩) hS (fun q _ h => h) (fun q h => h) (fun q _ h => h) (fun E9 ce q9 u t H1 locs1 ht hvm hpx hBX hz1 hk1 hS hce hcv hcl => False.elim hBX) (fun r u1 t H1 locs ht hvm hw hB9 hz1 hk1 hS => ?_)
  have hw : WR_base tc x0 M r u1 := hw
  have hP : va_P D vwCl (wd cy ad 155 u1 ++ []) H1 := by rw [← ht]; exact hB9
  clear hB9 ht hvm hz1 hk1
  generalize H1 = H at hP hS ⊢
  obtain ⟨m1, m2, m3, m4, m5, m6, m7, m8, m9, m10⟩ := rm_of h (md_base h hw)
  refine lv_istore (lv' := [(5, .int r), (0, .ref b), (1, .ref (ad 0)), (2, .ref (ad 137)), (3, .ref (ad 154)), (4, .int (nI i))]) hx hb dL_law_367 hl (by decide) rfl (fun ls hl => ?_)
  refine lv_aload_n hx hb dL_law_369 rfl (lv_at hl 3 rfl) ?_
  refine lv_aload_n hx hb dL_law_370 rfl (lv_at hl 1 rfl) ?_
  refine lv_iload hx hb dL_law_371 (lv_at hl 5 rfl) ?_
  refine lv_iconst (v := nI 1) hx hb dL_law_373 (by decide) ?_
  refine lv_iadd hx hb dL_law_374 ?_
  refine wr_top (y := nI (i + 1)) (nI_add _ _) ?_
  refine va_sld hx hb hX hbl hbA hS (vp_in_nI (show i + 1 < L by omega) (by omega)) dL_law_375 ?_
  refine wr_top (y := x0) ((congrArg xs (nI_clamp (by omega))).trans ex0.symm) ?_
  refine va_calli (va_runV (As := [.int x0]) (rest := []) ⟨hx, hb, hml, hown, hts⟩ (kX6_base l hD (by decide) m3 (rl_tc6 h)) (cwV 1 hts gL_law_X6_base rfl rfl rfl (by decide +kernel) ⟨Nat.le_of_ble_eq_true rfl, Nat.le_of_ble_eq_true rfl⟩) (rw_pv (ci := 5) (q := (RX6, TX6, 27)) hE hP hS hA rfl (wd_at (M := u1) (show 137 < 155 by decide) (g_137 cy ad _))) rfl rfl hl.1 rfl (lv_room (Nat.le_of_ble_eq_true rfl)) dL_law_376 ⟨(show cells + 1 + 0 ≤ 601024 by omega), (show slots + 6 + 0 ≤ 7293034 by omega)⟩) hS (fun q _ h => h) (fun q h => h) (fun bb u2 t H1 locs ht hvm hm hB9 hz1 hk1 hS => ?_)
  have hm : PM_base tc x0 u1 bb u2 := hm
  have hP : va_P D vwCl (wd cy ad 155 u2 ++ []) H1 := by rw [← ht]; exact hB9
  clear hB9 ht hvm hz1 hk1
  generalize H1 = H at hP hS ⊢
  have hcn := pq_base h hw hm
  refine lv_istore (lv' := [(6, .int bb), (5, .int r), (0, .ref b), (1, .ref (ad 0)), (2, .ref (ad 137)), (3, .ref (ad 154)), (4, .int (nI i))]) hx hb dL_law_379 hl (by decide) rfl (fun ls hl => ?_)
  refine lv_aload_n hx hb dL_law_381 rfl (lv_at hl 4 rfl) ?_
  refine vp_callSi (W.runV (As := []) (rest := []) ⟨hx, hb, hml, hown, hts⟩ (kX6_thrown l (M := u2) (by decide)) (cwV 0 hts gL_law_X6_thrown rfl rfl rfl (by decide +kernel) ⟨Nat.le_of_ble_eq_true rfl, Nat.le_of_ble_eq_true rfl⟩) (ro_pv (ci := 5) (q := (RX6, TX6, 27)) hE hP rfl (wd_at (M := u2) (show 137 < 155 by decide) (g_137 cy ad _))) rfl rfl hl.1 rfl (lv_room (Nat.le_of_ble_eq_true rfl)) dL_law_382 ⟨(show _ ≤ 601024 by omega), (show _ ≤ 7293034 by omega)⟩) (fun v9 hv9 => ?_)
  refine lv_iload hx hb dL_law_385 (lv_at hl 1 rfl) ?_
  refine lv_icmp_eq (tgt := 392) hx hb dL_law_387 (by decide) (fun c9 => ?_) (fun c9 => absurd (hv9.trans hcn.1) c9)
  refine lv_iload hx hb dL_law_392 (lv_at hl 1 rfl) ?_
  refine lv_if_ne (tgt := 409) hx hb dL_law_394 (by decide) (fun c8 => ?_) (fun c8 => ?_)
  · refine lv_goto (tgt := 1243) hx hb dL_law_409 (by decide) ?_
    refine W.widen (k := cells + 9) (n := slots + 38) (by omega) (by omega) ?_
    exact kk u2 _ _ ls hcn.2.2 hP hS (lv_sub hl [2, 3, 4, 5, 6] rfl)
  · have e8 := hcn.2.1 (c8.trans nI_0.symm)
    refine lv_aload_n hx hb dL_law_397 rfl (lv_at hl 5 rfl) ?_
    refine lv_iconst (v := nI 0) hx hb dL_law_398 (by decide) ?_
    refine va_lald (D := D) (cl := vwCl) hx hb hE.1 hP 154 2 (wd_at (by decide) (g_154 cy ad _)) rfl (vn_ins rfl (by decide : 0 < 1) (by decide)) dL_law_399 ?_
    refine lv_iload hx hb dL_law_400 (lv_at hl 0 rfl) ?_
    refine lv_i2l hx hb dL_law_402 rfl ?_
    refine W.lcmp hx hb dL_law_403 ?_
    refine wr_top (y := 0) (show lg_cmp ((u2 154 0).toInt64) (bb.toInt64) = 0 by rw [e8]; exact lc_0 _) ?_
    refine lv_if_eq (tgt := 409) hx hb dL_law_404 (by decide) (fun _ => ?_) (fun c7 => absurd rfl c7)
    refine lv_goto (tgt := 1243) hx hb dL_law_409 (by decide) ?_
    refine W.widen (k := cells + 9) (n := slots + 38) (by omega) (by omega) ?_
    exact kk u2 _ _ ls hcn.2.2 hP hS (lv_sub hl [2, 3, 4, 5, 6] rfl)

set_option maxHeartbeats 1000000 in
set_option maxRecDepth 100000 in
theorem kC_sign {p : Program} {l : Launch} {e : Env} {s : State} {m : MethodId} {below : List Frame} {meth : Method} {c : Code} {b L : Nat} {xs : Nat → Int32} {D : va_G} {cy ad : Nat → Nat} (C0 : LC p l s m c b L xs D cy ad) {M : Mm} (hR : RR M) {i : Nat} (hi : i + 6 ≤ L) (hL : L ≤ 3072) {H : Heap} {locs : List Loc} {cells slots : Nat} {ls : Array Slot} {Q : State → Prop} (hP : va_P D vwCl (wd cy ad 155 M ++ []) H) (hS : va_S (AL s) s.heap H locs) (hc : cells + 9 ≤ 601024) (hs : slots + 38 ≤ 7293034) (hl : lv_has ls 7 [(0, .ref b), (1, .ref (ad 0)), (2, .ref (ad 137)), (3, .ref (ad 154)), (4, .int (nI i))])
    (kk : ∀ (M2 : Mm) (H2 : Heap) (locs2 : List Loc) (ls2 : Array Slot), RR M2 → va_P D vwCl (wd cy ad 155 M2 ++ []) H2 → va_S (AL s) s.heap H2 locs2 → lv_has ls2 7 [(0, .ref b), (1, .ref (ad 0)), (2, .ref (ad 137)), (3, .ref (ad 154)), (4, .int (nI i))] → W p l e room_1 s m #[Value.ref b] below meth c H2 locs2 (cells + 9) (slots + 38) Q (F0 m 1243 ls2 [])) : W p l e room_1 s m #[Value.ref b] below meth c H locs cells slots Q (F0 m 412 ls []) := by
  obtain ⟨hx, hb, hml, hown, hts, hX, hbl, hE, hXF, hN1, hN2, hN3, hN4, hD, hlt⟩ := C0
  obtain ⟨mc, rc, tc, d, b1, rs, sc, sr, h⟩ := hR
  have hA : ∀ q, s.heap.size ≤ q → AL s q := fun _ h => h
  have hbA : ¬ AL s b := Nat.not_le.mpr hbl
  obtain ⟨x0, ex0⟩ : ∃ y, y = xs (i + 1) := ⟨_, rfl⟩
  obtain ⟨x1, ex1⟩ : ∃ y, y = xs (i + 2) := ⟨_, rfl⟩
  obtain ⟨x2, ex2⟩ : ∃ y, y = xs (i + 3) := ⟨_, rfl⟩
  obtain ⟨x3, ex3⟩ : ∃ y, y = xs (i + 4) := ⟨_, rfl⟩
  obtain ⟨x4, ex4⟩ : ∃ y, y = xs (i + 5) := ⟨_, rfl⟩
  refine lv_aload_n hx hb dL_law_412 rfl (lv_at hl 1 rfl) ?_
  refine lv_aload_n hx hb dL_law_413 rfl (lv_at hl 0 rfl) ?_
  refine lv_iload hx hb dL_law_414 (lv_at hl 4 rfl) ?_
  refine lv_iconst (v := nI 1) hx hb dL_law_416 (by decide) ?_
  refine lv_iadd hx hb dL_law_417 ?_
  refine wr_top (y := nI (i + 1)) (nI_add _ _) ?_
  refine va_sld hx hb hX hbl hbA hS (vp_in_nI (show i + 1 < L by omega) (by omega)) dL_law_418 ?_
  refine wr_top (y := x0) ((congrArg xs (nI_clamp (by omega))).trans ex0.symm) ?_
  refine lv_aload_n hx hb dL_law_419 rfl (lv_at hl 0 rfl) ?_
  refine lv_iload hx hb dL_law_420 (lv_at hl 4 rfl) ?_
  refine lv_iconst (v := nI 2) hx hb dL_law_422 (by decide) ?_
  refine lv_iadd hx hb dL_law_423 ?_
  refine wr_top (y := nI (i + 2)) (nI_add _ _) ?_
  refine va_sld hx hb hX hbl hbA hS (vp_in_nI (show i + 2 < L by omega) (by omega)) dL_law_424 ?_
  refine wr_top (y := x1) ((congrArg xs (nI_clamp (by omega))).trans ex1.symm) ?_
  refine lv_aload_n hx hb dL_law_425 rfl (lv_at hl 0 rfl) ?_
  refine lv_iload hx hb dL_law_426 (lv_at hl 4 rfl) ?_
  refine lv_iconst (v := nI 3) hx hb dL_law_428 (by decide) ?_
  refine lv_iadd hx hb dL_law_429 ?_
  refine wr_top (y := nI (i + 3)) (nI_add _ _) ?_
  refine va_sld hx hb hX hbl hbA hS (vp_in_nI (show i + 3 < L by omega) (by omega)) dL_law_430 ?_
  refine wr_top (y := x2) ((congrArg xs (nI_clamp (by omega))).trans ex2.symm) ?_
  refine lv_aload_n hx hb dL_law_431 rfl (lv_at hl 0 rfl) ?_
  refine lv_iload hx hb dL_law_432 (lv_at hl 4 rfl) ?_
  refine lv_iconst (v := nI 4) hx hb dL_law_434 (by decide) ?_
  refine lv_iadd hx hb dL_law_435 ?_
  refine wr_top (y := nI (i + 4)) (nI_add _ _) ?_
  refine va_sld hx hb hX hbl hbA hS (vp_in_nI (show i + 4 < L by omega) (by omega)) dL_law_436 ?_
  refine wr_top (y := x3) ((congrArg xs (nI_clamp (by omega))).trans ex3.symm) ?_
  refine lv_aload_n hx hb dL_law_437 rfl (lv_at hl 0 rfl) ?_
  refine lv_iload hx hb dL_law_438 (lv_at hl 4 rfl) ?_
  refine lv_iconst (v := nI 5) hx hb dL_law_440 (by decide) ?_
  refine lv_iadd hx hb dL_law_441 ?_
  refine wr_top (y := nI (i + 5)) (nI_add _ _) ?_
  refine va_sld hx hb hX hbl hbA hS (vp_in_nI (show i + 5 < L by omega) (by omega)) dL_law_442 ?_
  refine wr_top (y := x4) ((congrArg xs (nI_clamp (by omega))).trans ex4.symm) ?_
  refine lv_aload_n hx hb dL_law_443 rfl (lv_at hl 3 rfl) ?_
  refine vx_calli (vx_runSX (hh := [(0, 16, 19, 13)]) (As := [.ref (ad 0), .int x0, .int x1, .int x2, .int x3, .int x4, .ref (ad 154)]) (rest := []) ⟨hx, hb, hml, hown, hts⟩ (kL_sign l hD (by decide) (P := PC_sign rc tc rs x0 x1 x2 x3 x4 M) (X := XC_sign rc tc rs x0 x1 x2 x3 x4 M) (fun _ _ hx => hx.1) (kX5_sign l hlt hD (by decide) (rl_crc h) (rl_rc8 h) (rl_ctc h) (rl_tc6 h) (rl_crg h) (rl_cbs h))) (vx_cwSW 7 hts gL_law_L_sign rfl rfl rfl (by decide +kernel) ⟨Nat.le_of_ble_eq_true rfl, Nat.le_of_ble_eq_true rfl⟩) (lp_ps hE hP hS hA hXF hN1 hN2 hN3 hN4) rfl rfl hl.1 rfl (lv_room (Nat.le_of_ble_eq_true rfl)) dL_law_444 ⟨(show cells + 3 ≤ 601024 by omega), (show slots + 18 ≤ 7293034 by omega)⟩) hS (fun q _ h => h) (fun q h => h) (fun q _ h => h) (fun E9 ce q9 u t H1 locs1 ht hvm hpx hBX hz1 hk1 hS hce hcv hcl => False.elim hBX) (fun r u1 t H1 locs ht hvm hw hB9 hz1 hk1 hS => ?_)
  have hw : WR_sign rc tc rs x0 x1 x2 x3 x4 M r u1 := hw
  have hP : va_P D vwCl (wd cy ad 155 u1 ++ []) H1 := by rw [← ht]; exact hB9
  clear hB9 ht hvm hz1 hk1
  generalize H1 = H at hP hS ⊢
  obtain ⟨m1, m2, m3, m4, m5, m6, m7, m8, m9, m10⟩ := rm_of h (md_sign h hw)
  refine lv_istore (lv' := [(5, .int r), (0, .ref b), (1, .ref (ad 0)), (2, .ref (ad 137)), (3, .ref (ad 154)), (4, .int (nI i))]) hx hb dL_law_447 hl (by decide) rfl (fun ls hl => ?_)
  refine lv_aload_n hx hb dL_law_449 rfl (lv_at hl 3 rfl) ?_
  refine lv_aload_n hx hb dL_law_450 rfl (lv_at hl 1 rfl) ?_
  refine lv_iload hx hb dL_law_451 (lv_at hl 5 rfl) ?_
  refine lv_iconst (v := nI 1) hx hb dL_law_453 (by decide) ?_
  refine lv_iadd hx hb dL_law_454 ?_
  refine wr_top (y := nI (i + 1)) (nI_add _ _) ?_
  refine va_sld hx hb hX hbl hbA hS (vp_in_nI (show i + 1 < L by omega) (by omega)) dL_law_455 ?_
  refine wr_top (y := x0) ((congrArg xs (nI_clamp (by omega))).trans ex0.symm) ?_
  refine lv_aload_n hx hb dL_law_456 rfl (lv_at hl 1 rfl) ?_
  refine lv_iload hx hb dL_law_457 (lv_at hl 5 rfl) ?_
  refine lv_iconst (v := nI 2) hx hb dL_law_459 (by decide) ?_
  refine lv_iadd hx hb dL_law_460 ?_
  refine wr_top (y := nI (i + 2)) (nI_add _ _) ?_
  refine va_sld hx hb hX hbl hbA hS (vp_in_nI (show i + 2 < L by omega) (by omega)) dL_law_461 ?_
  refine wr_top (y := x1) ((congrArg xs (nI_clamp (by omega))).trans ex1.symm) ?_
  refine lv_aload_n hx hb dL_law_462 rfl (lv_at hl 1 rfl) ?_
  refine lv_iload hx hb dL_law_463 (lv_at hl 5 rfl) ?_
  refine lv_iconst (v := nI 3) hx hb dL_law_465 (by decide) ?_
  refine lv_iadd hx hb dL_law_466 ?_
  refine wr_top (y := nI (i + 3)) (nI_add _ _) ?_
  refine va_sld hx hb hX hbl hbA hS (vp_in_nI (show i + 3 < L by omega) (by omega)) dL_law_467 ?_
  refine wr_top (y := x2) ((congrArg xs (nI_clamp (by omega))).trans ex2.symm) ?_
  refine lv_aload_n hx hb dL_law_468 rfl (lv_at hl 1 rfl) ?_
  refine lv_iload hx hb dL_law_469 (lv_at hl 5 rfl) ?_
  refine lv_iconst (v := nI 4) hx hb dL_law_471 (by decide) ?_
  refine lv_iadd hx hb dL_law_472 ?_
  refine wr_top (y := nI (i + 4)) (nI_add _ _) ?_
  refine va_sld hx hb hX hbl hbA hS (vp_in_nI (show i + 4 < L by omega) (by omega)) dL_law_473 ?_
  refine wr_top (y := x3) ((congrArg xs (nI_clamp (by omega))).trans ex3.symm) ?_
  refine lv_aload_n hx hb dL_law_474 rfl (lv_at hl 1 rfl) ?_
  refine lv_iload hx hb dL_law_475 (lv_at hl 5 rfl) ?_
  refine lv_iconst (v := nI 5) hx hb dL_law_477 (by decide) ?_
  refine lv_iadd hx hb dL_law_478 ?_
  refine wr_top (y := nI (i + 5)) (nI_add _ _) ?_
  refine va_sld hx hb hX hbl hbA hS (vp_in_nI (show i + 5 < L by omega) (by omega)) dL_law_479 ?_
  refine wr_top (y := x4) ((congrArg xs (nI_clamp (by omega))).trans ex4.symm) ?_
  refine va_calli (va_runV (As := [.int x0, .int x1, .int x2, .int x3, .int x4]) (rest := []) ⟨hx, hb, hml, hown, hts⟩ (kX6_sign l hD (by decide) m2 (rl_rc8 h) m3 (rl_tc6 h) m10 m6 m7) (cwV 5 hts gL_law_X6_sign rfl rfl rfl (by decide +kernel) ⟨Nat.le_of_ble_eq_true rfl, Nat.le_of_ble_eq_true rfl⟩) (rw_pv (ci := 5) (q := (RX6, TX6, 27)) hE hP hS hA rfl (wd_at (M := u1) (show 137 < 155 by decide) (g_137 cy ad _))) rfl rfl hl.1 rfl (lv_room (Nat.le_of_ble_eq_true rfl)) dL_law_480 ⟨(show cells + 3 + 0 ≤ 601024 by omega), (show slots + 18 + 0 ≤ 7293034 by omega)⟩) hS (fun q _ h => h) (fun q h => h) (fun bb u2 t H1 locs ht hvm hm hB9 hz1 hk1 hS => ?_)
  have hm : PM_sign x0 x1 x2 x3 x4 rc tc rs u1 bb u2 := hm
  have hP : va_P D vwCl (wd cy ad 155 u2 ++ []) H1 := by rw [← ht]; exact hB9
  clear hB9 ht hvm hz1 hk1
  generalize H1 = H at hP hS ⊢
  have hcn := pq_sign h hw hm
  refine lv_istore (lv' := [(6, .int bb), (5, .int r), (0, .ref b), (1, .ref (ad 0)), (2, .ref (ad 137)), (3, .ref (ad 154)), (4, .int (nI i))]) hx hb dL_law_483 hl (by decide) rfl (fun ls hl => ?_)
  refine lv_aload_n hx hb dL_law_485 rfl (lv_at hl 4 rfl) ?_
  refine vp_callSi (W.runV (As := []) (rest := []) ⟨hx, hb, hml, hown, hts⟩ (kX6_thrown l (M := u2) (by decide)) (cwV 0 hts gL_law_X6_thrown rfl rfl rfl (by decide +kernel) ⟨Nat.le_of_ble_eq_true rfl, Nat.le_of_ble_eq_true rfl⟩) (ro_pv (ci := 5) (q := (RX6, TX6, 27)) hE hP rfl (wd_at (M := u2) (show 137 < 155 by decide) (g_137 cy ad _))) rfl rfl hl.1 rfl (lv_room (Nat.le_of_ble_eq_true rfl)) dL_law_486 ⟨(show _ ≤ 601024 by omega), (show _ ≤ 7293034 by omega)⟩) (fun v9 hv9 => ?_)
  refine lv_iload hx hb dL_law_489 (lv_at hl 1 rfl) ?_
  refine lv_icmp_eq (tgt := 496) hx hb dL_law_491 (by decide) (fun c9 => ?_) (fun c9 => absurd (hv9.trans hcn.1) c9)
  refine lv_iload hx hb dL_law_496 (lv_at hl 1 rfl) ?_
  refine lv_if_ne (tgt := 513) hx hb dL_law_498 (by decide) (fun c8 => ?_) (fun c8 => ?_)
  · refine lv_goto (tgt := 1243) hx hb dL_law_513 (by decide) ?_
    refine W.widen (k := cells + 9) (n := slots + 38) (by omega) (by omega) ?_
    exact kk u2 _ _ ls hcn.2.2 hP hS (lv_sub hl [2, 3, 4, 5, 6] rfl)
  · have e8 := hcn.2.1 (c8.trans nI_0.symm)
    refine lv_aload_n hx hb dL_law_501 rfl (lv_at hl 5 rfl) ?_
    refine lv_iconst (v := nI 0) hx hb dL_law_502 (by decide) ?_
    refine va_lald (D := D) (cl := vwCl) hx hb hE.1 hP 154 2 (wd_at (by decide) (g_154 cy ad _)) rfl (vn_ins rfl (by decide : 0 < 1) (by decide)) dL_law_503 ?_
    refine lv_iload hx hb dL_law_504 (lv_at hl 0 rfl) ?_
    refine lv_i2l hx hb dL_law_506 rfl ?_
    refine W.lcmp hx hb dL_law_507 ?_
    refine wr_top (y := 0) (show lg_cmp ((u2 154 0).toInt64) (bb.toInt64) = 0 by rw [e8]; exact lc_0 _) ?_
    refine lv_if_eq (tgt := 513) hx hb dL_law_508 (by decide) (fun _ => ?_) (fun c7 => absurd rfl c7)
    refine lv_goto (tgt := 1243) hx hb dL_law_513 (by decide) ?_
    refine W.widen (k := cells + 9) (n := slots + 38) (by omega) (by omega) ?_
    exact kk u2 _ _ ls hcn.2.2 hP hS (lv_sub hl [2, 3, 4, 5, 6] rfl)

set_option maxHeartbeats 1000000 in
set_option maxRecDepth 100000 in
theorem kC_draft {p : Program} {l : Launch} {e : Env} {s : State} {m : MethodId} {below : List Frame} {meth : Method} {c : Code} {b L : Nat} {xs : Nat → Int32} {D : va_G} {cy ad : Nat → Nat} (C0 : LC p l s m c b L xs D cy ad) {M : Mm} (hR : RR M) {i : Nat} (hi : i + 6 ≤ L) (hL : L ≤ 3072) {H : Heap} {locs : List Loc} {cells slots : Nat} {ls : Array Slot} {Q : State → Prop} (hP : va_P D vwCl (wd cy ad 155 M ++ []) H) (hS : va_S (AL s) s.heap H locs) (hc : cells + 9 ≤ 601024) (hs : slots + 38 ≤ 7293034) (hl : lv_has ls 7 [(0, .ref b), (1, .ref (ad 0)), (2, .ref (ad 137)), (3, .ref (ad 154)), (4, .int (nI i))])
    (kk : ∀ (M2 : Mm) (H2 : Heap) (locs2 : List Loc) (ls2 : Array Slot), RR M2 → va_P D vwCl (wd cy ad 155 M2 ++ []) H2 → va_S (AL s) s.heap H2 locs2 → lv_has ls2 7 [(0, .ref b), (1, .ref (ad 0)), (2, .ref (ad 137)), (3, .ref (ad 154)), (4, .int (nI i))] → W p l e room_1 s m #[Value.ref b] below meth c H2 locs2 (cells + 9) (slots + 38) Q (F0 m 1243 ls2 [])) : W p l e room_1 s m #[Value.ref b] below meth c H locs cells slots Q (F0 m 516 ls []) := by
  obtain ⟨hx, hb, hml, hown, hts, hX, hbl, hE, hXF, hN1, hN2, hN3, hN4, hD, hlt⟩ := C0
  obtain ⟨mc, rc, tc, d, b1, rs, sc, sr, h⟩ := hR
  have hA : ∀ q, s.heap.size ≤ q → AL s q := fun _ h => h
  have hbA : ¬ AL s b := Nat.not_le.mpr hbl
  obtain ⟨x0, ex0⟩ : ∃ y, y = xs (i + 1) := ⟨_, rfl⟩
  refine lv_aload_n hx hb dL_law_516 rfl (lv_at hl 1 rfl) ?_
  refine lv_aload_n hx hb dL_law_517 rfl (lv_at hl 0 rfl) ?_
  refine lv_iload hx hb dL_law_518 (lv_at hl 4 rfl) ?_
  refine lv_iconst (v := nI 1) hx hb dL_law_520 (by decide) ?_
  refine lv_iadd hx hb dL_law_521 ?_
  refine wr_top (y := nI (i + 1)) (nI_add _ _) ?_
  refine va_sld hx hb hX hbl hbA hS (vp_in_nI (show i + 1 < L by omega) (by omega)) dL_law_522 ?_
  refine wr_top (y := x0) ((congrArg xs (nI_clamp (by omega))).trans ex0.symm) ?_
  refine lv_aload_n hx hb dL_law_523 rfl (lv_at hl 3 rfl) ?_
  refine vx_calli (vx_runSX (hh := [(0, 9, 12, 36)]) (As := [.ref (ad 0), .int x0, .ref (ad 154)]) (rest := []) ⟨hx, hb, hml, hown, hts⟩ (kL_draft l hD (by decide) (P := PC_draft d x0 M) (X := XC_draft d x0 M) (fun _ _ hx => hx.1) (kX5_draft l hlt hD (by decide) (rl_cd h) (rl_d8 h))) (vx_cwSW 3 hts gL_law_L_draft rfl rfl rfl (by decide +kernel) ⟨Nat.le_of_ble_eq_true rfl, Nat.le_of_ble_eq_true rfl⟩) (lp_ps hE hP hS hA hXF hN1 hN2 hN3 hN4) rfl rfl hl.1 rfl (lv_room (Nat.le_of_ble_eq_true rfl)) dL_law_524 ⟨(show cells + 1 ≤ 601024 by omega), (show slots + 6 ≤ 7293034 by omega)⟩) hS (fun q _ h => h) (fun q h => h) (fun q _ h => h) (fun E9 ce q9 u t H1 locs1 ht hvm hpx hBX hz1 hk1 hS hce hcv hcl => False.elim hBX) (fun r u1 t H1 locs ht hvm hw hB9 hz1 hk1 hS => ?_)
  have hw : WR_draft d x0 M r u1 := hw
  have hP : va_P D vwCl (wd cy ad 155 u1 ++ []) H1 := by rw [← ht]; exact hB9
  clear hB9 ht hvm hz1 hk1
  generalize H1 = H at hP hS ⊢
  obtain ⟨m1, m2, m3, m4, m5, m6, m7, m8, m9, m10⟩ := rm_of h (md_draft h hw)
  refine lv_istore (lv' := [(5, .int r), (0, .ref b), (1, .ref (ad 0)), (2, .ref (ad 137)), (3, .ref (ad 154)), (4, .int (nI i))]) hx hb dL_law_527 hl (by decide) rfl (fun ls hl => ?_)
  refine lv_aload_n hx hb dL_law_529 rfl (lv_at hl 3 rfl) ?_
  refine lv_aload_n hx hb dL_law_530 rfl (lv_at hl 1 rfl) ?_
  refine lv_iload hx hb dL_law_531 (lv_at hl 5 rfl) ?_
  refine lv_iconst (v := nI 1) hx hb dL_law_533 (by decide) ?_
  refine lv_iadd hx hb dL_law_534 ?_
  refine wr_top (y := nI (i + 1)) (nI_add _ _) ?_
  refine va_sld hx hb hX hbl hbA hS (vp_in_nI (show i + 1 < L by omega) (by omega)) dL_law_535 ?_
  refine wr_top (y := x0) ((congrArg xs (nI_clamp (by omega))).trans ex0.symm) ?_
  refine va_calli (va_runV (As := [.int x0]) (rest := []) ⟨hx, hb, hml, hown, hts⟩ (kX6_draft l hD (by decide) m4 (rl_d8 h)) (cwV 1 hts gL_law_X6_draft rfl rfl rfl (by decide +kernel) ⟨Nat.le_of_ble_eq_true rfl, Nat.le_of_ble_eq_true rfl⟩) (rw_pv (ci := 5) (q := (RX6, TX6, 27)) hE hP hS hA rfl (wd_at (M := u1) (show 137 < 155 by decide) (g_137 cy ad _))) rfl rfl hl.1 rfl (lv_room (Nat.le_of_ble_eq_true rfl)) dL_law_536 ⟨(show cells + 1 + 0 ≤ 601024 by omega), (show slots + 6 + 0 ≤ 7293034 by omega)⟩) hS (fun q _ h => h) (fun q h => h) (fun bb u2 t H1 locs ht hvm hm hB9 hz1 hk1 hS => ?_)
  have hm : PM_draft d x0 u1 bb u2 := hm
  have hP : va_P D vwCl (wd cy ad 155 u2 ++ []) H1 := by rw [← ht]; exact hB9
  clear hB9 ht hvm hz1 hk1
  generalize H1 = H at hP hS ⊢
  have hcn := pq_draft h hw hm
  refine lv_istore (lv' := [(6, .int bb), (5, .int r), (0, .ref b), (1, .ref (ad 0)), (2, .ref (ad 137)), (3, .ref (ad 154)), (4, .int (nI i))]) hx hb dL_law_539 hl (by decide) rfl (fun ls hl => ?_)
  refine lv_aload_n hx hb dL_law_541 rfl (lv_at hl 4 rfl) ?_
  refine vp_callSi (W.runV (As := []) (rest := []) ⟨hx, hb, hml, hown, hts⟩ (kX6_thrown l (M := u2) (by decide)) (cwV 0 hts gL_law_X6_thrown rfl rfl rfl (by decide +kernel) ⟨Nat.le_of_ble_eq_true rfl, Nat.le_of_ble_eq_true rfl⟩) (ro_pv (ci := 5) (q := (RX6, TX6, 27)) hE hP rfl (wd_at (M := u2) (show 137 < 155 by decide) (g_137 cy ad _))) rfl rfl hl.1 rfl (lv_room (Nat.le_of_ble_eq_true rfl)) dL_law_542 ⟨(show _ ≤ 601024 by omega), (show _ ≤ 7293034 by omega)⟩) (fun v9 hv9 => ?_)
  refine lv_iload hx hb dL_law_545 (lv_at hl 1 rfl) ?_
  refine lv_icmp_eq (tgt := 552) hx hb dL_law_547 (by decide) (fun c9 => ?_) (fun c9 => absurd (hv9.trans hcn.1) c9)
  refine lv_iload hx hb dL_law_552 (lv_at hl 1 rfl) ?_
  refine lv_if_ne (tgt := 569) hx hb dL_law_554 (by decide) (fun c8 => ?_) (fun c8 => ?_)
  · refine lv_goto (tgt := 1243) hx hb dL_law_569 (by decide) ?_
    refine W.widen (k := cells + 9) (n := slots + 38) (by omega) (by omega) ?_
    exact kk u2 _ _ ls hcn.2.2 hP hS (lv_sub hl [2, 3, 4, 5, 6] rfl)
  · have e8 := hcn.2.1 (c8.trans nI_0.symm)
    refine lv_aload_n hx hb dL_law_557 rfl (lv_at hl 5 rfl) ?_
    refine lv_iconst (v := nI 0) hx hb dL_law_558 (by decide) ?_
    refine va_lald (D := D) (cl := vwCl) hx hb hE.1 hP 154 2 (wd_at (by decide) (g_154 cy ad _)) rfl (vn_ins rfl (by decide : 0 < 1) (by decide)) dL_law_559 ?_
    refine lv_iload hx hb dL_law_560 (lv_at hl 0 rfl) ?_
    refine lv_i2l hx hb dL_law_562 rfl ?_
    refine W.lcmp hx hb dL_law_563 ?_
    refine wr_top (y := 0) (show lg_cmp ((u2 154 0).toInt64) (bb.toInt64) = 0 by rw [e8]; exact lc_0 _) ?_
    refine lv_if_eq (tgt := 569) hx hb dL_law_564 (by decide) (fun _ => ?_) (fun c7 => absurd rfl c7)
    refine lv_goto (tgt := 1243) hx hb dL_law_569 (by decide) ?_
    refine W.widen (k := cells + 9) (n := slots + 38) (by omega) (by omega) ?_
    exact kk u2 _ _ ls hcn.2.2 hP hS (lv_sub hl [2, 3, 4, 5, 6] rfl)

set_option maxHeartbeats 1000000 in
set_option maxRecDepth 100000 in
theorem kC_edit {p : Program} {l : Launch} {e : Env} {s : State} {m : MethodId} {below : List Frame} {meth : Method} {c : Code} {b L : Nat} {xs : Nat → Int32} {D : va_G} {cy ad : Nat → Nat} (C0 : LC p l s m c b L xs D cy ad) {M : Mm} (hR : RR M) {i : Nat} (hi : i + 6 ≤ L) (hL : L ≤ 3072) {H : Heap} {locs : List Loc} {cells slots : Nat} {ls : Array Slot} {Q : State → Prop} (hP : va_P D vwCl (wd cy ad 155 M ++ []) H) (hS : va_S (AL s) s.heap H locs) (hc : cells + 9 ≤ 601024) (hs : slots + 38 ≤ 7293034) (hl : lv_has ls 7 [(0, .ref b), (1, .ref (ad 0)), (2, .ref (ad 137)), (3, .ref (ad 154)), (4, .int (nI i))])
    (kk : ∀ (M2 : Mm) (H2 : Heap) (locs2 : List Loc) (ls2 : Array Slot), RR M2 → va_P D vwCl (wd cy ad 155 M2 ++ []) H2 → va_S (AL s) s.heap H2 locs2 → lv_has ls2 7 [(0, .ref b), (1, .ref (ad 0)), (2, .ref (ad 137)), (3, .ref (ad 154)), (4, .int (nI i))] → W p l e room_1 s m #[Value.ref b] below meth c H2 locs2 (cells + 9) (slots + 38) Q (F0 m 1243 ls2 [])) : W p l e room_1 s m #[Value.ref b] below meth c H locs cells slots Q (F0 m 572 ls []) := by
  obtain ⟨hx, hb, hml, hown, hts, hX, hbl, hE, hXF, hN1, hN2, hN3, hN4, hD, hlt⟩ := C0
  obtain ⟨mc, rc, tc, d, b1, rs, sc, sr, h⟩ := hR
  have hA : ∀ q, s.heap.size ≤ q → AL s q := fun _ h => h
  have hbA : ¬ AL s b := Nat.not_le.mpr hbl
  obtain ⟨x0, ex0⟩ : ∃ y, y = xs (i + 1) := ⟨_, rfl⟩
  obtain ⟨x1, ex1⟩ : ∃ y, y = xs (i + 2) := ⟨_, rfl⟩
  refine lv_aload_n hx hb dL_law_572 rfl (lv_at hl 1 rfl) ?_
  refine lv_aload_n hx hb dL_law_573 rfl (lv_at hl 0 rfl) ?_
  refine lv_iload hx hb dL_law_574 (lv_at hl 4 rfl) ?_
  refine lv_iconst (v := nI 1) hx hb dL_law_576 (by decide) ?_
  refine lv_iadd hx hb dL_law_577 ?_
  refine wr_top (y := nI (i + 1)) (nI_add _ _) ?_
  refine va_sld hx hb hX hbl hbA hS (vp_in_nI (show i + 1 < L by omega) (by omega)) dL_law_578 ?_
  refine wr_top (y := x0) ((congrArg xs (nI_clamp (by omega))).trans ex0.symm) ?_
  refine lv_aload_n hx hb dL_law_579 rfl (lv_at hl 0 rfl) ?_
  refine lv_iload hx hb dL_law_580 (lv_at hl 4 rfl) ?_
  refine lv_iconst (v := nI 2) hx hb dL_law_582 (by decide) ?_
  refine lv_iadd hx hb dL_law_583 ?_
  refine wr_top (y := nI (i + 2)) (nI_add _ _) ?_
  refine va_sld hx hb hX hbl hbA hS (vp_in_nI (show i + 2 < L by omega) (by omega)) dL_law_584 ?_
  refine wr_top (y := x1) ((congrArg xs (nI_clamp (by omega))).trans ex1.symm) ?_
  refine vx_calli (vx_runSX (hh := [(0, 6, 9, 36)]) (As := [.ref (ad 0), .int x0, .int x1]) (rest := []) ⟨hx, hb, hml, hown, hts⟩ (kL_edit l hD (by decide) (P := PC_edit d x0 x1 M) (X := XC_edit d x0 x1 M) (fun _ _ hx => hx.1) (kX5_edit l hlt hD (by decide) (rl_cd h) (rl_d8 h))) (vx_cwSW 3 hts gL_law_L_edit rfl rfl rfl (by decide +kernel) ⟨Nat.le_of_ble_eq_true rfl, Nat.le_of_ble_eq_true rfl⟩) (lp_ps hE hP hS hA hXF hN1 hN2 hN3 hN4) rfl rfl hl.1 rfl (lv_room (Nat.le_of_ble_eq_true rfl)) dL_law_585 ⟨(show cells + 1 ≤ 601024 by omega), (show slots + 6 ≤ 7293034 by omega)⟩) hS (fun q _ h => h) (fun q h => h) (fun q _ h => h) (fun E9 ce q9 u t H1 locs1 ht hvm hpx hBX hz1 hk1 hS hce hcv hcl => False.elim hBX) (fun r u1 t H1 locs ht hvm hw hB9 hz1 hk1 hS => ?_)
  have hw : WR_edit d x0 x1 M r u1 := hw
  have hP : va_P D vwCl (wd cy ad 155 u1 ++ []) H1 := by rw [← ht]; exact hB9
  clear hB9 ht hvm hz1 hk1
  generalize H1 = H at hP hS ⊢
  obtain ⟨m1, m2, m3, m4, m5, m6, m7, m8, m9, m10⟩ := rm_of h (md_edit h hw)
  refine lv_istore (lv' := [(5, .int r), (0, .ref b), (1, .ref (ad 0)), (2, .ref (ad 137)), (3, .ref (ad 154)), (4, .int (nI i))]) hx hb dL_law_588 hl (by decide) rfl (fun ls hl => ?_)
  refine lv_aload_n hx hb dL_law_590 rfl (lv_at hl 3 rfl) ?_
  refine lv_aload_n hx hb dL_law_591 rfl (lv_at hl 1 rfl) ?_
  refine lv_iload hx hb dL_law_592 (lv_at hl 5 rfl) ?_
  refine lv_iconst (v := nI 1) hx hb dL_law_594 (by decide) ?_
  refine lv_iadd hx hb dL_law_595 ?_
  refine wr_top (y := nI (i + 1)) (nI_add _ _) ?_
  refine va_sld hx hb hX hbl hbA hS (vp_in_nI (show i + 1 < L by omega) (by omega)) dL_law_596 ?_
  refine wr_top (y := x0) ((congrArg xs (nI_clamp (by omega))).trans ex0.symm) ?_
  refine lv_aload_n hx hb dL_law_597 rfl (lv_at hl 1 rfl) ?_
  refine lv_iload hx hb dL_law_598 (lv_at hl 5 rfl) ?_
  refine lv_iconst (v := nI 2) hx hb dL_law_600 (by decide) ?_
  refine lv_iadd hx hb dL_law_601 ?_
  refine wr_top (y := nI (i + 2)) (nI_add _ _) ?_
  refine va_sld hx hb hX hbl hbA hS (vp_in_nI (show i + 2 < L by omega) (by omega)) dL_law_602 ?_
  refine wr_top (y := x1) ((congrArg xs (nI_clamp (by omega))).trans ex1.symm) ?_
  refine va_callv (va_runV (As := [.int x0, .int x1]) (rest := []) ⟨hx, hb, hml, hown, hts⟩ (kX6_edit l hD (by decide) m4 (rl_d8 h)) (cwV 2 hts gL_law_X6_edit rfl rfl rfl (by decide +kernel) ⟨Nat.le_of_ble_eq_true rfl, Nat.le_of_ble_eq_true rfl⟩) (rw_pv (ci := 5) (q := (RX6, TX6, 27)) hE hP hS hA rfl (wd_at (M := u1) (show 137 < 155 by decide) (g_137 cy ad _))) rfl rfl hl.1 rfl (lv_room (Nat.le_of_ble_eq_true rfl)) dL_law_603 ⟨(show cells + 1 + 0 ≤ 601024 by omega), (show slots + 6 + 0 ≤ 7293034 by omega)⟩) hS (fun q _ h => h) (fun q h => h) (fun u2 t H1 locs ht hvm hm hB9 hz1 hk1 hS => ?_)
  have hm : PM_edit d x0 x1 u1 u2 := hm
  have hP : va_P D vwCl (wd cy ad 155 u2 ++ []) H1 := by rw [← ht]; exact hB9
  clear hB9 ht hvm hz1 hk1
  generalize H1 = H at hP hS ⊢
  have hcn := pq_edit h hw hm
  refine lv_aload_n hx hb dL_law_606 rfl (lv_at hl 3 rfl) ?_
  refine vp_callSi (W.runV (As := []) (rest := []) ⟨hx, hb, hml, hown, hts⟩ (kX6_thrown l (M := u2) (by decide)) (cwV 0 hts gL_law_X6_thrown rfl rfl rfl (by decide +kernel) ⟨Nat.le_of_ble_eq_true rfl, Nat.le_of_ble_eq_true rfl⟩) (ro_pv (ci := 5) (q := (RX6, TX6, 27)) hE hP rfl (wd_at (M := u2) (show 137 < 155 by decide) (g_137 cy ad _))) rfl rfl hl.1 rfl (lv_room (Nat.le_of_ble_eq_true rfl)) dL_law_607 ⟨(show _ ≤ 601024 by omega), (show _ ≤ 7293034 by omega)⟩) (fun v9 hv9 => ?_)
  refine lv_iload hx hb dL_law_610 (lv_at hl 0 rfl) ?_
  refine lv_icmp_eq (tgt := 617) hx hb dL_law_612 (by decide) (fun c9 => ?_) (fun c9 => absurd (hv9.trans hcn.1) c9)
  refine lv_goto (tgt := 1243) hx hb dL_law_617 (by decide) ?_
  refine W.widen (k := cells + 9) (n := slots + 38) (by omega) (by omega) ?_
  exact kk u2 _ _ ls hcn.2 hP hS (lv_sub hl [1, 2, 3, 4, 5] rfl)
