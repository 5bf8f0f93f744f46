/-! the law's cases, the last -/
set_option maxHeartbeats 1000000 in
set_option maxRecDepth 100000 in
theorem kC_export {p : Program} {l : Launch} {e : Env} {s : State} {m : MethodId} {below : List Frame} {meth : Method} {c : Code} {b L : Nat} {xs : Nat → Int32} {D : va_G} {cy ad : Nat → Nat} (C0 : LC p l s m c b L xs D cy ad) {M : Mm} (hR : RR M) {i : Nat} (hi : i + 6 ≤ L) (hL : L ≤ 3072) {H : Heap} {locs : List Loc} {cells slots : Nat} {ls : Array Slot} {Q : State → Prop} (hP : va_P D vwCl (wd cy ad 155 M ++ []) H) (hS : va_S (AL s) s.heap H locs) (hc : cells + 9 ≤ 601024) (hs : slots + 38 ≤ 7293034) (hl : lv_has ls 7 [(0, .ref b), (1, .ref (ad 0)), (2, .ref (ad 137)), (3, .ref (ad 154)), (4, .int (nI i))])
    (kk : ∀ (M2 : Mm) (H2 : Heap) (locs2 : List Loc) (ls2 : Array Slot), RR M2 → va_P D vwCl (wd cy ad 155 M2 ++ []) H2 → va_S (AL s) s.heap H2 locs2 → lv_has ls2 7 [(0, .ref b), (1, .ref (ad 0)), (2, .ref (ad 137)), (3, .ref (ad 154)), (4, .int (nI i))] → W p l e room_1 s m #[Value.ref b] below meth c H2 locs2 (cells + 9) (slots + 38) Q (F0 m 1243 ls2 [])) : W p l e room_1 s m #[Value.ref b] below meth c H locs cells slots Q (F0 m 1003 ls []) := by
  obtain ⟨hx, hb, hml, hown, hts, hX, hbl, hE, hXF, hN1, hN2, hN3, hN4, hD, hlt⟩ := C0
  obtain ⟨mc, rc, tc, d, b1, rs, sc, sr, h⟩ := hR
  have hA : ∀ q, s.heap.size ≤ q → AL s q := fun _ h => h
  have hbA : ¬ AL s b := Nat.not_le.mpr hbl
  obtain ⟨x0, ex0⟩ : ∃ y, y = xs (i + 1) := ⟨_, rfl⟩
  refine lv_aload_n hx hb dL_law_1003 rfl (lv_at hl 1 rfl) ?_
  refine lv_aload_n hx hb dL_law_1004 rfl (lv_at hl 0 rfl) ?_
  refine lv_iload hx hb dL_law_1005 (lv_at hl 4 rfl) ?_
  refine lv_iconst (v := nI 1) hx hb dL_law_1007 (by decide) ?_
  refine lv_iadd hx hb dL_law_1008 ?_
  refine wr_top (y := nI (i + 1)) (nI_add _ _) ?_
  refine va_sld hx hb hX hbl hbA hS (vp_in_nI (show i + 1 < L by omega) (by omega)) dL_law_1009 ?_
  refine wr_top (y := x0) ((congrArg xs (nI_clamp (by omega))).trans ex0.symm) ?_
  refine lv_aload_n hx hb dL_law_1010 rfl (lv_at hl 3 rfl) ?_
  refine vx_calli (vx_runSX (hh := [(0, 9, 12, 13)]) (As := [.ref (ad 0), .int x0, .ref (ad 154)]) (rest := []) ⟨hx, hb, hml, hown, hts⟩ (kL_export l hD (by decide) (P := PC_export rc tc (sc (vN x0)) rs (sr (vN x0)) x0 M) (X := XC_export rc tc (sc (vN x0)) rs (sr (vN x0)) x0 M) (fun _ _ hx => hx.1) (kX5_export l hlt hD (by decide) (sr := sr (vN x0)) (rl_rc8 h) (rl_ctc h) (rl_tc6 h) (rl_crg h) (rl_ccn h _) (rl_sc8 h _) (st_all h _) (fun k => rl_rs6 h _))) (vx_cwSW 3 hts gL_law_L_export rfl rfl rfl (by decide +kernel) ⟨Nat.le_of_ble_eq_true rfl, Nat.le_of_ble_eq_true rfl⟩) (lp_ps hE hP hS hA hXF hN1 hN2 hN3 hN4) rfl rfl hl.1 rfl (lv_room (Nat.le_of_ble_eq_true rfl)) dL_law_1011 ⟨(show cells + 1 ≤ 601024 by omega), (show slots + 6 ≤ 7293034 by omega)⟩) hS (fun q _ h => h) (fun q h => h) (fun q _ h => h) (fun E9 ce q9 u t H1 locs1 ht hvm hpx hBX hz1 hk1 hS hce hcv hcl => False.elim hBX) (fun r u1 t H1 locs ht hvm hw hB9 hz1 hk1 hS => ?_)
  have hw : WR_export rc tc (sc (vN x0)) rs (sr (vN x0)) x0 M r u1 := hw
  have hP : va_P D vwCl (wd cy ad 155 u1 ++ []) H1 := by rw [← ht]; exact hB9
  clear hB9 ht hvm hz1 hk1
  generalize H1 = H at hP hS ⊢
  obtain ⟨m1, m2, m3, m4, m5, m6, m7, m8, m9, m10⟩ := rm_of h (md_export h hw)
  refine lv_istore (lv' := [(5, .int r), (0, .ref b), (1, .ref (ad 0)), (2, .ref (ad 137)), (3, .ref (ad 154)), (4, .int (nI i))]) hx hb dL_law_1014 hl (by decide) rfl (fun ls hl => ?_)
  refine lv_aload_n hx hb dL_law_1016 rfl (lv_at hl 3 rfl) ?_
  refine lv_aload_n hx hb dL_law_1017 rfl (lv_at hl 1 rfl) ?_
  refine lv_iload hx hb dL_law_1018 (lv_at hl 5 rfl) ?_
  refine lv_iconst (v := nI 1) hx hb dL_law_1020 (by decide) ?_
  refine lv_iadd hx hb dL_law_1021 ?_
  refine wr_top (y := nI (i + 1)) (nI_add _ _) ?_
  refine va_sld hx hb hX hbl hbA hS (vp_in_nI (show i + 1 < L by omega) (by omega)) dL_law_1022 ?_
  refine wr_top (y := x0) ((congrArg xs (nI_clamp (by omega))).trans ex0.symm) ?_
  refine va_calli (va_runV (As := [.int x0]) (rest := []) ⟨hx, hb, hml, hown, hts⟩ (kX6_export l hD (by decide) m3 (rl_tc6 h) (rl_rc8 h) (m8 _) (rl_sc8 h _) m6 (m9 _) (fun k => rl_rs6 h _)) (cwV 1 hts gL_law_X6_export rfl rfl rfl (by decide +kernel) ⟨Nat.le_of_ble_eq_true rfl, Nat.le_of_ble_eq_true rfl⟩) (rw_pv (ci := 5) (q := (RX6, TX6, 27)) hE hP hS hA rfl (wd_at (M := u1) (show 137 < 155 by decide) (g_137 cy ad _))) rfl rfl hl.1 rfl (lv_room (Nat.le_of_ble_eq_true rfl)) dL_law_1023 ⟨(show cells + 1 + 0 ≤ 601024 by omega), (show slots + 6 + 0 ≤ 7293034 by omega)⟩) hS (fun q _ h => h) (fun q h => h) (fun bb u2 t H1 locs ht hvm hm hB9 hz1 hk1 hS => ?_)
  have hm : PM_export tc x0 rc (sc (vN x0)) rs (sr (vN x0)) u1 bb u2 := hm
  have hP : va_P D vwCl (wd cy ad 155 u2 ++ []) H1 := by rw [← ht]; exact hB9
  clear hB9 ht hvm hz1 hk1
  generalize H1 = H at hP hS ⊢
  have hcn := pq_export h hw hm
  refine lv_istore (lv' := [(6, .int bb), (5, .int r), (0, .ref b), (1, .ref (ad 0)), (2, .ref (ad 137)), (3, .ref (ad 154)), (4, .int (nI i))]) hx hb dL_law_1026 hl (by decide) rfl (fun ls hl => ?_)
  refine lv_aload_n hx hb dL_law_1028 rfl (lv_at hl 4 rfl) ?_
  refine vp_callSi (W.runV (As := []) (rest := []) ⟨hx, hb, hml, hown, hts⟩ (kX6_thrown l (M := u2) (by decide)) (cwV 0 hts gL_law_X6_thrown rfl rfl rfl (by decide +kernel) ⟨Nat.le_of_ble_eq_true rfl, Nat.le_of_ble_eq_true rfl⟩) (ro_pv (ci := 5) (q := (RX6, TX6, 27)) hE hP rfl (wd_at (M := u2) (show 137 < 155 by decide) (g_137 cy ad _))) rfl rfl hl.1 rfl (lv_room (Nat.le_of_ble_eq_true rfl)) dL_law_1029 ⟨(show _ ≤ 601024 by omega), (show _ ≤ 7293034 by omega)⟩) (fun v9 hv9 => ?_)
  refine lv_iload hx hb dL_law_1032 (lv_at hl 1 rfl) ?_
  refine lv_icmp_eq (tgt := 1039) hx hb dL_law_1034 (by decide) (fun c9 => ?_) (fun c9 => absurd (hv9.trans hcn.1) c9)
  refine lv_iload hx hb dL_law_1039 (lv_at hl 1 rfl) ?_
  refine lv_if_ne (tgt := 1056) hx hb dL_law_1041 (by decide) (fun c8 => ?_) (fun c8 => ?_)
  · refine lv_goto (tgt := 1243) hx hb dL_law_1056 (by decide) ?_
    refine W.widen (k := cells + 9) (n := slots + 38) (by omega) (by omega) ?_
    exact kk u2 _ _ ls hcn.2.2 hP hS (lv_sub hl [2, 3, 4, 5, 6] rfl)
  · have e8 := hcn.2.1 (c8.trans nI_0.symm)
    refine lv_aload_n hx hb dL_law_1044 rfl (lv_at hl 5 rfl) ?_
    refine lv_iconst (v := nI 0) hx hb dL_law_1045 (by decide) ?_
    refine va_lald (D := D) (cl := vwCl) hx hb hE.1 hP 154 2 (wd_at (by decide) (g_154 cy ad _)) rfl (vn_ins rfl (by decide : 0 < 1) (by decide)) dL_law_1046 ?_
    refine lv_iload hx hb dL_law_1047 (lv_at hl 0 rfl) ?_
    refine lv_i2l hx hb dL_law_1049 rfl ?_
    refine W.lcmp hx hb dL_law_1050 ?_
    refine wr_top (y := 0) (show lg_cmp ((u2 154 0).toInt64) (bb.toInt64) = 0 by rw [e8]; exact lc_0 _) ?_
    refine lv_if_eq (tgt := 1056) hx hb dL_law_1051 (by decide) (fun _ => ?_) (fun c7 => absurd rfl c7)
    refine lv_goto (tgt := 1243) hx hb dL_law_1056 (by decide) ?_
    refine W.widen (k := cells + 9) (n := slots + 38) (by omega) (by omega) ?_
    exact kk u2 _ _ ls hcn.2.2 hP hS (lv_sub hl [2, 3, 4, 5, 6] rfl)

set_option maxHeartbeats 1000000 in
set_option maxRecDepth 100000 in
theorem kC_bundle {p : Program} {l : Launch} {e : Env} {s : State} {m : MethodId} {below : List Frame} {meth : Method} {c : Code} {b L : Nat} {xs : Nat → Int32} {D : va_G} {cy ad : Nat → Nat} (C0 : LC p l s m c b L xs D cy ad) {M : Mm} (hR : RR M) {i : Nat} (hi : i + 6 ≤ L) (hL : L ≤ 3072) {H : Heap} {locs : List Loc} {cells slots : Nat} {ls : Array Slot} {Q : State → Prop} (hP : va_P D vwCl (wd cy ad 155 M ++ []) H) (hS : va_S (AL s) s.heap H locs) (hc : cells + 9 ≤ 601024) (hs : slots + 38 ≤ 7293034) (hl : lv_has ls 7 [(0, .ref b), (1, .ref (ad 0)), (2, .ref (ad 137)), (3, .ref (ad 154)), (4, .int (nI i))])
    (kk : ∀ (M2 : Mm) (H2 : Heap) (locs2 : List Loc) (ls2 : Array Slot), RR M2 → va_P D vwCl (wd cy ad 155 M2 ++ []) H2 → va_S (AL s) s.heap H2 locs2 → lv_has ls2 7 [(0, .ref b), (1, .ref (ad 0)), (2, .ref (ad 137)), (3, .ref (ad 154)), (4, .int (nI i))] → W p l e room_1 s m #[Value.ref b] below meth c H2 locs2 (cells + 9) (slots + 38) Q (F0 m 1243 ls2 [])) : W p l e room_1 s m #[Value.ref b] below meth c H locs cells slots Q (F0 m 1059 ls []) := by
  obtain ⟨hx, hb, hml, hown, hts, hX, hbl, hE, hXF, hN1, hN2, hN3, hN4, hD, hlt⟩ := C0
  obtain ⟨mc, rc, tc, d, b1, rs, sc, sr, h⟩ := hR
  have hA : ∀ q, s.heap.size ≤ q → AL s q := fun _ h => h
  have hbA : ¬ AL s b := Nat.not_le.mpr hbl
  obtain ⟨x0, ex0⟩ : ∃ y, y = xs (i + 1) := ⟨_, rfl⟩
  refine lv_aload_n hx hb dL_law_1059 rfl (lv_at hl 1 rfl) ?_
  refine lv_aload_n hx hb dL_law_1060 rfl (lv_at hl 0 rfl) ?_
  refine lv_iload hx hb dL_law_1061 (lv_at hl 4 rfl) ?_
  refine lv_iconst (v := nI 1) hx hb dL_law_1063 (by decide) ?_
  refine lv_iadd hx hb dL_law_1064 ?_
  refine wr_top (y := nI (i + 1)) (nI_add _ _) ?_
  refine va_sld hx hb hX hbl hbA hS (vp_in_nI (show i + 1 < L by omega) (by omega)) dL_law_1065 ?_
  refine wr_top (y := x0) ((congrArg xs (nI_clamp (by omega))).trans ex0.symm) ?_
  refine lv_aload_n hx hb dL_law_1066 rfl (lv_at hl 3 rfl) ?_
  refine vx_calli (vx_runSX (hh := [(0, 9, 12, 36)]) (As := [.ref (ad 0), .int x0, .ref (ad 154)]) (rest := []) ⟨hx, hb, hml, hown, hts⟩ (kL_bundle l hD (by decide) (P := PC_bundle b1 x0 M) (X := XC_bundle b1 x0 M) (fun _ _ hx => hx.1) (kX5_bundle l hlt hD (by decide) (rl_cb h) (rl_b200 h))) (vx_cwSW 3 hts gL_law_L_bundle rfl rfl rfl (by decide +kernel) ⟨Nat.le_of_ble_eq_true rfl, Nat.le_of_ble_eq_true rfl⟩) (lp_ps hE hP hS hA hXF hN1 hN2 hN3 hN4) rfl rfl hl.1 rfl (lv_room (Nat.le_of_ble_eq_true rfl)) dL_law_1067 ⟨(show cells + 1 ≤ 601024 by omega), (show slots + 6 ≤ 7293034 by omega)⟩) hS (fun q _ h => h) (fun q h => h) (fun q _ h => h) (fun E9 ce q9 u t H1 locs1 ht hvm hpx hBX hz1 hk1 hS hce hcv hcl => False.elim hBX) (fun r u1 t H1 locs ht hvm hw hB9 hz1 hk1 hS => ?_)
  have hw : WR_bundle b1 x0 M r u1 := hw
  have hP : va_P D vwCl (wd cy ad 155 u1 ++ []) H1 := by rw [← ht]; exact hB9
  clear hB9 ht hvm hz1 hk1
  generalize H1 = H at hP hS ⊢
  obtain ⟨m1, m2, m3, m4, m5, m6, m7, m8, m9, m10⟩ := rm_of h (md_bundle h hw)
  refine lv_istore (lv' := [(5, .int r), (0, .ref b), (1, .ref (ad 0)), (2, .ref (ad 137)), (3, .ref (ad 154)), (4, .int (nI i))]) hx hb dL_law_1070 hl (by decide) rfl (fun ls hl => ?_)
  refine lv_aload_n hx hb dL_law_1072 rfl (lv_at hl 3 rfl) ?_
  refine lv_aload_n hx hb dL_law_1073 rfl (lv_at hl 1 rfl) ?_
  refine lv_iload hx hb dL_law_1074 (lv_at hl 5 rfl) ?_
  refine lv_iconst (v := nI 1) hx hb dL_law_1076 (by decide) ?_
  refine lv_iadd hx hb dL_law_1077 ?_
  refine wr_top (y := nI (i + 1)) (nI_add _ _) ?_
  refine va_sld hx hb hX hbl hbA hS (vp_in_nI (show i + 1 < L by omega) (by omega)) dL_law_1078 ?_
  refine wr_top (y := x0) ((congrArg xs (nI_clamp (by omega))).trans ex0.symm) ?_
  refine va_calli (va_runV (As := [.int x0]) (rest := []) ⟨hx, hb, hml, hown, hts⟩ (kX6_bundle l hD (by decide) m5 (rl_b200 h)) (cwV 1 hts gL_law_X6_bundle rfl rfl rfl (by decide +kernel) ⟨Nat.le_of_ble_eq_true rfl, Nat.le_of_ble_eq_true rfl⟩) (rw_pv (ci := 5) (q := (RX6, TX6, 27)) hE hP hS hA rfl (wd_at (M := u1) (show 137 < 155 by decide) (g_137 cy ad _))) rfl rfl hl.1 rfl (lv_room (Nat.le_of_ble_eq_true rfl)) dL_law_1079 ⟨(show cells + 1 + 0 ≤ 601024 by omega), (show slots + 6 + 0 ≤ 7293034 by omega)⟩) hS (fun q _ h => h) (fun q h => h) (fun bb u2 t H1 locs ht hvm hm hB9 hz1 hk1 hS => ?_)
  have hm : PM_bundle b1 x0 u1 bb u2 := hm
  have hP : va_P D vwCl (wd cy ad 155 u2 ++ []) H1 := by rw [← ht]; exact hB9
  clear hB9 ht hvm hz1 hk1
  generalize H1 = H at hP hS ⊢
  have hcn := pq_bundle h hw hm
  refine lv_istore (lv' := [(6, .int bb), (5, .int r), (0, .ref b), (1, .ref (ad 0)), (2, .ref (ad 137)), (3, .ref (ad 154)), (4, .int (nI i))]) hx hb dL_law_1082 hl (by decide) rfl (fun ls hl => ?_)
  refine lv_aload_n hx hb dL_law_1084 rfl (lv_at hl 4 rfl) ?_
  refine vp_callSi (W.runV (As := []) (rest := []) ⟨hx, hb, hml, hown, hts⟩ (kX6_thrown l (M := u2) (by decide)) (cwV 0 hts gL_law_X6_thrown rfl rfl rfl (by decide +kernel) ⟨Nat.le_of_ble_eq_true rfl, Nat.le_of_ble_eq_true rfl⟩) (ro_pv (ci := 5) (q := (RX6, TX6, 27)) hE hP rfl (wd_at (M := u2) (show 137 < 155 by decide) (g_137 cy ad _))) rfl rfl hl.1 rfl (lv_room (Nat.le_of_ble_eq_true rfl)) dL_law_1085 ⟨(show _ ≤ 601024 by omega), (show _ ≤ 7293034 by omega)⟩) (fun v9 hv9 => ?_)
  refine lv_iload hx hb dL_law_1088 (lv_at hl 1 rfl) ?_
  refine lv_icmp_eq (tgt := 1095) hx hb dL_law_1090 (by decide) (fun c9 => ?_) (fun c9 => absurd (hv9.trans hcn.1) c9)
  refine lv_iload hx hb dL_law_1095 (lv_at hl 1 rfl) ?_
  refine lv_if_ne (tgt := 1112) hx hb dL_law_1097 (by decide) (fun c8 => ?_) (fun c8 => ?_)
  · refine lv_goto (tgt := 1243) hx hb dL_law_1112 (by decide) ?_
    refine W.widen (k := cells + 9) (n := slots + 38) (by omega) (by omega) ?_
    exact kk u2 _ _ ls hcn.2.2 hP hS (lv_sub hl [2, 3, 4, 5, 6] rfl)
  · have e8 := hcn.2.1 (c8.trans nI_0.symm)
    refine lv_aload_n hx hb dL_law_1100 rfl (lv_at hl 5 rfl) ?_
    refine lv_iconst (v := nI 0) hx hb dL_law_1101 (by decide) ?_
    refine va_lald (D := D) (cl := vwCl) hx hb hE.1 hP 154 2 (wd_at (by decide) (g_154 cy ad _)) rfl (vn_ins rfl (by decide : 0 < 1) (by decide)) dL_law_1102 ?_
    refine lv_iload hx hb dL_law_1103 (lv_at hl 0 rfl) ?_
    refine lv_i2l hx hb dL_law_1105 rfl ?_
    refine W.lcmp hx hb dL_law_1106 ?_
    refine wr_top (y := 0) (show lg_cmp ((u2 154 0).toInt64) (bb.toInt64) = 0 by rw [e8]; exact lc_0 _) ?_
    refine lv_if_eq (tgt := 1112) hx hb dL_law_1107 (by decide) (fun _ => ?_) (fun c7 => absurd rfl c7)
    refine lv_goto (tgt := 1243) hx hb dL_law_1112 (by decide) ?_
    refine W.widen (k := cells + 9) (n := slots + 38) (by omega) (by omega) ?_
    exact kk u2 _ _ ls hcn.2.2 hP hS (lv_sub hl [2, 3, 4, 5, 6] rfl)

set_option maxHeartbeats 1000000 in
set_option maxRecDepth 100000 in
theorem kC_poke {p : Program} {l : Launch} {e : Env} {s : State} {m : MethodId} {below : List Frame} {meth : Method} {c : Code} {b L : Nat} {xs : Nat → Int32} {D : va_G} {cy ad : Nat → Nat} (C0 : LC p l s m c b L xs D cy ad) {M : Mm} (hR : RR M) {i : Nat} (hi : i + 6 ≤ L) (hL : L ≤ 3072) {H : Heap} {locs : List Loc} {cells slots : Nat} {ls : Array Slot} {Q : State → Prop} (hP : va_P D vwCl (wd cy ad 155 M ++ []) H) (hS : va_S (AL s) s.heap H locs) (hc : cells + 9 ≤ 601024) (hs : slots + 38 ≤ 7293034) (hl : lv_has ls 7 [(0, .ref b), (1, .ref (ad 0)), (2, .ref (ad 137)), (3, .ref (ad 154)), (4, .int (nI i))])
    (kk : ∀ (M2 : Mm) (H2 : Heap) (locs2 : List Loc) (ls2 : Array Slot), RR M2 → va_P D vwCl (wd cy ad 155 M2 ++ []) H2 → va_S (AL s) s.heap H2 locs2 → lv_has ls2 7 [(0, .ref b), (1, .ref (ad 0)), (2, .ref (ad 137)), (3, .ref (ad 154)), (4, .int (nI i))] → W p l e room_1 s m #[Value.ref b] below meth c H2 locs2 (cells + 9) (slots + 38) Q (F0 m 1243 ls2 [])) : W p l e room_1 s m #[Value.ref b] below meth c H locs cells slots Q (F0 m 1115 ls []) := by
  obtain ⟨hx, hb, hml, hown, hts, hX, hbl, hE, hXF, hN1, hN2, hN3, hN4, hD, hlt⟩ := C0
  obtain ⟨mc, rc, tc, d, b1, rs, sc, sr, h⟩ := hR
  have hA : ∀ q, s.heap.size ≤ q → AL s q := fun _ h => h
  have hbA : ¬ AL s b := Nat.not_le.mpr hbl
  obtain ⟨x0, ex0⟩ : ∃ y, y = xs (i + 1) := ⟨_, rfl⟩
  obtain ⟨x1, ex1⟩ : ∃ y, y = xs (i + 2) := ⟨_, rfl⟩
  refine lv_aload_n hx hb dL_law_1115 rfl (lv_at hl 1 rfl) ?_
  refine lv_aload_n hx hb dL_law_1116 rfl (lv_at hl 0 rfl) ?_
  refine lv_iload hx hb dL_law_1117 (lv_at hl 4 rfl) ?_
  refine lv_iconst (v := nI 1) hx hb dL_law_1119 (by decide) ?_
  refine lv_iadd hx hb dL_law_1120 ?_
  refine wr_top (y := nI (i + 1)) (nI_add _ _) ?_
  refine va_sld hx hb hX hbl hbA hS (vp_in_nI (show i + 1 < L by omega) (by omega)) dL_law_1121 ?_
  refine wr_top (y := x0) ((congrArg xs (nI_clamp (by omega))).trans ex0.symm) ?_
  refine lv_aload_n hx hb dL_law_1122 rfl (lv_at hl 0 rfl) ?_
  refine lv_iload hx hb dL_law_1123 (lv_at hl 4 rfl) ?_
  refine lv_iconst (v := nI 2) hx hb dL_law_1125 (by decide) ?_
  refine lv_iadd hx hb dL_law_1126 ?_
  refine wr_top (y := nI (i + 2)) (nI_add _ _) ?_
  refine va_sld hx hb hX hbl hbA hS (vp_in_nI (show i + 2 < L by omega) (by omega)) dL_law_1127 ?_
  refine wr_top (y := x1) ((congrArg xs (nI_clamp (by omega))).trans ex1.symm) ?_
  refine vx_calli (vx_runSX (hh := [(0, 6, 9, 36)]) (As := [.ref (ad 0), .int x0, .int x1]) (rest := []) ⟨hx, hb, hml, hown, hts⟩ (kL_poke l hD (by decide) (P := PC_poke b1 x0 x1 M) (X := XC_poke b1 x0 x1 M) (fun _ _ hx => hx.1) (kX5_poke l hlt hD (by decide) (rl_cb h) (rl_b200 h))) (vx_cwSW 3 hts gL_law_L_poke rfl rfl rfl (by decide +kernel) ⟨Nat.le_of_ble_eq_true rfl, Nat.le_of_ble_eq_true rfl⟩) (lp_ps hE hP hS hA hXF hN1 hN2 hN3 hN4) rfl rfl hl.1 rfl (lv_room (Nat.le_of_ble_eq_true rfl)) dL_law_1128 ⟨(show cells + 1 ≤ 601024 by omega), (show slots + 6 ≤ 7293034 by omega)⟩) hS (fun q _ h => h) (fun q h => h) (fun q _ h => h) (fun E9 ce q9 u t H1 locs1 ht hvm hpx hBX hz1 hk1 hS hce hcv hcl => False.elim hBX) (fun r u1 t H1 locs ht hvm hw hB9 hz1 hk1 hS => ?_)
  have hw : WR_poke b1 x0 x1 M r u1 := hw
  have hP : va_P D vwCl (wd cy ad 155 u1 ++ []) H1 := by rw [← ht]; exact hB9
  clear hB9 ht hvm hz1 hk1
  generalize H1 = H at hP hS ⊢
  obtain ⟨m1, m2, m3, m4, m5, m6, m7, m8, m9, m10⟩ := rm_of h (md_poke h hw)
  refine lv_istore (lv' := [(5, .int r), (0, .ref b), (1, .ref (ad 0)), (2, .ref (ad 137)), (3, .ref (ad 154)), (4, .int (nI i))]) hx hb dL_law_1131 hl (by decide) rfl (fun ls hl => ?_)
  refine lv_aload_n hx hb dL_law_1133 rfl (lv_at hl 3 rfl) ?_
  refine lv_aload_n hx hb dL_law_1134 rfl (lv_at hl 1 rfl) ?_
  refine lv_iload hx hb dL_law_1135 (lv_at hl 5 rfl) ?_
  refine lv_iconst (v := nI 1) hx hb dL_law_1137 (by decide) ?_
  refine lv_iadd hx hb dL_law_1138 ?_
  refine wr_top (y := nI (i + 1)) (nI_add _ _) ?_
  refine va_sld hx hb hX hbl hbA hS (vp_in_nI (show i + 1 < L by omega) (by omega)) dL_law_1139 ?_
  refine wr_top (y := x0) ((congrArg xs (nI_clamp (by omega))).trans ex0.symm) ?_
  refine lv_aload_n hx hb dL_law_1140 rfl (lv_at hl 1 rfl) ?_
  refine lv_iload hx hb dL_law_1141 (lv_at hl 5 rfl) ?_
  refine lv_iconst (v := nI 2) hx hb dL_law_1143 (by decide) ?_
  refine lv_iadd hx hb dL_law_1144 ?_
  refine wr_top (y := nI (i + 2)) (nI_add _ _) ?_
  refine va_sld hx hb hX hbl hbA hS (vp_in_nI (show i + 2 < L by omega) (by omega)) dL_law_1145 ?_
  refine wr_top (y := x1) ((congrArg xs (nI_clamp (by omega))).trans ex1.symm) ?_
  refine va_callv (va_runV (As := [.int x0, .int x1]) (rest := []) ⟨hx, hb, hml, hown, hts⟩ (kX6_poke l hD (by decide) m5 (rl_b200 h)) (cwV 2 hts gL_law_X6_poke rfl rfl rfl (by decide +kernel) ⟨Nat.le_of_ble_eq_true rfl, Nat.le_of_ble_eq_true rfl⟩) (rw_pv (ci := 5) (q := (RX6, TX6, 27)) hE hP hS hA rfl (wd_at (M := u1) (show 137 < 155 by decide) (g_137 cy ad _))) rfl rfl hl.1 rfl (lv_room (Nat.le_of_ble_eq_true rfl)) dL_law_1146 ⟨(show cells + 1 + 0 ≤ 601024 by omega), (show slots + 6 + 0 ≤ 7293034 by omega)⟩) hS (fun q _ h => h) (fun q h => h) (fun u2 t H1 locs ht hvm hm hB9 hz1 hk1 hS => ?_)
  have hm : PM_poke b1 x0 x1 u1 u2 := hm
  have hP : va_P D vwCl (wd cy ad 155 u2 ++ []) H1 := by rw [← ht]; exact hB9
  clear hB9 ht hvm hz1 hk1
  generalize H1 = H at hP hS ⊢
  have hcn := pq_poke h hw hm
  refine lv_aload_n hx hb dL_law_1149 rfl (lv_at hl 3 rfl) ?_
  refine vp_callSi (W.runV (As := []) (rest := []) ⟨hx, hb, hml, hown, hts⟩ (kX6_thrown l (M := u2) (by decide)) (cwV 0 hts gL_law_X6_thrown rfl rfl rfl (by decide +kernel) ⟨Nat.le_of_ble_eq_true rfl, Nat.le_of_ble_eq_true rfl⟩) (ro_pv (ci := 5) (q := (RX6, TX6, 27)) hE hP rfl (wd_at (M := u2) (show 137 < 155 by decide) (g_137 cy ad _))) rfl rfl hl.1 rfl (lv_room (Nat.le_of_ble_eq_true rfl)) dL_law_1150 ⟨(show _ ≤ 601024 by omega), (show _ ≤ 7293034 by omega)⟩) (fun v9 hv9 => ?_)
  refine lv_iload hx hb dL_law_1153 (lv_at hl 0 rfl) ?_
  refine lv_icmp_eq (tgt := 1160) hx hb dL_law_1155 (by decide) (fun c9 => ?_) (fun c9 => absurd (hv9.trans hcn.1) c9)
  refine lv_goto (tgt := 1243) hx hb dL_law_1160 (by decide) ?_
  refine W.widen (k := cells + 9) (n := slots + 38) (by omega) (by omega) ?_
  exact kk u2 _ _ ls hcn.2 hP hS (lv_sub hl [1, 2, 3, 4, 5] rfl)

set_option maxHeartbeats 1000000 in
set_option maxRecDepth 100000 in
theorem kC_cut {p : Program} {l : Launch} {e : Env} {s : State} {m : MethodId} {below : List Frame} {meth : Method} {c : Code} {b L : Nat} {xs : Nat → Int32} {D : va_G} {cy ad : Nat → Nat} (C0 : LC p l s m c b L xs D cy ad) {M : Mm} (hR : RR M) {i : Nat} (hi : i + 6 ≤ L) (hL : L ≤ 3072) {H : Heap} {locs : List Loc} {cells slots : Nat} {ls : Array Slot} {Q : State → Prop} (hP : va_P D vwCl (wd cy ad 155 M ++ []) H) (hS : va_S (AL s) s.heap H locs) (hc : cells + 9 ≤ 601024) (hs : slots + 38 ≤ 7293034) (hl : lv_has ls 7 [(0, .ref b), (1, .ref (ad 0)), (2, .ref (ad 137)), (3, .ref (ad 154)), (4, .int (nI i))])
    (kk : ∀ (M2 : Mm) (H2 : Heap) (locs2 : List Loc) (ls2 : Array Slot), RR M2 → va_P D vwCl (wd cy ad 155 M2 ++ []) H2 → va_S (AL s) s.heap H2 locs2 → lv_has ls2 7 [(0, .ref b), (1, .ref (ad 0)), (2, .ref (ad 137)), (3, .ref (ad 154)), (4, .int (nI i))] → W p l e room_1 s m #[Value.ref b] below meth c H2 locs2 (cells + 9) (slots + 38) Q (F0 m 1243 ls2 [])) : W p l e room_1 s m #[Value.ref b] below meth c H locs cells slots Q (F0 m 1163 ls []) := by
  obtain ⟨hx, hb, hml, hown, hts, hX, hbl, hE, hXF, hN1, hN2, hN3, hN4, hD, hlt⟩ := C0
  obtain ⟨mc, rc, tc, d, b1, rs, sc, sr, h⟩ := hR
  have hA : ∀ q, s.heap.size ≤ q → AL s q := fun _ h => h
  have hbA : ¬ AL s b := Nat.not_le.mpr hbl
  obtain ⟨x0, ex0⟩ : ∃ y, y = xs (i + 1) := ⟨_, rfl⟩
  refine lv_aload_n hx hb dL_law_1163 rfl (lv_at hl 1 rfl) ?_
  refine lv_aload_n hx hb dL_law_1164 rfl (lv_at hl 0 rfl) ?_
  refine lv_iload hx hb dL_law_1165 (lv_at hl 4 rfl) ?_
  refine lv_iconst (v := nI 1) hx hb dL_law_1167 (by decide) ?_
  refine lv_iadd hx hb dL_law_1168 ?_
  refine wr_top (y := nI (i + 1)) (nI_add _ _) ?_
  refine va_sld hx hb hX hbl hbA hS (vp_in_nI (show i + 1 < L by omega) (by omega)) dL_law_1169 ?_
  refine wr_top (y := x0) ((congrArg xs (nI_clamp (by omega))).trans ex0.symm) ?_
  refine vx_calli (vx_runSX (hh := [(0, 5, 8, 13)]) (As := [.ref (ad 0), .int x0]) (rest := []) ⟨hx, hb, hml, hown, hts⟩ (kL_cut l hD (by decide) (P := PC_cut b1 x0 M) (X := XC_cut b1 x0 M) (fun _ _ hx => hx.1) (kX5_cut l hlt hD (by decide) (rl_cb h) (rl_b200 h))) (vx_cwSW 2 hts gL_law_L_cut rfl rfl rfl (by decide +kernel) ⟨Nat.le_of_ble_eq_true rfl, Nat.le_of_ble_eq_true rfl⟩) (lp_ps hE hP hS hA hXF hN1 hN2 hN3 hN4) rfl rfl hl.1 rfl (lv_room (Nat.le_of_ble_eq_true rfl)) dL_law_1170 ⟨(show cells + 1 ≤ 601024 by omega), (show slots + 6 ≤ 7293034 by omega)⟩) hS (fun q _ h => h) (fun q h => h) (fun q _ h => h) (fun E9 ce q9 u t H1 locs1 ht hvm hpx hBX hz1 hk1 hS hce hcv hcl => False.elim hBX) (fun r u1 t H1 locs ht hvm hw hB9 hz1 hk1 hS => ?_)
  have hw : WR_cut b1 x0 M r u1 := hw
  have hP : va_P D vwCl (wd cy ad 155 u1 ++ []) H1 := by rw [← ht]; exact hB9
  clear hB9 ht hvm hz1 hk1
  generalize H1 = H at hP hS ⊢
  obtain ⟨m1, m2, m3, m4, m5, m6, m7, m8, m9, m10⟩ := rm_of h (md_cut h hw)
  refine lv_istore (lv' := [(5, .int r), (0, .ref b), (1, .ref (ad 0)), (2, .ref (ad 137)), (3, .ref (ad 154)), (4, .int (nI i))]) hx hb dL_law_1173 hl (by decide) rfl (fun ls hl => ?_)
  refine lv_aload_n hx hb dL_law_1175 rfl (lv_at hl 3 rfl) ?_
  refine lv_aload_n hx hb dL_law_1176 rfl (lv_at hl 1 rfl) ?_
  refine lv_iload hx hb dL_law_1177 (lv_at hl 5 rfl) ?_
  refine lv_iconst (v := nI 1) hx hb dL_law_1179 (by decide) ?_
  refine lv_iadd hx hb dL_law_1180 ?_
  refine wr_top (y := nI (i + 1)) (nI_add _ _) ?_
  refine va_sld hx hb hX hbl hbA hS (vp_in_nI (show i + 1 < L by omega) (by omega)) dL_law_1181 ?_
  refine wr_top (y := x0) ((congrArg xs (nI_clamp (by omega))).trans ex0.symm) ?_
  refine va_callv (va_runV (As := [.int x0]) (rest := []) ⟨hx, hb, hml, hown, hts⟩ (kX6_cut l hD (by decide) m5 (rl_b200 h)) (cwV 1 hts gL_law_X6_cut rfl rfl rfl (by decide +kernel) ⟨Nat.le_of_ble_eq_true rfl, Nat.le_of_ble_eq_true rfl⟩) (rw_pv (ci := 5) (q := (RX6, TX6, 27)) hE hP hS hA rfl (wd_at (M := u1) (show 137 < 155 by decide) (g_137 cy ad _))) rfl rfl hl.1 rfl (lv_room (Nat.le_of_ble_eq_true rfl)) dL_law_1182 ⟨(show cells + 1 + 0 ≤ 601024 by omega), (show slots + 6 + 0 ≤ 7293034 by omega)⟩) hS (fun q _ h => h) (fun q h => h) (fun u2 t H1 locs ht hvm hm hB9 hz1 hk1 hS => ?_)
  have hm : PM_cut b1 x0 u1 u2 := hm
  have hP : va_P D vwCl (wd cy ad 155 u2 ++ []) H1 := by rw [← ht]; exact hB9
  clear hB9 ht hvm hz1 hk1
  generalize H1 = H at hP hS ⊢
  have hcn := pq_cut h hw hm
  refine lv_aload_n hx hb dL_law_1185 rfl (lv_at hl 3 rfl) ?_
  refine vp_callSi (W.runV (As := []) (rest := []) ⟨hx, hb, hml, hown, hts⟩ (kX6_thrown l (M := u2) (by decide)) (cwV 0 hts gL_law_X6_thrown rfl rfl rfl (by decide +kernel) ⟨Nat.le_of_ble_eq_true rfl, Nat.le_of_ble_eq_true rfl⟩) (ro_pv (ci := 5) (q := (RX6, TX6, 27)) hE hP rfl (wd_at (M := u2) (show 137 < 155 by decide) (g_137 cy ad _))) rfl rfl hl.1 rfl (lv_room (Nat.le_of_ble_eq_true rfl)) dL_law_1186 ⟨(show _ ≤ 601024 by omega), (show _ ≤ 7293034 by omega)⟩) (fun v9 hv9 => ?_)
  refine lv_iload hx hb dL_law_1189 (lv_at hl 0 rfl) ?_
  refine lv_icmp_eq (tgt := 1196) hx hb dL_law_1191 (by decide) (fun c9 => ?_) (fun c9 => absurd (hv9.trans hcn.1) c9)
  refine lv_goto (tgt := 1243) hx hb dL_law_1196 (by decide) ?_
  refine W.widen (k := cells + 9) (n := slots + 38) (by omega) (by omega) ?_
  exact kk u2 _ _ ls hcn.2 hP hS (lv_sub hl [1, 2, 3, 4, 5] rfl)

set_option maxHeartbeats 1000000 in
set_option maxRecDepth 100000 in
theorem kC_check {p : Program} {l : Launch} {e : Env} {s : State} {m : MethodId} {below : List Frame} {meth : Method} {c : Code} {b L : Nat} {xs : Nat → Int32} {D : va_G} {cy ad : Nat → Nat} (C0 : LC p l s m c b L xs D cy ad) {M : Mm} (hR : RR M) {i : Nat} (hi : i + 6 ≤ L) (hL : L ≤ 3072) {H : Heap} {locs : List Loc} {cells slots : Nat} {ls : Array Slot} {Q : State → Prop} (hP : va_P D vwCl (wd cy ad 155 M ++ []) H) (hS : va_S (AL s) s.heap H locs) (hc : cells + 9 ≤ 601024) (hs : slots + 38 ≤ 7293034) (hl : lv_has ls 7 [(0, .ref b), (1, .ref (ad 0)), (2, .ref (ad 137)), (3, .ref (ad 154)), (4, .int (nI i))])
    (kk : ∀ (M2 : Mm) (H2 : Heap) (locs2 : List Loc) (ls2 : Array Slot), RR M2 → va_P D vwCl (wd cy ad 155 M2 ++ []) H2 → va_S (AL s) s.heap H2 locs2 → lv_has ls2 7 [(0, .ref b), (1, .ref (ad 0)), (2, .ref (ad 137)), (3, .ref (ad 154)), (4, .int (nI i))] → W p l e room_1 s m #[Value.ref b] below meth c H2 locs2 (cells + 9) (slots + 38) Q (F0 m 1243 ls2 [])) : W p l e room_1 s m #[Value.ref b] below meth c H locs cells slots Q (F0 m 1199 ls []) := by
  obtain ⟨hx, hb, hml, hown, hts, hX, hbl, hE, hXF, hN1, hN2, hN3, hN4, hD, hlt⟩ := C0
  obtain ⟨mc, rc, tc, d, b1, rs, sc, sr, h⟩ := hR
  have hA : ∀ q, s.heap.size ≤ q → AL s q := fun _ h => h
  have hbA : ¬ AL s b := Nat.not_le.mpr hbl
  refine lv_aload_n hx hb dL_law_1199 rfl (lv_at hl 1 rfl) ?_
  refine lv_aload_n hx hb dL_law_1200 rfl (lv_at hl 3 rfl) ?_
  refine vx_calli (vx_runSX (hh := [(0, 8, 11, 13)]) (As := [.ref (ad 0), .ref (ad 154)]) (rest := []) ⟨hx, hb, hml, hown, hts⟩ (kL_check l (x9 := 0) hD (by decide) (P := PC_check b1 M) (X := XC_check b1 M) (fun _ _ hx => hx.1) (kX5_check l hlt hD (by decide) (rl_cb h) (rl_b200 h))) (vx_cwSW 2 hts gL_law_L_check rfl rfl rfl (by decide +kernel) ⟨Nat.le_of_ble_eq_true rfl, Nat.le_of_ble_eq_true rfl⟩) (lp_ps hE hP hS hA hXF hN1 hN2 hN3 hN4) rfl rfl hl.1 rfl (lv_room (Nat.le_of_ble_eq_true rfl)) dL_law_1201 ⟨(show cells + 9 ≤ 601024 by omega), (show slots + 38 ≤ 7293034 by omega)⟩) hS (fun q _ h => h) (fun q h => h) (fun q _ h => h) (fun E9 ce q9 u t H1 locs1 ht hvm hpx hBX hz1 hk1 hS hce hcv hcl => False.elim hBX) (fun r u1 t H1 locs ht hvm hw hB9 hz1 hk1 hS => ?_)
  have hw : WR_check b1 M r u1 := hw
  have hP : va_P D vwCl (wd cy ad 155 u1 ++ []) H1 := by rw [← ht]; exact hB9
  clear hB9 ht hvm hz1 hk1
  generalize H1 = H at hP hS ⊢
  obtain ⟨m1, m2, m3, m4, m5, m6, m7, m8, m9, m10⟩ := rm_of h (md_check h hw)
  refine lv_istore (lv' := [(5, .int r), (0, .ref b), (1, .ref (ad 0)), (2, .ref (ad 137)), (3, .ref (ad 154)), (4, .int (nI i))]) hx hb dL_law_1204 hl (by decide) rfl (fun ls hl => ?_)
  refine lv_aload_n hx hb dL_law_1206 rfl (lv_at hl 3 rfl) ?_
  refine va_calli (va_runV (As := []) (rest := []) ⟨hx, hb, hml, hown, hts⟩ (kX6_check l hD (by decide) m5 (rl_b200 h) m10) (cwV 0 hts gL_law_X6_check rfl rfl rfl (by decide +kernel) ⟨Nat.le_of_ble_eq_true rfl, Nat.le_of_ble_eq_true rfl⟩) (rw_pv (ci := 5) (q := (RX6, TX6, 27)) hE hP hS hA rfl (wd_at (M := u1) (show 137 < 155 by decide) (g_137 cy ad _))) rfl rfl hl.1 rfl (lv_room (Nat.le_of_ble_eq_true rfl)) dL_law_1207 ⟨(show cells + 9 + 0 ≤ 601024 by omega), (show slots + 38 + 0 ≤ 7293034 by omega)⟩) hS (fun q _ h => h) (fun q h => h) (fun bb u2 t H1 locs ht hvm hm hB9 hz1 hk1 hS => ?_)
  have hm : PM_check b1 u1 bb u2 := hm
  have hP : va_P D vwCl (wd cy ad 155 u2 ++ []) H1 := by rw [← ht]; exact hB9
  clear hB9 ht hvm hz1 hk1
  generalize H1 = H at hP hS ⊢
  have hcn := pq_check h hw hm
  refine lv_istore (lv' := [(6, .int bb), (5, .int r), (0, .ref b), (1, .ref (ad 0)), (2, .ref (ad 137)), (3, .ref (ad 154)), (4, .int (nI i))]) hx hb dL_law_1210 hl (by decide) rfl (fun ls hl => ?_)
  refine lv_aload_n hx hb dL_law_1212 rfl (lv_at hl 4 rfl) ?_
  refine vp_callSi (W.runV (As := []) (rest := []) ⟨hx, hb, hml, hown, hts⟩ (kX6_thrown l (M := u2) (by decide)) (cwV 0 hts gL_law_X6_thrown rfl rfl rfl (by decide +kernel) ⟨Nat.le_of_ble_eq_true rfl, Nat.le_of_ble_eq_true rfl⟩) (ro_pv (ci := 5) (q := (RX6, TX6, 27)) hE hP rfl (wd_at (M := u2) (show 137 < 155 by decide) (g_137 cy ad _))) rfl rfl hl.1 rfl (lv_room (Nat.le_of_ble_eq_true rfl)) dL_law_1213 ⟨(show _ ≤ 601024 by omega), (show _ ≤ 7293034 by omega)⟩) (fun v9 hv9 => ?_)
  refine lv_iload hx hb dL_law_1216 (lv_at hl 1 rfl) ?_
  refine lv_icmp_eq (tgt := 1223) hx hb dL_law_1218 (by decide) (fun c9 => ?_) (fun c9 => absurd (hv9.trans hcn.1) c9)
  refine lv_iload hx hb dL_law_1223 (lv_at hl 1 rfl) ?_
  refine lv_if_ne (tgt := 1240) hx hb dL_law_1225 (by decide) (fun c8 => ?_) (fun c8 => ?_)
  · refine lv_goto (tgt := 1243) hx hb dL_law_1240 (by decide) ?_
    refine W.widen (k := cells + 9) (n := slots + 38) (by omega) (by omega) ?_
    exact kk u2 _ _ ls hcn.2.2 hP hS (lv_sub hl [2, 3, 4, 5, 6] rfl)
  · have e8 := hcn.2.1 (c8.trans nI_0.symm)
    refine lv_aload_n hx hb dL_law_1228 rfl (lv_at hl 5 rfl) ?_
    refine lv_iconst (v := nI 0) hx hb dL_law_1229 (by decide) ?_
    refine va_lald (D := D) (cl := vwCl) hx hb hE.1 hP 154 2 (wd_at (by decide) (g_154 cy ad _)) rfl (vn_ins rfl (by decide : 0 < 1) (by decide)) dL_law_1230 ?_
    refine lv_iload hx hb dL_law_1231 (lv_at hl 0 rfl) ?_
    refine lv_i2l hx hb dL_law_1233 rfl ?_
    refine W.lcmp hx hb dL_law_1234 ?_
    refine wr_top (y := 0) (show lg_cmp ((u2 154 0).toInt64) (bb.toInt64) = 0 by rw [e8]; exact lc_0 _) ?_
    refine lv_if_eq (tgt := 1240) hx hb dL_law_1235 (by decide) (fun _ => ?_) (fun c7 => absurd rfl c7)
    refine lv_goto (tgt := 1243) hx hb dL_law_1240 (by decide) ?_
    refine W.widen (k := cells + 9) (n := slots + 38) (by omega) (by omega) ?_
    exact kk u2 _ _ ls hcn.2.2 hP hS (lv_sub hl [2, 3, 4, 5, 6] rfl)
