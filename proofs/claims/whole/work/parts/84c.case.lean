/-! the law's cases, on -/
set_option maxHeartbeats 1000000 in
set_option maxRecDepth 100000 in
theorem kC_submit {p : Program} {l : Launch} {e : Env} {s : State} {m : MethodId} {below : List Frame} {meth : Method} {c : Code} {b L : Nat} {xs : Nat → Int32} {D : va_G} {cy ad : Nat → Nat} (C0 : LC p l s m c b L xs D cy ad) {M : Mm} (hR : RR M) {i : Nat} (hi : i + 6 ≤ L) (hL : L ≤ 3072) {H : Heap} {locs : List Loc} {cells slots : Nat} {ls : Array Slot} {Q : State → Prop} (hP : va_P D vwCl (wd cy ad 155 M ++ []) H) (hS : va_S (AL s) s.heap H locs) (hc : cells + 9 ≤ 601024) (hs : slots + 38 ≤ 7293034) (hl : lv_has ls 7 [(0, .ref b), (1, .ref (ad 0)), (2, .ref (ad 137)), (3, .ref (ad 154)), (4, .int (nI i))])
    (kk : ∀ (M2 : Mm) (H2 : Heap) (locs2 : List Loc) (ls2 : Array Slot), RR M2 → va_P D vwCl (wd cy ad 155 M2 ++ []) H2 → va_S (AL s) s.heap H2 locs2 → lv_has ls2 7 [(0, .ref b), (1, .ref (ad 0)), (2, .ref (ad 137)), (3, .ref (ad 154)), (4, .int (nI i))] → W p l e room_1 s m #[Value.ref b] below meth c H2 locs2 (cells + 9) (slots + 38) Q (F0 m 1243 ls2 [])) : W p l e room_1 s m #[Value.ref b] below meth c H locs cells slots Q (F0 m 620 ls []) := by
  obtain ⟨hx, hb, hml, hown, hts, hX, hbl, hE, hXF, hN1, hN2, hN3, hN4, hD, hlt⟩ := C0
  obtain ⟨mc, rc, tc, d, b1, rs, sc, sr, h⟩ := hR
  have hA : ∀ q, s.heap.size ≤ q → AL s q := fun _ h => h
  have hbA : ¬ AL s b := Nat.not_le.mpr hbl
  obtain ⟨x0, ex0⟩ : ∃ y, y = xs (i + 1) := ⟨_, rfl⟩
  obtain ⟨x1, ex1⟩ : ∃ y, y = xs (i + 2) := ⟨_, rfl⟩
  obtain ⟨x2, ex2⟩ : ∃ y, y = xs (i + 3) := ⟨_, rfl⟩
  refine lv_aload_n hx hb dL_law_620 rfl (lv_at hl 1 rfl) ?_
  refine lv_aload_n hx hb dL_law_621 rfl (lv_at hl 0 rfl) ?_
  refine lv_iload hx hb dL_law_622 (lv_at hl 4 rfl) ?_
  refine lv_iconst (v := nI 1) hx hb dL_law_624 (by decide) ?_
  refine lv_iadd hx hb dL_law_625 ?_
  refine wr_top (y := nI (i + 1)) (nI_add _ _) ?_
  refine va_sld hx hb hX hbl hbA hS (vp_in_nI (show i + 1 < L by omega) (by omega)) dL_law_626 ?_
  refine wr_top (y := x0) ((congrArg xs (nI_clamp (by omega))).trans ex0.symm) ?_
  refine lv_aload_n hx hb dL_law_627 rfl (lv_at hl 0 rfl) ?_
  refine lv_iload hx hb dL_law_628 (lv_at hl 4 rfl) ?_
  refine lv_iconst (v := nI 2) hx hb dL_law_630 (by decide) ?_
  refine lv_iadd hx hb dL_law_631 ?_
  refine wr_top (y := nI (i + 2)) (nI_add _ _) ?_
  refine va_sld hx hb hX hbl hbA hS (vp_in_nI (show i + 2 < L by omega) (by omega)) dL_law_632 ?_
  refine wr_top (y := x1) ((congrArg xs (nI_clamp (by omega))).trans ex1.symm) ?_
  refine lv_aload_n hx hb dL_law_633 rfl (lv_at hl 0 rfl) ?_
  refine lv_iload hx hb dL_law_634 (lv_at hl 4 rfl) ?_
  refine lv_iconst (v := nI 3) hx hb dL_law_636 (by decide) ?_
  refine lv_iadd hx hb dL_law_637 ?_
  refine wr_top (y := nI (i + 3)) (nI_add _ _) ?_
  refine va_sld hx hb hX hbl hbA hS (vp_in_nI (show i + 3 < L by omega) (by omega)) dL_law_638 ?_
  refine wr_top (y := x2) ((congrArg xs (nI_clamp (by omega))).trans ex2.symm) ?_
  refine lv_aload_n hx hb dL_law_639 rfl (lv_at hl 3 rfl) ?_
  refine vx_calli (vx_runSX (hh := [(0, 12, 15, 13), (0, 12, 19, 15), (0, 12, 23, 46)]) (As := [.ref (ad 0), .int x0, .int x1, .int x2, .ref (ad 154)]) (rest := []) ⟨hx, hb, hml, hown, hts⟩ (kL_submit l hD (by decide) (P := PC_submit rc tc rs x0 x1 x2 sc M) (X := XC_submit rc tc rs x0 x1 x2 sc M) (fun _ _ hx => hx.1.elim (fun q => Or.inl q.1) (fun q => q.elim (fun q => Or.inr (Or.inl q.1)) (fun q => q.elim (fun q => Or.inl q.1) (fun q => Or.inr (Or.inr q.1))))) (kX5_submit l hlt hD (by decide) (rl_crc h) (rl_rc8 h) (rl_ctc h) (rl_tc6 h) (rl_crg h) (rl_cbs h) (sc := sc) (fun t _ => ⟨rl_ccn h t, rl_sc8 h t⟩))) (vx_cwSW 5 hts gL_law_L_submit rfl rfl rfl (by decide +kernel) ⟨Nat.le_of_ble_eq_true rfl, Nat.le_of_ble_eq_true rfl⟩) (lp_ps hE hP hS hA hXF hN1 hN2 hN3 hN4) rfl rfl hl.1 rfl (lv_room (Nat.le_of_ble_eq_true rfl)) dL_law_640 ⟨(show cells + 4 ≤ 601024 by omega), (show slots + 22 ≤ 7293034 by omega)⟩) hS (fun q _ h => h) (fun q h => h) (fun q _ h => h) (fun E9 ce q9 u t H1 locs1 ht hvm hpx hBX hz1 hk1 hS hce hcv hcl => False.elim hBX) (fun r u1 t H1 locs ht hvm hw hB9 hz1 hk1 hS => ?_)
  have hw : WR_submit rc tc rs x0 x1 x2 sc M r u1 := hw
  have hP : va_P D vwCl (wd cy ad 155 u1 ++ []) H1 := by rw [← ht]; exact hB9
  clear hB9 ht hvm hz1 hk1
  generalize H1 = H at hP hS ⊢
  obtain ⟨m1, m2, m3, m4, m5, m6, m7, m8, m9, m10⟩ := rm_of h (md_submit h hw)
  refine lv_istore (lv' := [(5, .int r), (0, .ref b), (1, .ref (ad 0)), (2, .ref (ad 137)), (3, .ref (ad 154)), (4, .int (nI i))]) hx hb dL_law_643 hl (by decide) rfl (fun ls hl => ?_)
  refine lv_aload_n hx hb dL_law_645 rfl (lv_at hl 3 rfl) ?_
  refine lv_aload_n hx hb dL_law_646 rfl (lv_at hl 1 rfl) ?_
  refine lv_iload hx hb dL_law_647 (lv_at hl 5 rfl) ?_
  refine lv_iconst (v := nI 1) hx hb dL_law_649 (by decide) ?_
  refine lv_iadd hx hb dL_law_650 ?_
  refine wr_top (y := nI (i + 1)) (nI_add _ _) ?_
  refine va_sld hx hb hX hbl hbA hS (vp_in_nI (show i + 1 < L by omega) (by omega)) dL_law_651 ?_
  refine wr_top (y := x0) ((congrArg xs (nI_clamp (by omega))).trans ex0.symm) ?_
  refine lv_aload_n hx hb dL_law_652 rfl (lv_at hl 1 rfl) ?_
  refine lv_iload hx hb dL_law_653 (lv_at hl 5 rfl) ?_
  refine lv_iconst (v := nI 2) hx hb dL_law_655 (by decide) ?_
  refine lv_iadd hx hb dL_law_656 ?_
  refine wr_top (y := nI (i + 2)) (nI_add _ _) ?_
  refine va_sld hx hb hX hbl hbA hS (vp_in_nI (show i + 2 < L by omega) (by omega)) dL_law_657 ?_
  refine wr_top (y := x1) ((congrArg xs (nI_clamp (by omega))).trans ex1.symm) ?_
  refine lv_aload_n hx hb dL_law_658 rfl (lv_at hl 1 rfl) ?_
  refine lv_iload hx hb dL_law_659 (lv_at hl 5 rfl) ?_
  refine lv_iconst (v := nI 3) hx hb dL_law_661 (by decide) ?_
  refine lv_iadd hx hb dL_law_662 ?_
  refine wr_top (y := nI (i + 3)) (nI_add _ _) ?_
  refine va_sld hx hb hX hbl hbA hS (vp_in_nI (show i + 3 < L by omega) (by omega)) dL_law_663 ?_
  refine wr_top (y := x2) ((congrArg xs (nI_clamp (by omega))).trans ex2.symm) ?_
  refine va_calli (va_runV (As := [.int x0, .int x1, .int x2]) (rest := []) ⟨hx, hb, hml, hown, hts⟩ (kX6_submit l hD (by decide) (sc := sc) m2 (rl_rc8 h) m3 (rl_tc6 h) m10 m6 m7 m4 (rl_d8 h) (rl_d2 h) (fun t _ => ⟨m8 t, rl_sc8 h t⟩)) (cwV 3 hts gL_law_X6_submit rfl rfl rfl (by decide +kernel) ⟨Nat.le_of_ble_eq_true rfl, Nat.le_of_ble_eq_true rfl⟩) (rw_pv (ci := 5) (q := (RX6, TX6, 27)) hE hP hS hA rfl (wd_at (M := u1) (show 137 < 155 by decide) (g_137 cy ad _))) rfl rfl hl.1 rfl (lv_room (Nat.le_of_ble_eq_true rfl)) dL_law_664 ⟨(show cells + 4 + 0 ≤ 601024 by omega), (show slots + 22 + 0 ≤ 7293034 by omega)⟩) hS (fun q _ h => h) (fun q h => h) (fun bb u2 t H1 locs ht hvm hm hB9 hz1 hk1 hS => ?_)
  have hm : PM_submit x0 x1 x2 rc tc d rs sc u1 bb u2 := hm
  have hP : va_P D vwCl (wd cy ad 155 u2 ++ []) H1 := by rw [← ht]; exact hB9
  clear hB9 ht hvm hz1 hk1
  generalize H1 = H at hP hS ⊢
  have hcn := pq_submit h hw hm
  refine lv_istore (lv' := [(6, .int bb), (5, .int r), (0, .ref b), (1, .ref (ad 0)), (2, .ref (ad 137)), (3, .ref (ad 154)), (4, .int (nI i))]) hx hb dL_law_667 hl (by decide) rfl (fun ls hl => ?_)
  refine lv_aload_n hx hb dL_law_669 rfl (lv_at hl 4 rfl) ?_
  refine vp_callSi (W.runV (As := []) (rest := []) ⟨hx, hb, hml, hown, hts⟩ (kX6_thrown l (M := u2) (by decide)) (cwV 0 hts gL_law_X6_thrown rfl rfl rfl (by decide +kernel) ⟨Nat.le_of_ble_eq_true rfl, Nat.le_of_ble_eq_true rfl⟩) (ro_pv (ci := 5) (q := (RX6, TX6, 27)) hE hP rfl (wd_at (M := u2) (show 137 < 155 by decide) (g_137 cy ad _))) rfl rfl hl.1 rfl (lv_room (Nat.le_of_ble_eq_true rfl)) dL_law_670 ⟨(show _ ≤ 601024 by omega), (show _ ≤ 7293034 by omega)⟩) (fun v9 hv9 => ?_)
  refine lv_iload hx hb dL_law_673 (lv_at hl 1 rfl) ?_
  refine lv_icmp_eq (tgt := 680) hx hb dL_law_675 (by decide) (fun c9 => ?_) (fun c9 => absurd (hv9.trans hcn.1) c9)
  refine lv_iload hx hb dL_law_680 (lv_at hl 1 rfl) ?_
  refine lv_if_ne (tgt := 697) hx hb dL_law_682 (by decide) (fun c8 => ?_) (fun c8 => ?_)
  · refine lv_goto (tgt := 1243) hx hb dL_law_697 (by decide) ?_
    refine W.widen (k := cells + 9) (n := slots + 38) (by omega) (by omega) ?_
    exact kk u2 _ _ ls hcn.2.2 hP hS (lv_sub hl [2, 3, 4, 5, 6] rfl)
  · have e8 := hcn.2.1 (c8.trans nI_0.symm)
    refine lv_aload_n hx hb dL_law_685 rfl (lv_at hl 5 rfl) ?_
    refine lv_iconst (v := nI 0) hx hb dL_law_686 (by decide) ?_
    refine va_lald (D := D) (cl := vwCl) hx hb hE.1 hP 154 2 (wd_at (by decide) (g_154 cy ad _)) rfl (vn_ins rfl (by decide : 0 < 1) (by decide)) dL_law_687 ?_
    refine lv_iload hx hb dL_law_688 (lv_at hl 0 rfl) ?_
    refine lv_i2l hx hb dL_law_690 rfl ?_
    refine W.lcmp hx hb dL_law_691 ?_
    refine wr_top (y := 0) (show lg_cmp ((u2 154 0).toInt64) (bb.toInt64) = 0 by rw [e8]; exact lc_0 _) ?_
    refine lv_if_eq (tgt := 697) hx hb dL_law_692 (by decide) (fun _ => ?_) (fun c7 => absurd rfl c7)
    refine lv_goto (tgt := 1243) hx hb dL_law_697 (by decide) ?_
    refine W.widen (k := cells + 9) (n := slots + 38) (by omega) (by omega) ?_
    exact kk u2 _ _ ls hcn.2.2 hP hS (lv_sub hl [2, 3, 4, 5, 6] rfl)

set_option maxHeartbeats 1000000 in
set_option maxRecDepth 100000 in
theorem kC_count {p : Program} {l : Launch} {e : Env} {s : State} {m : MethodId} {below : List Frame} {meth : Method} {c : Code} {b L : Nat} {xs : Nat → Int32} {D : va_G} {cy ad : Nat → Nat} (C0 : LC p l s m c b L xs D cy ad) {M : Mm} (hR : RR M) {i : Nat} (hi : i + 6 ≤ L) (hL : L ≤ 3072) {H : Heap} {locs : List Loc} {cells slots : Nat} {ls : Array Slot} {Q : State → Prop} (hP : va_P D vwCl (wd cy ad 155 M ++ []) H) (hS : va_S (AL s) s.heap H locs) (hc : cells + 9 ≤ 601024) (hs : slots + 38 ≤ 7293034) (hl : lv_has ls 7 [(0, .ref b), (1, .ref (ad 0)), (2, .ref (ad 137)), (3, .ref (ad 154)), (4, .int (nI i))])
    (kk : ∀ (M2 : Mm) (H2 : Heap) (locs2 : List Loc) (ls2 : Array Slot), RR M2 → va_P D vwCl (wd cy ad 155 M2 ++ []) H2 → va_S (AL s) s.heap H2 locs2 → lv_has ls2 7 [(0, .ref b), (1, .ref (ad 0)), (2, .ref (ad 137)), (3, .ref (ad 154)), (4, .int (nI i))] → W p l e room_1 s m #[Value.ref b] below meth c H2 locs2 (cells + 9) (slots + 38) Q (F0 m 1243 ls2 [])) : W p l e room_1 s m #[Value.ref b] below meth c H locs cells slots Q (F0 m 700 ls []) := by
  obtain ⟨hx, hb, hml, hown, hts, hX, hbl, hE, hXF, hN1, hN2, hN3, hN4, hD, hlt⟩ := C0
  obtain ⟨mc, rc, tc, d, b1, rs, sc, sr, h⟩ := hR
  have hA : ∀ q, s.heap.size ≤ q → AL s q := fun _ h => h
  have hbA : ¬ AL s b := Nat.not_le.mpr hbl
  obtain ⟨x0, ex0⟩ : ∃ y, y = xs (i + 1) := ⟨_, rfl⟩
  refine lv_aload_n hx hb dL_law_700 rfl (lv_at hl 1 rfl) ?_
  refine lv_aload_n hx hb dL_law_701 rfl (lv_at hl 0 rfl) ?_
  refine lv_iload hx hb dL_law_702 (lv_at hl 4 rfl) ?_
  refine lv_iconst (v := nI 1) hx hb dL_law_704 (by decide) ?_
  refine lv_iadd hx hb dL_law_705 ?_
  refine wr_top (y := nI (i + 1)) (nI_add _ _) ?_
  refine va_sld hx hb hX hbl hbA hS (vp_in_nI (show i + 1 < L by omega) (by omega)) dL_law_706 ?_
  refine wr_top (y := x0) ((congrArg xs (nI_clamp (by omega))).trans ex0.symm) ?_
  refine lv_aload_n hx hb dL_law_707 rfl (lv_at hl 3 rfl) ?_
  refine vx_calli (vx_runSX (hh := [(0, 9, 12, 13)]) (As := [.ref (ad 0), .int x0, .ref (ad 154)]) (rest := []) ⟨hx, hb, hml, hown, hts⟩ (kL_count l hD (by decide) (P := PC_count tc x0 M) (X := XC_count tc x0 M) (fun _ _ hx => hx.1) (kX5_count l hlt hD (by decide) (rl_ctc h) (rl_tc6 h))) (vx_cwSW 3 hts gL_law_L_count rfl rfl rfl (by decide +kernel) ⟨Nat.le_of_ble_eq_true rfl, Nat.le_of_ble_eq_true rfl⟩) (lp_ps hE hP hS hA hXF hN1 hN2 hN3 hN4) rfl rfl hl.1 rfl (lv_room (Nat.le_of_ble_eq_true rfl)) dL_law_708 ⟨(show cells + 1 ≤ 601024 by omega), (show slots + 6 ≤ 7293034 by omega)⟩) hS (fun q _ h => h) (fun q h => h) (fun q _ h => h) (fun E9 ce q9 u t H1 locs1 ht hvm hpx hBX hz1 hk1 hS hce hcv hcl => False.elim hBX) (fun r u1 t H1 locs ht hvm hw hB9 hz1 hk1 hS => ?_)
  have hw : WR_count tc x0 M r u1 := hw
  have hP : va_P D vwCl (wd cy ad 155 u1 ++ []) H1 := by rw [← ht]; exact hB9
  clear hB9 ht hvm hz1 hk1
  generalize H1 = H at hP hS ⊢
  obtain ⟨m1, m2, m3, m4, m5, m6, m7, m8, m9, m10⟩ := rm_of h (md_count h hw)
  refine lv_istore (lv' := [(5, .int r), (0, .ref b), (1, .ref (ad 0)), (2, .ref (ad 137)), (3, .ref (ad 154)), (4, .int (nI i))]) hx hb dL_law_711 hl (by decide) rfl (fun ls hl => ?_)
  refine lv_aload_n hx hb dL_law_713 rfl (lv_at hl 3 rfl) ?_
  refine lv_aload_n hx hb dL_law_714 rfl (lv_at hl 1 rfl) ?_
  refine lv_iload hx hb dL_law_715 (lv_at hl 5 rfl) ?_
  refine lv_iconst (v := nI 1) hx hb dL_law_717 (by decide) ?_
  refine lv_iadd hx hb dL_law_718 ?_
  refine wr_top (y := nI (i + 1)) (nI_add _ _) ?_
  refine va_sld hx hb hX hbl hbA hS (vp_in_nI (show i + 1 < L by omega) (by omega)) dL_law_719 ?_
  refine wr_top (y := x0) ((congrArg xs (nI_clamp (by omega))).trans ex0.symm) ?_
  refine va_calli (va_runV (As := [.int x0]) (rest := []) ⟨hx, hb, hml, hown, hts⟩ (kX6_count l hD (by decide) m3 (rl_tc6 h)) (cwV 1 hts gL_law_X6_count rfl rfl rfl (by decide +kernel) ⟨Nat.le_of_ble_eq_true rfl, Nat.le_of_ble_eq_true rfl⟩) (rw_pv (ci := 5) (q := (RX6, TX6, 27)) hE hP hS hA rfl (wd_at (M := u1) (show 137 < 155 by decide) (g_137 cy ad _))) rfl rfl hl.1 rfl (lv_room (Nat.le_of_ble_eq_true rfl)) dL_law_720 ⟨(show cells + 1 + 0 ≤ 601024 by omega), (show slots + 6 + 0 ≤ 7293034 by omega)⟩) hS (fun q _ h => h) (fun q h => h) (fun bb u2 t H1 locs ht hvm hm hB9 hz1 hk1 hS => ?_)
  have hm : PM_count tc x0 u1 bb u2 := hm
  have hP : va_P D vwCl (wd cy ad 155 u2 ++ []) H1 := by rw [← ht]; exact hB9
  clear hB9 ht hvm hz1 hk1
  generalize H1 = H at hP hS ⊢
  have hcn := pq_count h hw hm
  refine lv_istore (lv' := [(6, .int bb), (5, .int r), (0, .ref b), (1, .ref (ad 0)), (2, .ref (ad 137)), (3, .ref (ad 154)), (4, .int (nI i))]) hx hb dL_law_723 hl (by decide) rfl (fun ls hl => ?_)
  refine lv_aload_n hx hb dL_law_725 rfl (lv_at hl 4 rfl) ?_
  refine vp_callSi (W.runV (As := []) (rest := []) ⟨hx, hb, hml, hown, hts⟩ (kX6_thrown l (M := u2) (by decide)) (cwV 0 hts gL_law_X6_thrown rfl rfl rfl (by decide +kernel) ⟨Nat.le_of_ble_eq_true rfl, Nat.le_of_ble_eq_true rfl⟩) (ro_pv (ci := 5) (q := (RX6, TX6, 27)) hE hP rfl (wd_at (M := u2) (show 137 < 155 by decide) (g_137 cy ad _))) rfl rfl hl.1 rfl (lv_room (Nat.le_of_ble_eq_true rfl)) dL_law_726 ⟨(show _ ≤ 601024 by omega), (show _ ≤ 7293034 by omega)⟩) (fun v9 hv9 => ?_)
  refine lv_iload hx hb dL_law_729 (lv_at hl 1 rfl) ?_
  refine lv_icmp_eq (tgt := 736) hx hb dL_law_731 (by decide) (fun c9 => ?_) (fun c9 => absurd (hv9.trans hcn.1) c9)
  refine lv_iload hx hb dL_law_736 (lv_at hl 1 rfl) ?_
  refine lv_if_ne (tgt := 753) hx hb dL_law_738 (by decide) (fun c8 => ?_) (fun c8 => ?_)
  · refine lv_goto (tgt := 1243) hx hb dL_law_753 (by decide) ?_
    refine W.widen (k := cells + 9) (n := slots + 38) (by omega) (by omega) ?_
    exact kk u2 _ _ ls hcn.2.2 hP hS (lv_sub hl [2, 3, 4, 5, 6] rfl)
  · have e8 := hcn.2.1 (c8.trans nI_0.symm)
    refine lv_aload_n hx hb dL_law_741 rfl (lv_at hl 5 rfl) ?_
    refine lv_iconst (v := nI 0) hx hb dL_law_742 (by decide) ?_
    refine va_lald (D := D) (cl := vwCl) hx hb hE.1 hP 154 2 (wd_at (by decide) (g_154 cy ad _)) rfl (vn_ins rfl (by decide : 0 < 1) (by decide)) dL_law_743 ?_
    refine lv_iload hx hb dL_law_744 (lv_at hl 0 rfl) ?_
    refine lv_i2l hx hb dL_law_746 rfl ?_
    refine W.lcmp hx hb dL_law_747 ?_
    refine wr_top (y := 0) (show lg_cmp ((u2 154 0).toInt64) (bb.toInt64) = 0 by rw [e8]; exact lc_0 _) ?_
    refine lv_if_eq (tgt := 753) hx hb dL_law_748 (by decide) (fun _ => ?_) (fun c7 => absurd rfl c7)
    refine lv_goto (tgt := 1243) hx hb dL_law_753 (by decide) ?_
    refine W.widen (k := cells + 9) (n := slots + 38) (by omega) (by omega) ?_
    exact kk u2 _ _ ls hcn.2.2 hP hS (lv_sub hl [2, 3, 4, 5, 6] rfl)

set_option maxHeartbeats 1000000 in
set_option maxRecDepth 100000 in
theorem kC_seen {p : Program} {l : Launch} {e : Env} {s : State} {m : MethodId} {below : List Frame} {meth : Method} {c : Code} {b L : Nat} {xs : Nat → Int32} {D : va_G} {cy ad : Nat → Nat} (C0 : LC p l s m c b L xs D cy ad) {M : Mm} (hR : RR M) {i : Nat} (hi : i + 6 ≤ L) (hL : L ≤ 3072) {H : Heap} {locs : List Loc} {cells slots : Nat} {ls : Array Slot} {Q : State → Prop} (hP : va_P D vwCl (wd cy ad 155 M ++ []) H) (hS : va_S (AL s) s.heap H locs) (hc : cells + 9 ≤ 601024) (hs : slots + 38 ≤ 7293034) (hl : lv_has ls 7 [(0, .ref b), (1, .ref (ad 0)), (2, .ref (ad 137)), (3, .ref (ad 154)), (4, .int (nI i))])
    (kk : ∀ (M2 : Mm) (H2 : Heap) (locs2 : List Loc) (ls2 : Array Slot), RR M2 → va_P D vwCl (wd cy ad 155 M2 ++ []) H2 → va_S (AL s) s.heap H2 locs2 → lv_has ls2 7 [(0, .ref b), (1, .ref (ad 0)), (2, .ref (ad 137)), (3, .ref (ad 154)), (4, .int (nI i))] → W p l e room_1 s m #[Value.ref b] below meth c H2 locs2 (cells + 9) (slots + 38) Q (F0 m 1243 ls2 [])) : W p l e room_1 s m #[Value.ref b] below meth c H locs cells slots Q (F0 m 756 ls []) := by
  obtain ⟨hx, hb, hml, hown, hts, hX, hbl, hE, hXF, hN1, hN2, hN3, hN4, hD, hlt⟩ := C0
  obtain ⟨mc, rc, tc, d, b1, rs, sc, sr, h⟩ := hR
  have hA : ∀ q, s.heap.size ≤ q → AL s q := fun _ h => h
  have hbA : ¬ AL s b := Nat.not_le.mpr hbl
  obtain ⟨x0, ex0⟩ : ∃ y, y = xs (i + 1) := ⟨_, rfl⟩
  refine lv_aload_n hx hb dL_law_756 rfl (lv_at hl 1 rfl) ?_
  refine lv_aload_n hx hb dL_law_757 rfl (lv_at hl 0 rfl) ?_
  refine lv_iload hx hb dL_law_758 (lv_at hl 4 rfl) ?_
  refine lv_iconst (v := nI 1) hx hb dL_law_760 (by decide) ?_
  refine lv_iadd hx hb dL_law_761 ?_
  refine wr_top (y := nI (i + 1)) (nI_add _ _) ?_
  refine va_sld hx hb hX hbl hbA hS (vp_in_nI (show i + 1 < L by omega) (by omega)) dL_law_762 ?_
  refine wr_top (y := x0) ((congrArg xs (nI_clamp (by omega))).trans ex0.symm) ?_
  refine lv_aload_n hx hb dL_law_763 rfl (lv_at hl 3 rfl) ?_
  refine vx_calli (vx_runSX (hh := [(0, 16, 19, 13)]) (As := [.ref (ad 0), .int x0, .ref (ad 154)]) (rest := []) ⟨hx, hb, hml, hown, hts⟩ (kL_seen l hD (by decide) (P := PC_seen tc x0 (sc (vN x0)) M) (X := XC_seen tc x0 (sc (vN x0)) M) (fun _ _ hx => hx.1) (fun w u hp => hp.2.2.1.elim (fun q => Or.inl q.2) (fun q => Or.inr q.2)) (kX5_seen l hlt hD (by decide) (rl_ctc h) (rl_tc6 h) (rl_ccn h _) (rl_sc8 h _))) (vx_cwSW 3 hts gL_law_L_seen rfl rfl rfl (by decide +kernel) ⟨Nat.le_of_ble_eq_true rfl, Nat.le_of_ble_eq_true rfl⟩) (lp_ps hE hP hS hA hXF hN1 hN2 hN3 hN4) rfl rfl hl.1 rfl (lv_room (Nat.le_of_ble_eq_true rfl)) dL_law_764 ⟨(show cells + 1 ≤ 601024 by omega), (show slots + 6 ≤ 7293034 by omega)⟩) hS (fun q _ h => h) (fun q h => h) (fun q _ h => h) (fun E9 ce q9 u t H1 locs1 ht hvm hpx hBX hz1 hk1 hS hce hcv hcl => False.elim hBX) (fun r u1 t H1 locs ht hvm hw hB9 hz1 hk1 hS => ?_)
  have hw : WR_seen tc x0 (sc (vN x0)) M r u1 := hw
  have hP : va_P D vwCl (wd cy ad 155 u1 ++ []) H1 := by rw [← ht]; exact hB9
  clear hB9 ht hvm hz1 hk1
  generalize H1 = H at hP hS ⊢
  obtain ⟨m1, m2, m3, m4, m5, m6, m7, m8, m9, m10⟩ := rm_of h (md_seen h hw)
  refine lv_istore (lv' := [(5, .int r), (0, .ref b), (1, .ref (ad 0)), (2, .ref (ad 137)), (3, .ref (ad 154)), (4, .int (nI i))]) hx hb dL_law_767 hl (by decide) rfl (fun ls hl => ?_)
  refine lv_aload_n hx hb dL_law_769 rfl (lv_at hl 3 rfl) ?_
  refine lv_aload_n hx hb dL_law_770 rfl (lv_at hl 1 rfl) ?_
  refine lv_iload hx hb dL_law_771 (lv_at hl 5 rfl) ?_
  refine lv_iconst (v := nI 1) hx hb dL_law_773 (by decide) ?_
  refine lv_iadd hx hb dL_law_774 ?_
  refine wr_top (y := nI (i + 1)) (nI_add _ _) ?_
  refine va_sld hx hb hX hbl hbA hS (vp_in_nI (show i + 1 < L by omega) (by omega)) dL_law_775 ?_
  refine wr_top (y := x0) ((congrArg xs (nI_clamp (by omega))).trans ex0.symm) ?_
  refine va_calli (va_runV (As := [.int x0]) (rest := []) ⟨hx, hb, hml, hown, hts⟩ (kX6_seen l hD (by decide) m3 (rl_tc6 h) (m8 _) (rl_sc8 h _)) (cwV 1 hts gL_law_X6_seen rfl rfl rfl (by decide +kernel) ⟨Nat.le_of_ble_eq_true rfl, Nat.le_of_ble_eq_true rfl⟩) (rw_pv (ci := 5) (q := (RX6, TX6, 27)) hE hP hS hA rfl (wd_at (M := u1) (show 137 < 155 by decide) (g_137 cy ad _))) rfl rfl hl.1 rfl (lv_room (Nat.le_of_ble_eq_true rfl)) dL_law_776 ⟨(show cells + 1 + 0 ≤ 601024 by omega), (show slots + 6 + 0 ≤ 7293034 by omega)⟩) hS (fun q _ h => h) (fun q h => h) (fun bb u2 t H1 locs ht hvm hm hB9 hz1 hk1 hS => ?_)
  have hm : PM_seen tc x0 (sc (vN x0)) u1 bb u2 := hm
  have hP : va_P D vwCl (wd cy ad 155 u2 ++ []) H1 := by rw [← ht]; exact hB9
  clear hB9 ht hvm hz1 hk1
  generalize H1 = H at hP hS ⊢
  have hcn := pq_seen h hw hm
  refine lv_istore (lv' := [(6, .int bb), (5, .int r), (0, .ref b), (1, .ref (ad 0)), (2, .ref (ad 137)), (3, .ref (ad 154)), (4, .int (nI i))]) hx hb dL_law_779 hl (by decide) rfl (fun ls hl => ?_)
  refine lv_aload_n hx hb dL_law_781 rfl (lv_at hl 4 rfl) ?_
  refine vp_callSi (W.runV (As := []) (rest := []) ⟨hx, hb, hml, hown, hts⟩ (kX6_thrown l (M := u2) (by decide)) (cwV 0 hts gL_law_X6_thrown rfl rfl rfl (by decide +kernel) ⟨Nat.le_of_ble_eq_true rfl, Nat.le_of_ble_eq_true rfl⟩) (ro_pv (ci := 5) (q := (RX6, TX6, 27)) hE hP rfl (wd_at (M := u2) (show 137 < 155 by decide) (g_137 cy ad _))) rfl rfl hl.1 rfl (lv_room (Nat.le_of_ble_eq_true rfl)) dL_law_782 ⟨(show _ ≤ 601024 by omega), (show _ ≤ 7293034 by omega)⟩) (fun v9 hv9 => ?_)
  refine lv_iload hx hb dL_law_785 (lv_at hl 1 rfl) ?_
  refine lv_icmp_eq (tgt := 792) hx hb dL_law_787 (by decide) (fun c9 => ?_) (fun c9 => absurd (hv9.trans hcn.1) c9)
  refine lv_iload hx hb dL_law_792 (lv_at hl 1 rfl) ?_
  refine lv_if_ne (tgt := 816) hx hb dL_law_794 (by decide) (fun c8 => ?_) (fun c8 => ?_)
  · refine lv_goto (tgt := 1243) hx hb dL_law_816 (by decide) ?_
    refine W.widen (k := cells + 9) (n := slots + 38) (by omega) (by omega) ?_
    exact kk u2 _ _ ls hcn.2.2 hP hS (lv_sub hl [2, 3, 4, 5, 6] rfl)
  · have e8 := hcn.2.1 (c8.trans nI_0.symm)
    refine lv_aload_n hx hb dL_law_797 rfl (lv_at hl 5 rfl) ?_
    refine lv_iconst (v := nI 0) hx hb dL_law_798 (by decide) ?_
    refine va_lald (D := D) (cl := vwCl) hx hb hE.1 hP 154 2 (wd_at (by decide) (g_154 cy ad _)) rfl (vn_ins rfl (by decide : 0 < 1) (by decide)) dL_law_799 ?_
    refine lv_iload hx hb dL_law_800 (lv_at hl 0 rfl) ?_
    rcases seen_01 hm (hcn.1.trans (c8.trans nI_0.symm)) with rfl | rfl
    · refine lv_if_eq (tgt := 809) hx hb dL_law_802 (by decide) (fun c6 => absurd c6 (by decide)) (fun _ => ?_)
      refine lv_lconst (v := (1 : Int32).toInt64) hx hb dL_law_805 (by decide) ?_
      refine lv_goto (tgt := 810) hx hb dL_law_806 (by decide) ?_
      refine W.lcmp hx hb dL_law_810 ?_
      refine wr_top (y := 0) (show lg_cmp ((u2 154 0).toInt64) ((1 : Int32).toInt64) = 0 by rw [e8]; exact lc_0 _) ?_
      refine lv_if_eq (tgt := 816) hx hb dL_law_811 (by decide) (fun _ => ?_) (fun c7 => absurd rfl c7)
      refine lv_goto (tgt := 1243) hx hb dL_law_816 (by decide) ?_
      refine W.widen (k := cells + 9) (n := slots + 38) (by omega) (by omega) ?_
      exact kk u2 _ _ ls hcn.2.2 hP hS (lv_sub hl [2, 3, 4, 5, 6] rfl)
    · refine lv_if_eq (tgt := 809) hx hb dL_law_802 (by decide) (fun _ => ?_) (fun c6 => absurd rfl c6)
      refine lv_lconst (v := (0 : Int32).toInt64) hx hb dL_law_809 (by decide) ?_
      refine W.lcmp hx hb dL_law_810 ?_
      refine wr_top (y := 0) (show lg_cmp ((u2 154 0).toInt64) ((0 : Int32).toInt64) = 0 by rw [e8]; exact lc_0 _) ?_
      refine lv_if_eq (tgt := 816) hx hb dL_law_811 (by decide) (fun _ => ?_) (fun c7 => absurd rfl c7)
      refine lv_goto (tgt := 1243) hx hb dL_law_816 (by decide) ?_
      refine W.widen (k := cells + 9) (n := slots + 38) (by omega) (by omega) ?_
      exact kk u2 _ _ ls hcn.2.2 hP hS (lv_sub hl [2, 3, 4, 5, 6] rfl)

set_option maxHeartbeats 1000000 in
set_option maxRecDepth 100000 in
theorem kC_recount {p : Program} {l : Launch} {e : Env} {s : State} {m : MethodId} {below : List Frame} {meth : Method} {c : Code} {b L : Nat} {xs : Nat → Int32} {D : va_G} {cy ad : Nat → Nat} (C0 : LC p l s m c b L xs D cy ad) {M : Mm} (hR : RR M) {i : Nat} (hi : i + 6 ≤ L) (hL : L ≤ 3072) {H : Heap} {locs : List Loc} {cells slots : Nat} {ls : Array Slot} {Q : State → Prop} (hP : va_P D vwCl (wd cy ad 155 M ++ []) H) (hS : va_S (AL s) s.heap H locs) (hc : cells + 9 ≤ 601024) (hs : slots + 38 ≤ 7293034) (hl : lv_has ls 7 [(0, .ref b), (1, .ref (ad 0)), (2, .ref (ad 137)), (3, .ref (ad 154)), (4, .int (nI i))])
    (kk : ∀ (M2 : Mm) (H2 : Heap) (locs2 : List Loc) (ls2 : Array Slot), RR M2 → va_P D vwCl (wd cy ad 155 M2 ++ []) H2 → va_S (AL s) s.heap H2 locs2 → lv_has ls2 7 [(0, .ref b), (1, .ref (ad 0)), (2, .ref (ad 137)), (3, .ref (ad 154)), (4, .int (nI i))] → W p l e room_1 s m #[Value.ref b] below meth c H2 locs2 (cells + 9) (slots + 38) Q (F0 m 1243 ls2 [])) : W p l e room_1 s m #[Value.ref b] below meth c H locs cells slots Q (F0 m 819 ls []) := by
  obtain ⟨hx, hb, hml, hown, hts, hX, hbl, hE, hXF, hN1, hN2, hN3, hN4, hD, hlt⟩ := C0
  obtain ⟨mc, rc, tc, d, b1, rs, sc, sr, h⟩ := hR
  have hA : ∀ q, s.heap.size ≤ q → AL s q := fun _ h => h
  have hbA : ¬ AL s b := Nat.not_le.mpr hbl
  obtain ⟨x0, ex0⟩ : ∃ y, y = xs (i + 1) := ⟨_, rfl⟩
  refine lv_aload_n hx hb dL_law_819 rfl (lv_at hl 1 rfl) ?_
  refine lv_aload_n hx hb dL_law_820 rfl (lv_at hl 0 rfl) ?_
  refine lv_iload hx hb dL_law_821 (lv_at hl 4 rfl) ?_
  refine lv_iconst (v := nI 1) hx hb dL_law_823 (by decide) ?_
  refine lv_iadd hx hb dL_law_824 ?_
  refine wr_top (y := nI (i + 1)) (nI_add _ _) ?_
  refine va_sld hx hb hX hbl hbA hS (vp_in_nI (show i + 1 < L by omega) (by omega)) dL_law_825 ?_
  refine wr_top (y := x0) ((congrArg xs (nI_clamp (by omega))).trans ex0.symm) ?_
  refine lv_aload_n hx hb dL_law_826 rfl (lv_at hl 3 rfl) ?_
  refine vx_calli (vx_runSX (hh := [(0, 9, 12, 13)]) (As := [.ref (ad 0), .int x0, .ref (ad 154)]) (rest := []) ⟨hx, hb, hml, hown, hts⟩ (kL_recount l hD (by decide) (P := PC_recount rc tc (sc (vN x0)) rs (sr (vN x0)) x0 M) (X := XC_recount rc tc (sc (vN x0)) rs (sr (vN x0)) x0 M) (fun _ _ hx => hx.1) (kX5_recount l hlt hD (by decide) (sr := sr (vN x0)) (rl_rc8 h) (rl_ctc h) (rl_tc6 h) (rl_crg h) (rl_cbs h) (rl_ccn h _) (rl_sc8 h _) (st_all h _))) (vx_cwSW 3 hts gL_law_L_recount rfl rfl rfl (by decide +kernel) ⟨Nat.le_of_ble_eq_true rfl, Nat.le_of_ble_eq_true rfl⟩) (lp_ps hE hP hS hA hXF hN1 hN2 hN3 hN4) rfl rfl hl.1 rfl (lv_room (Nat.le_of_ble_eq_true rfl)) dL_law_827 ⟨(show cells + 9 ≤ 601024 by omega), (show slots + 38 ≤ 7293034 by omega)⟩) hS (fun q _ h => h) (fun q h => h) (fun q _ h => h) (fun E9 ce q9 u t H1 locs1 ht hvm hpx hBX hz1 hk1 hS hce hcv hcl => False.elim hBX) (fun r u1 t H1 locs ht hvm hw hB9 hz1 hk1 hS => ?_)
  have hw : WR_recount rc tc (sc (vN x0)) rs (sr (vN x0)) x0 M r u1 := hw
  have hP : va_P D vwCl (wd cy ad 155 u1 ++ []) H1 := by rw [← ht]; exact hB9
  clear hB9 ht hvm hz1 hk1
  generalize H1 = H at hP hS ⊢
  obtain ⟨m1, m2, m3, m4, m5, m6, m7, m8, m9, m10⟩ := rm_of h (md_recount h hw)
  refine lv_istore (lv' := [(5, .int r), (0, .ref b), (1, .ref (ad 0)), (2, .ref (ad 137)), (3, .ref (ad 154)), (4, .int (nI i))]) hx hb dL_law_830 hl (by decide) rfl (fun ls hl => ?_)
  refine lv_aload_n hx hb dL_law_832 rfl (lv_at hl 3 rfl) ?_
  refine lv_aload_n hx hb dL_law_833 rfl (lv_at hl 1 rfl) ?_
  refine lv_iload hx hb dL_law_834 (lv_at hl 5 rfl) ?_
  refine lv_iconst (v := nI 1) hx hb dL_law_836 (by decide) ?_
  refine lv_iadd hx hb dL_law_837 ?_
  refine wr_top (y := nI (i + 1)) (nI_add _ _) ?_
  refine va_sld hx hb hX hbl hbA hS (vp_in_nI (show i + 1 < L by omega) (by omega)) dL_law_838 ?_
  refine wr_top (y := x0) ((congrArg xs (nI_clamp (by omega))).trans ex0.symm) ?_
  refine va_calli (va_runV (As := [.int x0]) (rest := []) ⟨hx, hb, hml, hown, hts⟩ (kX6_recount l hD (by decide) m3 (rl_tc6 h) (rl_rc8 h) (m8 _) (rl_sc8 h _) m10 m6 m7 (m9 _)) (cwV 1 hts gL_law_X6_recount rfl rfl rfl (by decide +kernel) ⟨Nat.le_of_ble_eq_true rfl, Nat.le_of_ble_eq_true rfl⟩) (rw_pv (ci := 5) (q := (RX6, TX6, 27)) hE hP hS hA rfl (wd_at (M := u1) (show 137 < 155 by decide) (g_137 cy ad _))) rfl rfl hl.1 rfl (lv_room (Nat.le_of_ble_eq_true rfl)) dL_law_839 ⟨(show cells + 9 + 0 ≤ 601024 by omega), (show slots + 38 + 0 ≤ 7293034 by omega)⟩) hS (fun q _ h => h) (fun q h => h) (fun bb u2 t H1 locs ht hvm hm hB9 hz1 hk1 hS => ?_)
  have hm : PM_recount tc x0 rc (sc (vN x0)) rs (sr (vN x0)) u1 bb u2 := hm
  have hP : va_P D vwCl (wd cy ad 155 u2 ++ []) H1 := by rw [← ht]; exact hB9
  clear hB9 ht hvm hz1 hk1
  generalize H1 = H at hP hS ⊢
  have hcn := pq_recount h hw hm
  refine lv_istore (lv' := [(6, .int bb), (5, .int r), (0, .ref b), (1, .ref (ad 0)), (2, .ref (ad 137)), (3, .ref (ad 154)), (4, .int (nI i))]) hx hb dL_law_842 hl (by decide) rfl (fun ls hl => ?_)
  refine lv_aload_n hx hb dL_law_844 rfl (lv_at hl 4 rfl) ?_
  refine vp_callSi (W.runV (As := []) (rest := []) ⟨hx, hb, hml, hown, hts⟩ (kX6_thrown l (M := u2) (by decide)) (cwV 0 hts gL_law_X6_thrown rfl rfl rfl (by decide +kernel) ⟨Nat.le_of_ble_eq_true rfl, Nat.le_of_ble_eq_true rfl⟩) (ro_pv (ci := 5) (q := (RX6, TX6, 27)) hE hP rfl (wd_at (M := u2) (show 137 < 155 by decide) (g_137 cy ad _))) rfl rfl hl.1 rfl (lv_room (Nat.le_of_ble_eq_true rfl)) dL_law_845 ⟨(show _ ≤ 601024 by omega), (show _ ≤ 7293034 by omega)⟩) (fun v9 hv9 => ?_)
  refine lv_iload hx hb dL_law_848 (lv_at hl 1 rfl) ?_
  refine lv_icmp_eq (tgt := 855) hx hb dL_law_850 (by decide) (fun c9 => ?_) (fun c9 => absurd (hv9.trans hcn.1) c9)
  refine lv_iload hx hb dL_law_855 (lv_at hl 1 rfl) ?_
  refine lv_if_ne (tgt := 872) hx hb dL_law_857 (by decide) (fun c8 => ?_) (fun c8 => ?_)
  · refine lv_goto (tgt := 1243) hx hb dL_law_872 (by decide) ?_
    refine W.widen (k := cells + 9) (n := slots + 38) (by omega) (by omega) ?_
    exact kk u2 _ _ ls hcn.2.2 hP hS (lv_sub hl [2, 3, 4, 5, 6] rfl)
  · have e8 := hcn.2.1 (c8.trans nI_0.symm)
    refine lv_aload_n hx hb dL_law_860 rfl (lv_at hl 5 rfl) ?_
    refine lv_iconst (v := nI 0) hx hb dL_law_861 (by decide) ?_
    refine va_lald (D := D) (cl := vwCl) hx hb hE.1 hP 154 2 (wd_at (by decide) (g_154 cy ad _)) rfl (vn_ins rfl (by decide : 0 < 1) (by decide)) dL_law_862 ?_
    refine lv_iload hx hb dL_law_863 (lv_at hl 0 rfl) ?_
    refine lv_i2l hx hb dL_law_865 rfl ?_
    refine W.lcmp hx hb dL_law_866 ?_
    refine wr_top (y := 0) (show lg_cmp ((u2 154 0).toInt64) (bb.toInt64) = 0 by rw [e8]; exact lc_0 _) ?_
    refine lv_if_eq (tgt := 872) hx hb dL_law_867 (by decide) (fun _ => ?_) (fun c7 => absurd rfl c7)
    refine lv_goto (tgt := 1243) hx hb dL_law_872 (by decide) ?_
    refine W.widen (k := cells + 9) (n := slots + 38) (by omega) (by omega) ?_
    exact kk u2 _ _ ls hcn.2.2 hP hS (lv_sub hl [2, 3, 4, 5, 6] rfl)

set_option maxHeartbeats 1000000 in
set_option maxRecDepth 100000 in
theorem kC_spoil {p : Program} {l : Launch} {e : Env} {s : State} {m : MethodId} {below : List Frame} {meth : Method} {c : Code} {b L : Nat} {xs : Nat → Int32} {D : va_G} {cy ad : Nat → Nat} (C0 : LC p l s m c b L xs D cy ad) {M : Mm} (hR : RR M) {i : Nat} (hi : i + 6 ≤ L) (hL : L ≤ 3072) {H : Heap} {locs : List Loc} {cells slots : Nat} {ls : Array Slot} {Q : State → Prop} (hP : va_P D vwCl (wd cy ad 155 M ++ []) H) (hS : va_S (AL s) s.heap H locs) (hc : cells + 9 ≤ 601024) (hs : slots + 38 ≤ 7293034) (hl : lv_has ls 7 [(0, .ref b), (1, .ref (ad 0)), (2, .ref (ad 137)), (3, .ref (ad 154)), (4, .int (nI i))])
    (kk : ∀ (M2 : Mm) (H2 : Heap) (locs2 : List Loc) (ls2 : Array Slot), RR M2 → va_P D vwCl (wd cy ad 155 M2 ++ []) H2 → va_S (AL s) s.heap H2 locs2 → lv_has ls2 7 [(0, .ref b), (1, .ref (ad 0)), (2, .ref (ad 137)), (3, .ref (ad 154)), (4, .int (nI i))] → W p l e room_1 s m #[Value.ref b] below meth c H2 locs2 (cells + 9) (slots + 38) Q (F0 m 1243 ls2 [])) : W p l e room_1 s m #[Value.ref b] below meth c H locs cells slots Q (F0 m 875 ls []) := by
  obtain ⟨hx, hb, hml, hown, hts, hX, hbl, hE, hXF, hN1, hN2, hN3, hN4, hD, hlt⟩ := C0
  obtain ⟨mc, rc, tc, d, b1, rs, sc, sr, h⟩ := hR
  have hA : ∀ q, s.heap.size ≤ q → AL s q := fun _ h => h
  have hbA : ¬ AL s b := Nat.not_le.mpr hbl
  obtain ⟨x0, ex0⟩ : ∃ y, y = xs (i + 1) := ⟨_, rfl⟩
  obtain ⟨x1, ex1⟩ : ∃ y, y = xs (i + 2) := ⟨_, rfl⟩
  obtain ⟨x2, ex2⟩ : ∃ y, y = xs (i + 3) := ⟨_, rfl⟩
  obtain ⟨x3, ex3⟩ : ∃ y, y = xs (i + 4) := ⟨_, rfl⟩
  refine lv_aload_n hx hb dL_law_875 rfl (lv_at hl 1 rfl) ?_
  refine lv_aload_n hx hb dL_law_876 rfl (lv_at hl 0 rfl) ?_
  refine lv_iload hx hb dL_law_877 (lv_at hl 4 rfl) ?_
  refine lv_iconst (v := nI 1) hx hb dL_law_879 (by decide) ?_
  refine lv_iadd hx hb dL_law_880 ?_
  refine wr_top (y := nI (i + 1)) (nI_add _ _) ?_
  refine va_sld hx hb hX hbl hbA hS (vp_in_nI (show i + 1 < L by omega) (by omega)) dL_law_881 ?_
  refine wr_top (y := x0) ((congrArg xs (nI_clamp (by omega))).trans ex0.symm) ?_
  refine lv_aload_n hx hb dL_law_882 rfl (lv_at hl 0 rfl) ?_
  refine lv_iload hx hb dL_law_883 (lv_at hl 4 rfl) ?_
  refine lv_iconst (v := nI 2) hx hb dL_law_885 (by decide) ?_
  refine lv_iadd hx hb dL_law_886 ?_
  refine wr_top (y := nI (i + 2)) (nI_add _ _) ?_
  refine va_sld hx hb hX hbl hbA hS (vp_in_nI (show i + 2 < L by omega) (by omega)) dL_law_887 ?_
  refine wr_top (y := x1) ((congrArg xs (nI_clamp (by omega))).trans ex1.symm) ?_
  refine lv_aload_n hx hb dL_law_888 rfl (lv_at hl 0 rfl) ?_
  refine lv_iload hx hb dL_law_889 (lv_at hl 4 rfl) ?_
  refine lv_iconst (v := nI 3) hx hb dL_law_891 (by decide) ?_
  refine lv_iadd hx hb dL_law_892 ?_
  refine wr_top (y := nI (i + 3)) (nI_add _ _) ?_
  refine va_sld hx hb hX hbl hbA hS (vp_in_nI (show i + 3 < L by omega) (by omega)) dL_law_893 ?_
  refine wr_top (y := x2) ((congrArg xs (nI_clamp (by omega))).trans ex2.symm) ?_
  refine lv_aload_n hx hb dL_law_894 rfl (lv_at hl 0 rfl) ?_
  refine lv_iload hx hb dL_law_895 (lv_at hl 4 rfl) ?_
  refine lv_iconst (v := nI 4) hx hb dL_law_897 (by decide) ?_
  refine lv_iadd hx hb dL_law_898 ?_
  refine wr_top (y := nI (i + 4)) (nI_add _ _) ?_
  refine va_sld hx hb hX hbl hbA hS (vp_in_nI (show i + 4 < L by omega) (by omega)) dL_law_899 ?_
  refine wr_top (y := x3) ((congrArg xs (nI_clamp (by omega))).trans ex3.symm) ?_
  refine vx_calli (vx_runSX (hh := [(0, 9, 12, 13), (0, 9, 16, 36)]) (As := [.ref (ad 0), .int x0, .int x1, .int x2, .int x3]) (rest := []) ⟨hx, hb, hml, hown, hts⟩ (kL_spoil l hD (by decide) (P := PC_spoil tc x0 x1 x2 x3 (sc (vN x0)) (fun k => 2 + rs (sr (vN x0) k)) M) (X := XC_spoil tc x0 x1 x2 x3 (sc (vN x0)) (fun k => 2 + rs (sr (vN x0) k)) M) (fun _ _ hx => hx.1.elim (fun q => Or.inl q.1) (fun q => Or.inr q.1)) (kX5_spoil l hlt hD (by decide) (sz := fun k => 2 + rs (sr (vN x0) k)) (rl_ctc h) (rl_tc6 h) (rl_ccn h _) (rl_sc8 h _) (fun k hk => (st_all h _ k hk).2.2) (fun k => by have := rl_rs6 h (sr (vN x0) k); show 2 + rs (sr (vN x0) k) ≤ 8; omega))) (vx_cwSW 5 hts gL_law_L_spoil rfl rfl rfl (by decide +kernel) ⟨Nat.le_of_ble_eq_true rfl, Nat.le_of_ble_eq_true rfl⟩) (lp_ps hE hP hS hA hXF hN1 hN2 hN3 hN4) rfl rfl hl.1 rfl (lv_room (Nat.le_of_ble_eq_true rfl)) dL_law_900 ⟨(show cells + 2 ≤ 601024 by omega), (show slots + 12 ≤ 7293034 by omega)⟩) hS (fun q _ h => h) (fun q h => h) (fun q _ h => h) (fun E9 ce q9 u t H1 locs1 ht hvm hpx hBX hz1 hk1 hS hce hcv hcl => False.elim hBX) (fun r u1 t H1 locs ht hvm hw hB9 hz1 hk1 hS => ?_)
  have hw : WR_spoil tc x0 x1 x2 x3 (sc (vN x0)) (fun k => 2 + rs (sr (vN x0) k)) M r u1 := hw
  have hP : va_P D vwCl (wd cy ad 155 u1 ++ []) H1 := by rw [← ht]; exact hB9
  clear hB9 ht hvm hz1 hk1
  generalize H1 = H at hP hS ⊢
  obtain ⟨m1, m2, m3, m4, m5, m6, m7, m8, m9, m10⟩ := rm_of h (md_spoil h hw)
  refine lv_istore (lv' := [(5, .int r), (0, .ref b), (1, .ref (ad 0)), (2, .ref (ad 137)), (3, .ref (ad 154)), (4, .int (nI i))]) hx hb dL_law_903 hl (by decide) rfl (fun ls hl => ?_)
  refine lv_aload_n hx hb dL_law_905 rfl (lv_at hl 3 rfl) ?_
  refine lv_aload_n hx hb dL_law_906 rfl (lv_at hl 1 rfl) ?_
  refine lv_iload hx hb dL_law_907 (lv_at hl 5 rfl) ?_
  refine lv_iconst (v := nI 1) hx hb dL_law_909 (by decide) ?_
  refine lv_iadd hx hb dL_law_910 ?_
  refine wr_top (y := nI (i + 1)) (nI_add _ _) ?_
  refine va_sld hx hb hX hbl hbA hS (vp_in_nI (show i + 1 < L by omega) (by omega)) dL_law_911 ?_
  refine wr_top (y := x0) ((congrArg xs (nI_clamp (by omega))).trans ex0.symm) ?_
  refine lv_aload_n hx hb dL_law_912 rfl (lv_at hl 1 rfl) ?_
  refine lv_iload hx hb dL_law_913 (lv_at hl 5 rfl) ?_
  refine lv_iconst (v := nI 2) hx hb dL_law_915 (by decide) ?_
  refine lv_iadd hx hb dL_law_916 ?_
  refine wr_top (y := nI (i + 2)) (nI_add _ _) ?_
  refine va_sld hx hb hX hbl hbA hS (vp_in_nI (show i + 2 < L by omega) (by omega)) dL_law_917 ?_
  refine wr_top (y := x1) ((congrArg xs (nI_clamp (by omega))).trans ex1.symm) ?_
  refine lv_aload_n hx hb dL_law_918 rfl (lv_at hl 1 rfl) ?_
  refine lv_iload hx hb dL_law_919 (lv_at hl 5 rfl) ?_
  refine lv_iconst (v := nI 3) hx hb dL_law_921 (by decide) ?_
  refine lv_iadd hx hb dL_law_922 ?_
  refine wr_top (y := nI (i + 3)) (nI_add _ _) ?_
  refine va_sld hx hb hX hbl hbA hS (vp_in_nI (show i + 3 < L by omega) (by omega)) dL_law_923 ?_
  refine wr_top (y := x2) ((congrArg xs (nI_clamp (by omega))).trans ex2.symm) ?_
  refine lv_aload_n hx hb dL_law_924 rfl (lv_at hl 1 rfl) ?_
  refine lv_iload hx hb dL_law_925 (lv_at hl 5 rfl) ?_
  refine lv_iconst (v := nI 4) hx hb dL_law_927 (by decide) ?_
  refine lv_iadd hx hb dL_law_928 ?_
  refine wr_top (y := nI (i + 4)) (nI_add _ _) ?_
  refine va_sld hx hb hX hbl hbA hS (vp_in_nI (show i + 4 < L by omega) (by omega)) dL_law_929 ?_
  refine wr_top (y := x3) ((congrArg xs (nI_clamp (by omega))).trans ex3.symm) ?_
  refine va_callv (va_runV (As := [.int x0, .int x1, .int x2, .int x3]) (rest := []) ⟨hx, hb, hml, hown, hts⟩ (kX6_spoil l hD (by decide) m3 (rl_tc6 h) (rl_rc8 h) (m8 _) (rl_sc8 h _) m6 (m9 _)) (cwV 4 hts gL_law_X6_spoil rfl rfl rfl (by decide +kernel) ⟨Nat.le_of_ble_eq_true rfl, Nat.le_of_ble_eq_true rfl⟩) (rw_pv (ci := 5) (q := (RX6, TX6, 27)) hE hP hS hA rfl (wd_at (M := u1) (show 137 < 155 by decide) (g_137 cy ad _))) rfl rfl hl.1 rfl (lv_room (Nat.le_of_ble_eq_true rfl)) dL_law_930 ⟨(show cells + 2 + 0 ≤ 601024 by omega), (show slots + 12 + 0 ≤ 7293034 by omega)⟩) hS (fun q _ h => h) (fun q h => h) (fun u2 t H1 locs ht hvm hm hB9 hz1 hk1 hS => ?_)
  have hm : PM_spoil tc x0 x1 x2 x3 rc (sc (vN x0)) rs (sr (vN x0)) u1 u2 := hm
  have hP : va_P D vwCl (wd cy ad 155 u2 ++ []) H1 := by rw [← ht]; exact hB9
  clear hB9 ht hvm hz1 hk1
  generalize H1 = H at hP hS ⊢
  have hcn := pq_spoil h hw hm
  refine lv_aload_n hx hb dL_law_933 rfl (lv_at hl 3 rfl) ?_
  refine vp_callSi (W.runV (As := []) (rest := []) ⟨hx, hb, hml, hown, hts⟩ (kX6_thrown l (M := u2) (by decide)) (cwV 0 hts gL_law_X6_thrown rfl rfl rfl (by decide +kernel) ⟨Nat.le_of_ble_eq_true rfl, Nat.le_of_ble_eq_true rfl⟩) (ro_pv (ci := 5) (q := (RX6, TX6, 27)) hE hP rfl (wd_at (M := u2) (show 137 < 155 by decide) (g_137 cy ad _))) rfl rfl hl.1 rfl (lv_room (Nat.le_of_ble_eq_true rfl)) dL_law_934 ⟨(show _ ≤ 601024 by omega), (show _ ≤ 7293034 by omega)⟩) (fun v9 hv9 => ?_)
  refine lv_iload hx hb dL_law_937 (lv_at hl 0 rfl) ?_
  refine lv_icmp_eq (tgt := 944) hx hb dL_law_939 (by decide) (fun c9 => ?_) (fun c9 => absurd (hv9.trans hcn.1) c9)
  refine lv_goto (tgt := 1243) hx hb dL_law_944 (by decide) ?_
  refine W.widen (k := cells + 9) (n := slots + 38) (by omega) (by omega) ?_
  exact kk u2 _ _ ls hcn.2 hP hS (lv_sub hl [1, 2, 3, 4, 5] rfl)

set_option maxHeartbeats 1000000 in
set_option maxRecDepth 100000 in
theorem kC_close {p : Program} {l : Launch} {e : Env} {s : State} {m : MethodId} {below : List Frame} {meth : Method} {c : Code} {b L : Nat} {xs : Nat → Int32} {D : va_G} {cy ad : Nat → Nat} (C0 : LC p l s m c b L xs D cy ad) {M : Mm} (hR : RR M) {i : Nat} (hi : i + 6 ≤ L) (hL : L ≤ 3072) {H : Heap} {locs : List Loc} {cells slots : Nat} {ls : Array Slot} {Q : State → Prop} (hP : va_P D vwCl (wd cy ad 155 M ++ []) H) (hS : va_S (AL s) s.heap H locs) (hc : cells + 9 ≤ 601024) (hs : slots + 38 ≤ 7293034) (hl : lv_has ls 7 [(0, .ref b), (1, .ref (ad 0)), (2, .ref (ad 137)), (3, .ref (ad 154)), (4, .int (nI i))])
    (kk : ∀ (M2 : Mm) (H2 : Heap) (locs2 : List Loc) (ls2 : Array Slot), RR M2 → va_P D vwCl (wd cy ad 155 M2 ++ []) H2 → va_S (AL s) s.heap H2 locs2 → lv_has ls2 7 [(0, .ref b), (1, .ref (ad 0)), (2, .ref (ad 137)), (3, .ref (ad 154)), (4, .int (nI i))] → W p l e room_1 s m #[Value.ref b] below meth c H2 locs2 (cells + 9) (slots + 38) Q (F0 m 1243 ls2 [])) : W p l e room_1 s m #[Value.ref b] below meth c H locs cells slots Q (F0 m 947 ls []) := by
  obtain ⟨hx, hb, hml, hown, hts, hX, hbl, hE, hXF, hN1, hN2, hN3, hN4, hD, hlt⟩ := C0
  obtain ⟨mc, rc, tc, d, b1, rs, sc, sr, h⟩ := hR
  have hA : ∀ q, s.heap.size ≤ q → AL s q := fun _ h => h
  have hbA : ¬ AL s b := Nat.not_le.mpr hbl
  obtain ⟨x0, ex0⟩ : ∃ y, y = xs (i + 1) := ⟨_, rfl⟩
  refine lv_aload_n hx hb dL_law_947 rfl (lv_at hl 1 rfl) ?_
  refine lv_aload_n hx hb dL_law_948 rfl (lv_at hl 0 rfl) ?_
  refine lv_iload hx hb dL_law_949 (lv_at hl 4 rfl) ?_
  refine lv_iconst (v := nI 1) hx hb dL_law_951 (by decide) ?_
  refine lv_iadd hx hb dL_law_952 ?_
  refine wr_top (y := nI (i + 1)) (nI_add _ _) ?_
  refine va_sld hx hb hX hbl hbA hS (vp_in_nI (show i + 1 < L by omega) (by omega)) dL_law_953 ?_
  refine wr_top (y := x0) ((congrArg xs (nI_clamp (by omega))).trans ex0.symm) ?_
  refine lv_aload_n hx hb dL_law_954 rfl (lv_at hl 3 rfl) ?_
  refine vx_calli (vx_runSX (hh := [(0, 9, 12, 13), (0, 9, 15, 15)]) (As := [.ref (ad 0), .int x0, .ref (ad 154)]) (rest := []) ⟨hx, hb, hml, hown, hts⟩ (kL_close l hD (by decide) (P := PC_close tc x0 M) (X := XC_close tc x0 M) (fun _ _ hx => hx.1.elim (fun q => Or.inl q.1) (fun q => Or.inr q.1)) (kX5_close l hlt hD (by decide) (rl_ctc h) (rl_tc6 h))) (vx_cwSW 3 hts gL_law_L_close rfl rfl rfl (by decide +kernel) ⟨Nat.le_of_ble_eq_true rfl, Nat.le_of_ble_eq_true rfl⟩) (lp_ps hE hP hS hA hXF hN1 hN2 hN3 hN4) rfl rfl hl.1 rfl (lv_room (Nat.le_of_ble_eq_true rfl)) dL_law_955 ⟨(show cells + 2 ≤ 601024 by omega), (show slots + 12 ≤ 7293034 by omega)⟩) hS (fun q _ h => h) (fun q h => h) (fun q _ h => h) (fun E9 ce q9 u t H1 locs1 ht hvm hpx hBX hz1 hk1 hS hce hcv hcl => False.elim hBX) (fun r u1 t H1 locs ht hvm hw hB9 hz1 hk1 hS => ?_)
  have hw : WR_close tc x0 M r u1 := hw
  have hP : va_P D vwCl (wd cy ad 155 u1 ++ []) H1 := by rw [← ht]; exact hB9
  clear hB9 ht hvm hz1 hk1
  generalize H1 = H at hP hS ⊢
  obtain ⟨m1, m2, m3, m4, m5, m6, m7, m8, m9, m10⟩ := rm_of h (md_close h hw)
  refine lv_istore (lv' := [(5, .int r), (0, .ref b), (1, .ref (ad 0)), (2, .ref (ad 137)), (3, .ref (ad 154)), (4, .int (nI i))]) hx hb dL_law_958 hl (by decide) rfl (fun ls hl => ?_)
  refine lv_aload_n hx hb dL_law_960 rfl (lv_at hl 3 rfl) ?_
  refine lv_aload_n hx hb dL_law_961 rfl (lv_at hl 1 rfl) ?_
  refine lv_iload hx hb dL_law_962 (lv_at hl 5 rfl) ?_
  refine lv_iconst (v := nI 1) hx hb dL_law_964 (by decide) ?_
  refine lv_iadd hx hb dL_law_965 ?_
  refine wr_top (y := nI (i + 1)) (nI_add _ _) ?_
  refine va_sld hx hb hX hbl hbA hS (vp_in_nI (show i + 1 < L by omega) (by omega)) dL_law_966 ?_
  refine wr_top (y := x0) ((congrArg xs (nI_clamp (by omega))).trans ex0.symm) ?_
  refine va_calli (va_runV (As := [.int x0]) (rest := []) ⟨hx, hb, hml, hown, hts⟩ (kX6_close l hD (by decide) m3 (rl_tc6 h)) (cwV 1 hts gL_law_X6_close rfl rfl rfl (by decide +kernel) ⟨Nat.le_of_ble_eq_true rfl, Nat.le_of_ble_eq_true rfl⟩) (rw_pv (ci := 5) (q := (RX6, TX6, 27)) hE hP hS hA rfl (wd_at (M := u1) (show 137 < 155 by decide) (g_137 cy ad _))) rfl rfl hl.1 rfl (lv_room (Nat.le_of_ble_eq_true rfl)) dL_law_967 ⟨(show cells + 2 + 0 ≤ 601024 by omega), (show slots + 12 + 0 ≤ 7293034 by omega)⟩) hS (fun q _ h => h) (fun q h => h) (fun bb u2 t H1 locs ht hvm hm hB9 hz1 hk1 hS => ?_)
  have hm : PM_close tc x0 u1 bb u2 := hm
  have hP : va_P D vwCl (wd cy ad 155 u2 ++ []) H1 := by rw [← ht]; exact hB9
  clear hB9 ht hvm hz1 hk1
  generalize H1 = H at hP hS ⊢
  have hcn := pq_close h hw hm
  refine lv_istore (lv' := [(6, .int bb), (5, .int r), (0, .ref b), (1, .ref (ad 0)), (2, .ref (ad 137)), (3, .ref (ad 154)), (4, .int (nI i))]) hx hb dL_law_970 hl (by decide) rfl (fun ls hl => ?_)
  refine lv_aload_n hx hb dL_law_972 rfl (lv_at hl 4 rfl) ?_
  refine vp_callSi (W.runV (As := []) (rest := []) ⟨hx, hb, hml, hown, hts⟩ (kX6_thrown l (M := u2) (by decide)) (cwV 0 hts gL_law_X6_thrown rfl rfl rfl (by decide +kernel) ⟨Nat.le_of_ble_eq_true rfl, Nat.le_of_ble_eq_true rfl⟩) (ro_pv (ci := 5) (q := (RX6, TX6, 27)) hE hP rfl (wd_at (M := u2) (show 137 < 155 by decide) (g_137 cy ad _))) rfl rfl hl.1 rfl (lv_room (Nat.le_of_ble_eq_true rfl)) dL_law_973 ⟨(show _ ≤ 601024 by omega), (show _ ≤ 7293034 by omega)⟩) (fun v9 hv9 => ?_)
  refine lv_iload hx hb dL_law_976 (lv_at hl 1 rfl) ?_
  refine lv_icmp_eq (tgt := 983) hx hb dL_law_978 (by decide) (fun c9 => ?_) (fun c9 => absurd (hv9.trans hcn.1) c9)
  refine lv_iload hx hb dL_law_983 (lv_at hl 1 rfl) ?_
  refine lv_if_ne (tgt := 1000) hx hb dL_law_985 (by decide) (fun c8 => ?_) (fun c8 => ?_)
  · refine lv_goto (tgt := 1243) hx hb dL_law_1000 (by decide) ?_
    refine W.widen (k := cells + 9) (n := slots + 38) (by omega) (by omega) ?_
    exact kk u2 _ _ ls hcn.2.2 hP hS (lv_sub hl [2, 3, 4, 5, 6] rfl)
  · have e8 := hcn.2.1 (c8.trans nI_0.symm)
    refine lv_aload_n hx hb dL_law_988 rfl (lv_at hl 5 rfl) ?_
    refine lv_iconst (v := nI 0) hx hb dL_law_989 (by decide) ?_
    refine va_lald (D := D) (cl := vwCl) hx hb hE.1 hP 154 2 (wd_at (by decide) (g_154 cy ad _)) rfl (vn_ins rfl (by decide : 0 < 1) (by decide)) dL_law_990 ?_
    refine lv_iload hx hb dL_law_991 (lv_at hl 0 rfl) ?_
    refine lv_i2l hx hb dL_law_993 rfl ?_
    refine W.lcmp hx hb dL_law_994 ?_
    refine wr_top (y := 0) (show lg_cmp ((u2 154 0).toInt64) (bb.toInt64) = 0 by rw [e8]; exact lc_0 _) ?_
    refine lv_if_eq (tgt := 1000) hx hb dL_law_995 (by decide) (fun _ => ?_) (fun c7 => absurd rfl c7)
    refine lv_goto (tgt := 1243) hx hb dL_law_1000 (by decide) ?_
    refine W.widen (k := cells + 9) (n := slots + 38) (by omega) (by omega) ?_
    exact kk u2 _ _ ls hcn.2.2 hP hS (lv_sub hl [2, 3, 4, 5, 6] rfl)
