set_option maxHeartbeats 4000000 in
set_option maxRecDepth 100000 in
/-- Claim.challengeBehind -/
theorem kX0_challengeBehind (l : Launch) {qc : Nat} {st0 : Int32} {a b : Nat} : Met l yX0_challengeBehind wsX0_challengeBehind ({ frames := 1, cells := 0, slots := 0, locals := 22 }) (va_Pc [.ref qc, .int st0, .int (nI a), .int (nI b)] (fun _ => True)) (vp_Si (fun r => r = nI (chN st0 a b))) 0 0 (fun _ => False) := by
  refine Met.ofW (cc := cX0_challengeBehind) (maxL := 4) (ret := (some .int)) (by decide +kernel) rfl ?_
  intro p e s m args below meth c s₁ B hml hv
  obtain ⟨rfl, -⟩ := hv
  have hx := B.exec
  have hb := B.bytes
  have hr := B.returns
  have hts := atoms_spec (ws := wsX0_challengeBehind) B.pre
  have hown : s.vm.findClass RX0 = some m.cls := findClass_of_methodNamed B.named
  have hlocks := B.notSynchronized
  have hl := lv_entry ([.ref qc, .int st0, .int (nI a), .int (nI b)]) (n := 4) (Nat.le_of_ble_eq_true rfl)
  rw [lg_entry_eq]
  generalize (lg_sl ([.ref qc, .int st0, .int (nI a), .int (nI b)]) ++ List.replicate (4 - (lg_sl ([.ref qc, .int st0, .int (nI a), .int (nI b)])).length) Slot.unset).toArray = ls at hl ⊢
  have hl : lv_has ls 4 [(0, .ref qc), (1, .int st0), (2, .int (nI a)), (3, .int (nI b))] := hl
  refine lv_iload_n hx hb dX0_challengeBehind_0 rfl (lv_at hl 1 rfl) ?_
  refine lv_iload_n hx hb dX0_challengeBehind_1 rfl (lv_at hl 2 rfl) ?_
  refine vp_callSi (W.runS (As := [.int st0, .int (nI a)]) (rest := []) ⟨hx, hb, hml, hown, hts⟩ (kX2_mixed l) (va_cwS 2 hts gX0_challengeBehind_X2_mixed rfl rfl rfl (by decide +kernel) ⟨Nat.le_of_ble_eq_true rfl, Nat.le_of_ble_eq_true rfl⟩) pu_ps rfl rfl hl.1 rfl (lv_room (Nat.le_of_ble_eq_true rfl)) dX0_challengeBehind_2 ⟨Nat.le_of_ble_eq_true rfl, Nat.le_of_ble_eq_true rfl⟩) (fun r_2 hr_2 => ?_)
  subst hr_2
  refine lv_iload_n hx hb dX0_challengeBehind_5 rfl (lv_at hl 3 rfl) ?_
  refine vp_callSi (W.runS (As := [.int (mxI st0 (nI a)), .int (nI b)]) (rest := []) ⟨hx, hb, hml, hown, hts⟩ (kX2_mixed l) (va_cwS 2 hts gX0_challengeBehind_X2_mixed rfl rfl rfl (by decide +kernel) ⟨Nat.le_of_ble_eq_true rfl, Nat.le_of_ble_eq_true rfl⟩) pu_ps rfl rfl hl.1 rfl (lv_room (Nat.le_of_ble_eq_true rfl)) dX0_challengeBehind_6 ⟨Nat.le_of_ble_eq_true rfl, Nat.le_of_ble_eq_true rfl⟩) (fun r_6 hr_6 => ?_)
  subst hr_6
  refine vp_callSi (W.runS (As := [.int (mxI (mxI st0 (nI a)) (nI b))]) (rest := []) ⟨hx, hb, hml, hown, hts⟩ (kX2_rest l) (va_cwS 1 hts gX0_challengeBehind_X2_rest rfl rfl rfl (by decide +kernel) ⟨Nat.le_of_ble_eq_true rfl, Nat.le_of_ble_eq_true rfl⟩) pu_ps rfl rfl hl.1 rfl (lv_room (Nat.le_of_ble_eq_true rfl)) dX0_challengeBehind_9 ⟨Nat.le_of_ble_eq_true rfl, Nat.le_of_ble_eq_true rfl⟩) (fun r_9 hr_9 => ?_)
  subst hr_9
  exact W.iret (v := (nI (rsN (mxI (mxI st0 (nI a)) (nI b)) 1013))) hx hb hr (fun t ht hW => ⟨(nI (rsN (mxI (mxI st0 (nI a)) (nI b)) 1013)), rfl, rfl, ht⟩) (fun q h => nomatch h) dX0_challengeBehind_12

set_option maxHeartbeats 4000000 in
set_option maxRecDepth 100000 in
/-- Claim.step -/
theorem kX0_step (l : Launch) {D : va_G} {cy ad : Nat → Nat} {n : Nat} {M : Mm} {qc ks bB : Nat} {v mo : Int32} {st0 : Int32} {tg c0 y0 r0 : Nat} (hB : bB < 2027) (htg : tg < 2027) (hc0 : c0 < 1013) (hy0 : y0 < 2027) (hr0 : r0 < 1013) : Met l yX0_step wsX0_step ({ frames := 2, cells := 0, slots := 0, locals := 45 }) (va_Pc [.ref qc, .int st0, .int (nI tg), .int (nI c0), .int (nI y0), .int (nI r0)] (RO D cy (wd cy ad n M ++ [(qc, .inr (0, [.ref (ad ks), .int v, .int (nI bB), .int mo]))]))) (vp_Si (fun r => r = nI (stN st0 bB tg c0 y0 r0))) 0 0 (fun _ => False) := by
  refine Met.ofW (cc := cX0_step) (maxL := 8) (ret := (some .int)) (by decide +kernel) rfl ?_
  intro p e s m args below meth c s₁ B hml hv
  obtain ⟨rfl, hP, hE⟩ := hv
  have hx := B.exec
  have hb := B.bytes
  have hr := B.returns
  have hts := atoms_spec (ws := wsX0_step) B.pre
  have hown : s.vm.findClass RX0 = some m.cls := findClass_of_methodNamed B.named
  have hlocks := B.notSynchronized
  have hf19 : (Cond.fieldLink RX0 19 "RingPetition$Claim" "topicBase" "I").before #[.ref qc, .int st0, .int (nI tg), .int (nI c0), .int (nI y0), .int (nI r0)] s = true := hts _ (by decide +kernel)
  have hin_RX0 : ∀ w ∈ u_ws RX0 TX0 4, w ∈ wsX0_step := by decide +kernel
  have hl := lv_entry ([.ref qc, .int st0, .int (nI tg), .int (nI c0), .int (nI y0), .int (nI r0)]) (n := 8) (Nat.le_of_ble_eq_true rfl)
  rw [lg_entry_eq]
  generalize (lg_sl ([.ref qc, .int st0, .int (nI tg), .int (nI c0), .int (nI y0), .int (nI r0)]) ++ List.replicate (8 - (lg_sl ([.ref qc, .int st0, .int (nI tg), .int (nI c0), .int (nI y0), .int (nI r0)])).length) Slot.unset).toArray = ls at hl ⊢
  have hl : lv_has ls 8 [(0, .ref qc), (1, .int st0), (2, .int (nI tg)), (3, .int (nI c0)), (4, .int (nI y0)), (5, .int (nI r0))] := hl
  refine lv_iconst (v := (nI 4)) hx hb dX0_step_0 (by decide) ?_
  refine lv_iload hx hb dX0_step_1 (lv_at hl 5 rfl) ?_
  refine vp_callSi (W.runS (As := [.int (nI 4), .int (nI r0)]) (rest := []) ⟨hx, hb, hml, hown, hts⟩ (kX2_power l (b := 4) (e0 := r0) (by decide) (by omega)) (va_cwS 2 hts gX0_step_X2_power rfl rfl rfl (by decide +kernel) ⟨Nat.le_of_ble_eq_true rfl, Nat.le_of_ble_eq_true rfl⟩) pu_ps rfl rfl hl.1 rfl (lv_room (Nat.le_of_ble_eq_true rfl)) dX0_step_3 ⟨Nat.le_of_ble_eq_true rfl, Nat.le_of_ble_eq_true rfl⟩) (fun r_3 hr_3 => ?_)
  subst hr_3
  refine lv_iload hx hb dX0_step_6 (lv_at hl 4 rfl) ?_
  refine lv_iload_n hx hb dX0_step_8 rfl (lv_at hl 3 rfl) ?_
  refine vp_callSi (W.runS (As := [.int (nI y0), .int (nI c0)]) (rest := [.int (nI (4 ^ r0 % 2027))]) ⟨hx, hb, hml, hown, hts⟩ (kX2_power l (b := y0) (e0 := c0) hy0 (by omega)) (va_cwS 2 hts gX0_step_X2_power rfl rfl rfl (by decide +kernel) ⟨Nat.le_of_ble_eq_true rfl, Nat.le_of_ble_eq_true rfl⟩) pu_ps rfl rfl hl.1 rfl (lv_room (Nat.le_of_ble_eq_true rfl)) dX0_step_9 ⟨Nat.le_of_ble_eq_true rfl, Nat.le_of_ble_eq_true rfl⟩) (fun r_9 hr_9 => ?_)
  subst hr_9
  refine lv_imul hx hb dX0_step_12 ?_
  refine wr_top (y := (nI ((4 ^ r0 % 2027) * (y0 ^ c0 % 2027)))) (pk_mul _ _) ?_
  refine lv_sipush (v := (nI 2027)) hx hb dX0_step_13 (by decide) ?_
  refine lv_irem hx hb dX0_step_16 (by decide) ?_
  refine wr_top (y := (nI (4 ^ r0 * y0 ^ c0 % 2027))) ((pk_rem (mul_small (Nat.mod_lt _ (by decide)) (Nat.mod_lt _ (by decide))) (by decide) (by decide)).trans (congrArg nI (pm_mul _ _))) ?_
  refine lv_istore (lv' := [(6, .int (nI (4 ^ r0 * y0 ^ c0 % 2027))), (0, .ref qc), (1, .int st0), (2, .int (nI tg)), (3, .int (nI c0)), (4, .int (nI y0)), (5, .int (nI r0))]) hx hb dX0_step_17 hl (by decide) rfl (fun ls hl => ?_)
  refine lv_aload_n hx hb dX0_step_19 rfl (lv_at hl 1 rfl) ?_
  refine va_get (D := D) (ci := 0) (v := .int (nI bB)) (C := RX0) (T := TX0) (N := 4) hx hb hts hin_RX0 hown hE.1 hP n wd_ex rfl 2 (by decide) hf19 (fun _ h9 => h9) rfl dX0_step_20 ?_
  refine lv_iload hx hb dX0_step_23 (lv_at hl 6 rfl) ?_
  refine vp_callSi (W.runS (As := [.int (nI bB), .int (nI r0)]) (rest := []) ⟨hx, hb, hml, hown, hts⟩ (kX2_power l (b := bB) (e0 := r0) hB (by omega)) (va_cwS 2 hts gX0_step_X2_power rfl rfl rfl (by decide +kernel) ⟨Nat.le_of_ble_eq_true rfl, Nat.le_of_ble_eq_true rfl⟩) pu_ps rfl rfl hl.1 rfl (lv_room (Nat.le_of_ble_eq_true rfl)) dX0_step_25 ⟨Nat.le_of_ble_eq_true rfl, Nat.le_of_ble_eq_true rfl⟩) (fun r_25 hr_25 => ?_)
  subst hr_25
  refine lv_iload_n hx hb dX0_step_28 rfl (lv_at hl 3 rfl) ?_
  refine lv_iload_n hx hb dX0_step_29 rfl (lv_at hl 4 rfl) ?_
  refine vp_callSi (W.runS (As := [.int (nI tg), .int (nI c0)]) (rest := [.int (nI (bB ^ r0 % 2027))]) ⟨hx, hb, hml, hown, hts⟩ (kX2_power l (b := tg) (e0 := c0) htg (by omega)) (va_cwS 2 hts gX0_step_X2_power rfl rfl rfl (by decide +kernel) ⟨Nat.le_of_ble_eq_true rfl, Nat.le_of_ble_eq_true rfl⟩) pu_ps rfl rfl hl.1 rfl (lv_room (Nat.le_of_ble_eq_true rfl)) dX0_step_30 ⟨Nat.le_of_ble_eq_true rfl, Nat.le_of_ble_eq_true rfl⟩) (fun r_30 hr_30 => ?_)
  subst hr_30
  refine lv_imul hx hb dX0_step_33 ?_
  refine wr_top (y := (nI ((bB ^ r0 % 2027) * (tg ^ c0 % 2027)))) (pk_mul _ _) ?_
  refine lv_sipush (v := (nI 2027)) hx hb dX0_step_34 (by decide) ?_
  refine lv_irem hx hb dX0_step_37 (by decide) ?_
  refine wr_top (y := (nI (bB ^ r0 * tg ^ c0 % 2027))) ((pk_rem (mul_small (Nat.mod_lt _ (by decide)) (Nat.mod_lt _ (by decide))) (by decide) (by decide)).trans (congrArg nI (pm_mul _ _))) ?_
  refine lv_istore (lv' := [(7, .int (nI (bB ^ r0 * tg ^ c0 % 2027))), (6, .int (nI (4 ^ r0 * y0 ^ c0 % 2027))), (0, .ref qc), (1, .int st0), (2, .int (nI tg)), (3, .int (nI c0)), (4, .int (nI y0)), (5, .int (nI r0))]) hx hb dX0_step_38 hl (by decide) rfl (fun ls hl => ?_)
  refine lv_aload_n hx hb dX0_step_40 rfl (lv_at hl 2 rfl) ?_
  refine lv_iload_n hx hb dX0_step_41 rfl (lv_at hl 3 rfl) ?_
  refine lv_iload hx hb dX0_step_42 (lv_at hl 1 rfl) ?_
  refine lv_iload hx hb dX0_step_44 (lv_at hl 0 rfl) ?_
  refine vp_callSi (W.runV (As := [.int st0, .int (nI (4 ^ r0 * y0 ^ c0 % 2027)), .int (nI (bB ^ r0 * tg ^ c0 % 2027))]) (rest := []) ⟨hx, hb, hml, hown, hts⟩ (kX0_challengeBehind l (qc := qc)) (cwV 3 hts gX0_step_X0_challengeBehind rfl rfl rfl (by decide +kernel) ⟨Nat.le_of_ble_eq_true rfl, Nat.le_of_ble_eq_true rfl⟩) (pu_pv (ci := 0) (q := (RX0, TX0, 4)) hE hP rfl wd_ex) rfl rfl hl.1 rfl (lv_room (Nat.le_of_ble_eq_true rfl)) dX0_step_46 ⟨Nat.le_of_ble_eq_true rfl, Nat.le_of_ble_eq_true rfl⟩) (fun r_46 hr_46 => ?_)
  subst hr_46
  exact W.iret (v := (nI (stN st0 bB tg c0 y0 r0))) hx hb hr (fun t ht hW => ⟨(nI (stN st0 bB tg c0 y0 r0)), rfl, rfl, ht⟩) (fun q h => nomatch h) dX0_step_49

set_option maxHeartbeats 4000000 in
set_option maxRecDepth 100000 in
/-- Claim.stem -/
theorem kX0_stem (l : Launch) {D : va_G} {cy ad : Nat → Nat} {n : Nat} {M : Mm} {qc ks bB : Nat} {v mo : Int32} (hkr : isKR cy ad ks 6) (hks : ks < n) (hks1 : ks + 1 < n) {z : Nat} (hz : M ks 1 = nI z) (hz6 : z ≤ 6) {tag : Int32} : Met l yX0_stem wsX0_stem ({ frames := 1, cells := 0, slots := 0, locals := 22 }) (va_Pc [.ref qc, .int tag] (RO D cy (wd cy ad n M ++ [(qc, .inr (0, [.ref (ad ks), .int v, .int (nI bB), .int mo]))]))) (vp_Si (fun r => r = stmI z (M (ks + 1)) v mo tag)) 0 0 (fun _ => False) := by
  refine Met.ofW (cc := cX0_stem) (maxL := 4) (ret := (some .int)) (by decide +kernel) rfl ?_
  intro p e s m args below meth c s₁ B hml hv
  obtain ⟨rfl, hP, hE⟩ := hv
  have hx := B.exec
  have hb := B.bytes
  have hr := B.returns
  have hts := atoms_spec (ws := wsX0_stem) B.pre
  have hown : s.vm.findClass RX0 = some m.cls := findClass_of_methodNamed B.named
  have hlocks := B.notSynchronized
  have hf15 : (Cond.fieldLink RX0 15 "RingPetition$Claim" "value" "I").before #[.ref qc, .int tag] s = true := hts _ (by decide +kernel)
  have hf22 : (Cond.fieldLink RX0 22 "RingPetition$Claim" "motion" "I").before #[.ref qc, .int tag] s = true := hts _ (by decide +kernel)
  have hf30 : (Cond.fieldLinkNest RX0 30 "RingPetition$KeyRow" "size" "I" "RingPetition").before #[.ref qc, .int tag] s = true := va_Nw.use rfl (hE.2 _ (List.mem_of_getElem? (i := 2) rfl))
  have hf45 : (Cond.fieldLinkNest RX0 45 "RingPetition$KeyRow" "keys" "[I" "RingPetition").before #[.ref qc, .int tag] s = true := va_Nw.use rfl (hE.2 _ (List.mem_of_getElem? (i := 0) rfl))
  have hf9 : (Cond.fieldLink RX0 9 "RingPetition$Claim" "signers" "LRingPetition$KeyRow;").before #[.ref qc, .int tag] s = true := hts _ (by decide +kernel)
  have hin_RX0 : ∀ w ∈ u_ws RX0 TX0 4, w ∈ wsX0_stem := by decide +kernel
  have hin_RX1 : ∀ w ∈ u_ws RX1 TX1 2, w ∈ wsX0_stem := by decide +kernel
  have hl := lv_entry ([.ref qc, .int tag]) (n := 4) (Nat.le_of_ble_eq_true rfl)
  rw [lg_entry_eq]
  generalize (lg_sl ([.ref qc, .int tag]) ++ List.replicate (4 - (lg_sl ([.ref qc, .int tag])).length) Slot.unset).toArray = ls at hl ⊢
  have hl : lv_has ls 4 [(0, .ref qc), (1, .int tag)] := hl
  refine lv_bipush (v := (nI 17)) hx hb dX0_stem_0 (by decide) ?_
  refine lv_aload_n hx hb dX0_stem_2 rfl (lv_at hl 0 rfl) ?_
  refine va_get (D := D) (ci := 0) (v := .ref (ad ks)) (C := RX0) (T := TX0) (N := 4) hx hb hts hin_RX0 hown hE.1 hP n wd_ex rfl 0 (by decide) hf9 (fun _ h9 => h9) rfl dX0_stem_3 ?_
  refine va_getN (D := D) (ci := 1) (v := .int (M ks 1)) (C := RX1) (T := TX1) (N := 2) hx hb hts hin_RX1 hown hE.1 hP ks (wd_at (M := M) hks (hkr.1 _)) rfl 1 (by decide) hf30 (fun _ h9 => h9) rfl dX0_stem_6 ?_
  refine wr_top (y := (nI z)) hz ?_
  refine vp_callSi (W.runS (As := [.int (nI 17), .int (nI z)]) (rest := []) ⟨hx, hb, hml, hown, hts⟩ (kX2_mixed l) (va_cwS 2 hts gX0_stem_X2_mixed rfl rfl rfl (by decide +kernel) ⟨Nat.le_of_ble_eq_true rfl, Nat.le_of_ble_eq_true rfl⟩) pu_ps rfl rfl hl.1 rfl (lv_room (Nat.le_of_ble_eq_true rfl)) dX0_stem_9 ⟨Nat.le_of_ble_eq_true rfl, Nat.le_of_ble_eq_true rfl⟩) (fun r_9 hr_9 => ?_)
  subst hr_9
  refine lv_istore_n (lv' := [(2, .int (mxI (nI 17) (nI z))), (0, .ref qc), (1, .int tag)]) hx hb dX0_stem_12 rfl hl (by decide) rfl (fun ls hl => ?_)
  refine lv_iconst (v := (nI 0)) hx hb dX0_stem_13 (by decide) ?_
  refine lv_istore_n (lv' := [(3, .int (nI 0)), (2, .int (mxI (nI 17) (nI z))), (0, .ref qc), (1, .int tag)]) hx hb dX0_stem_14 rfl hl (by decide) rfl (fun ls hl => ?_)
  refine wloopR (fun kq (xq : Nat) ls => match xq with | i => kq = z - i ∧ (i ≤ z) ∧ lv_has ls 4 [(3, .int (nI i)), (2, .int (stmF (mxI (nI 17) (nI z)) (M (ks + 1)) i)), (0, .ref qc), (1, .int tag)]) (fun k15 x15 ls h15 ih15 => ?_) _ 0 ls ⟨rfl, Nat.zero_le _, lv_sub hl [0, 1, 2, 3] rfl⟩
  obtain ⟨i, rfl⟩ : ∃ z, z = x15 := ⟨_, rfl⟩
  obtain ⟨hk15, hI, hl⟩ := h15
  refine lv_iload_n hx hb dX0_stem_15 rfl (lv_at hl 0 rfl) ?_
  refine lv_aload_n hx hb dX0_stem_16 rfl (lv_at hl 2 rfl) ?_
  refine va_get (D := D) (ci := 0) (v := .ref (ad ks)) (C := RX0) (T := TX0) (N := 4) hx hb hts hin_RX0 hown hE.1 hP n wd_ex rfl 0 (by decide) hf9 (fun _ h9 => h9) rfl dX0_stem_17 ?_
  refine va_getN (D := D) (ci := 1) (v := .int (M ks 1)) (C := RX1) (T := TX1) (N := 2) hx hb hts hin_RX1 hown hE.1 hP ks (wd_at (M := M) hks (hkr.1 _)) rfl 1 (by decide) hf30 (fun _ h9 => h9) rfl dX0_stem_20 ?_
  refine wr_top (y := (nI z)) hz ?_
  refine lv_icmp_ge (tgt := 46) hx hb dX0_stem_23 (by decide) (fun c_23 => ?_) (fun c_23 => ?_)
  · have c_23 := (nI_leI (by omega) (by omega)).mp c_23
    refine lv_iload_n hx hb dX0_stem_46 rfl (lv_at hl 1 rfl) ?_
    refine lv_aload_n hx hb dX0_stem_47 rfl (lv_at hl 2 rfl) ?_
    refine va_get (D := D) (ci := 0) (v := .int v) (C := RX0) (T := TX0) (N := 4) hx hb hts hin_RX0 hown hE.1 hP n wd_ex rfl 1 (by decide) hf15 (fun _ h9 => h9) rfl dX0_stem_48 ?_
    refine vp_callSi (W.runS (As := [.int (stmF (mxI (nI 17) (nI z)) (M (ks + 1)) i), .int v]) (rest := []) ⟨hx, hb, hml, hown, hts⟩ (kX2_mixed l) (va_cwS 2 hts gX0_stem_X2_mixed rfl rfl rfl (by decide +kernel) ⟨Nat.le_of_ble_eq_true rfl, Nat.le_of_ble_eq_true rfl⟩) pu_ps rfl rfl hl.1 rfl (lv_room (Nat.le_of_ble_eq_true rfl)) dX0_stem_51 ⟨Nat.le_of_ble_eq_true rfl, Nat.le_of_ble_eq_true rfl⟩) (fun r_51 hr_51 => ?_)
    subst hr_51
    refine lv_istore_n (lv' := [(2, .int (mxI (stmF (mxI (nI 17) (nI z)) (M (ks + 1)) i) v)), (3, .int (nI i)), (0, .ref qc), (1, .int tag)]) hx hb dX0_stem_54 rfl hl (by decide) rfl (fun ls hl => ?_)
    refine lv_iload_n hx hb dX0_stem_55 rfl (lv_at hl 0 rfl) ?_
    refine lv_aload_n hx hb dX0_stem_56 rfl (lv_at hl 2 rfl) ?_
    refine va_get (D := D) (ci := 0) (v := .int mo) (C := RX0) (T := TX0) (N := 4) hx hb hts hin_RX0 hown hE.1 hP n wd_ex rfl 3 (by decide) hf22 (fun _ h9 => h9) rfl dX0_stem_57 ?_
    refine vp_callSi (W.runS (As := [.int (mxI (stmF (mxI (nI 17) (nI z)) (M (ks + 1)) i) v), .int mo]) (rest := []) ⟨hx, hb, hml, hown, hts⟩ (kX2_mixed l) (va_cwS 2 hts gX0_stem_X2_mixed rfl rfl rfl (by decide +kernel) ⟨Nat.le_of_ble_eq_true rfl, Nat.le_of_ble_eq_true rfl⟩) pu_ps rfl rfl hl.1 rfl (lv_room (Nat.le_of_ble_eq_true rfl)) dX0_stem_60 ⟨Nat.le_of_ble_eq_true rfl, Nat.le_of_ble_eq_true rfl⟩) (fun r_60 hr_60 => ?_)
    subst hr_60
    refine lv_istore_n (lv' := [(2, .int (mxI (mxI (stmF (mxI (nI 17) (nI z)) (M (ks + 1)) i) v) mo)), (3, .int (nI i)), (0, .ref qc), (1, .int tag)]) hx hb dX0_stem_63 rfl hl (by decide) rfl (fun ls hl => ?_)
    refine lv_iload_n hx hb dX0_stem_64 rfl (lv_at hl 0 rfl) ?_
    refine lv_iload_n hx hb dX0_stem_65 rfl (lv_at hl 3 rfl) ?_
    refine vp_callSi (W.runS (As := [.int (mxI (mxI (stmF (mxI (nI 17) (nI z)) (M (ks + 1)) i) v) mo), .int tag]) (rest := []) ⟨hx, hb, hml, hown, hts⟩ (kX2_mixed l) (va_cwS 2 hts gX0_stem_X2_mixed rfl rfl rfl (by decide +kernel) ⟨Nat.le_of_ble_eq_true rfl, Nat.le_of_ble_eq_true rfl⟩) pu_ps rfl rfl hl.1 rfl (lv_room (Nat.le_of_ble_eq_true rfl)) dX0_stem_66 ⟨Nat.le_of_ble_eq_true rfl, Nat.le_of_ble_eq_true rfl⟩) (fun r_66 hr_66 => ?_)
    subst hr_66
    exact W.iret (v := (mxI (mxI (mxI (stmF (mxI (nI 17) (nI z)) (M (ks + 1)) i) v) mo) tag)) hx hb hr (fun t ht hW => ⟨(mxI (mxI (mxI (stmF (mxI (nI 17) (nI z)) (M (ks + 1)) i) v) mo) tag), rfl, by rw [show i = z by omega]; rfl, ht⟩) (fun q h => nomatch h) dX0_stem_69
  · have c_23 := mt (nI_leI (by omega) (by omega)).mpr c_23
    refine lv_iload_n hx hb dX0_stem_26 rfl (lv_at hl 1 rfl) ?_
    refine lv_aload_n hx hb dX0_stem_27 rfl (lv_at hl 2 rfl) ?_
    refine va_get (D := D) (ci := 0) (v := .ref (ad ks)) (C := RX0) (T := TX0) (N := 4) hx hb hts hin_RX0 hown hE.1 hP n wd_ex rfl 0 (by decide) hf9 (fun _ h9 => h9) rfl dX0_stem_28 ?_
    refine va_getN (D := D) (ci := 1) (v := .ref (ad (ks + 1))) (C := RX1) (T := TX1) (N := 2) hx hb hts hin_RX1 hown hE.1 hP ks (wd_at (M := M) hks (hkr.1 _)) rfl 0 (by decide) hf45 (fun _ h9 => h9) rfl dX0_stem_31 ?_
    refine lv_iload_n hx hb dX0_stem_34 rfl (lv_at hl 0 rfl) ?_
    refine wr_ald (cy := cy) (ad := ad) (ex := [(qc, .inr (0, [.ref (ad ks), .int v, .int (nI bB), .int mo]))]) hx hb hE.1 hP (ks + 1) hks1 (hkr.2 _) i rfl (by omega) (by decide) dX0_stem_35 ?_
    refine vp_callSi (W.runS (As := [.int (stmF (mxI (nI 17) (nI z)) (M (ks + 1)) i), .int (M (ks + 1) i)]) (rest := []) ⟨hx, hb, hml, hown, hts⟩ (kX2_mixed l) (va_cwS 2 hts gX0_stem_X2_mixed rfl rfl rfl (by decide +kernel) ⟨Nat.le_of_ble_eq_true rfl, Nat.le_of_ble_eq_true rfl⟩) pu_ps rfl rfl hl.1 rfl (lv_room (Nat.le_of_ble_eq_true rfl)) dX0_stem_36 ⟨Nat.le_of_ble_eq_true rfl, Nat.le_of_ble_eq_true rfl⟩) (fun r_36 hr_36 => ?_)
    subst hr_36
    refine lv_istore_n (lv' := [(2, .int (stmF (mxI (nI 17) (nI z)) (M (ks + 1)) (i + 1))), (3, .int (nI i)), (0, .ref qc), (1, .int tag)]) hx hb dX0_stem_39 rfl hl (by decide) rfl (fun ls hl => ?_)
    refine lv_iinc (v := (nI (i + 1))) (lv' := [(3, .int (nI (i + 1))), (2, .int (stmF (mxI (nI 17) (nI z)) (M (ks + 1)) (i + 1))), (0, .ref qc), (1, .int tag)]) hx hb dX0_stem_40 hl (k := 1) rfl (nI_1 _) (by decide) rfl (fun ls hl => ?_)
    refine lv_goto (tgt := 15) hx hb dX0_stem_43 (by decide) ?_
    exact ih15 _ (i + 1) _ (by omega) ⟨rfl, by omega, (lv_sub hl [0, 1, 2, 3] rfl)⟩

set_option maxHeartbeats 4000000 in
set_option maxRecDepth 100000 in
/-- Claim.nonce -/
theorem kX0_nonce (l : Launch) {D : va_G} {cy ad : Nat → Nat} {n : Nat} {M : Mm} {qc ks bB : Nat} {v mo : Int32} {s0 : Int32} {i : Nat} : Met l yX0_nonce wsX0_nonce ({ frames := 1, cells := 0, slots := 0, locals := 22 }) (va_Pc [.ref qc, .int s0, .int (nI i)] (RO D cy (wd cy ad n M ++ [(qc, .inr (0, [.ref (ad ks), .int v, .int (nI bB), .int mo]))]))) (vp_Si (fun r => r = nI (ncN s0 v mo i))) 0 0 (fun _ => False) := by
  refine Met.ofW (cc := cX0_nonce) (maxL := 4) (ret := (some .int)) (by decide +kernel) rfl ?_
  intro p e s m args below meth c s₁ B hml hv
  obtain ⟨rfl, hP, hE⟩ := hv
  have hx := B.exec
  have hb := B.bytes
  have hr := B.returns
  have hts := atoms_spec (ws := wsX0_nonce) B.pre
  have hown : s.vm.findClass RX0 = some m.cls := findClass_of_methodNamed B.named
  have hlocks := B.notSynchronized
  have hf15 : (Cond.fieldLink RX0 15 "RingPetition$Claim" "value" "I").before #[.ref qc, .int s0, .int (nI i)] s = true := hts _ (by decide +kernel)
  have hf22 : (Cond.fieldLink RX0 22 "RingPetition$Claim" "motion" "I").before #[.ref qc, .int s0, .int (nI i)] s = true := hts _ (by decide +kernel)
  have hin_RX0 : ∀ w ∈ u_ws RX0 TX0 4, w ∈ wsX0_nonce := by decide +kernel
  have hl := lv_entry ([.ref qc, .int s0, .int (nI i)]) (n := 4) (Nat.le_of_ble_eq_true rfl)
  rw [lg_entry_eq]
  generalize (lg_sl ([.ref qc, .int s0, .int (nI i)]) ++ List.replicate (4 - (lg_sl ([.ref qc, .int s0, .int (nI i)])).length) Slot.unset).toArray = ls at hl ⊢
  have hl : lv_has ls 4 [(0, .ref qc), (1, .int s0), (2, .int (nI i))] := hl
  refine lv_bipush (v := (nI 17)) hx hb dX0_nonce_0 (by decide) ?_
  refine lv_iload_n hx hb dX0_nonce_2 rfl (lv_at hl 1 rfl) ?_
  refine vp_callSi (W.runS (As := [.int (nI 17), .int s0]) (rest := []) ⟨hx, hb, hml, hown, hts⟩ (kX2_mixed l) (va_cwS 2 hts gX0_nonce_X2_mixed rfl rfl rfl (by decide +kernel) ⟨Nat.le_of_ble_eq_true rfl, Nat.le_of_ble_eq_true rfl⟩) pu_ps rfl rfl hl.1 rfl (lv_room (Nat.le_of_ble_eq_true rfl)) dX0_nonce_3 ⟨Nat.le_of_ble_eq_true rfl, Nat.le_of_ble_eq_true rfl⟩) (fun r_3 hr_3 => ?_)
  subst hr_3
  refine lv_istore_n (lv' := [(3, .int (mxI (nI 17) s0)), (0, .ref qc), (1, .int s0), (2, .int (nI i))]) hx hb dX0_nonce_6 rfl hl (by decide) rfl (fun ls hl => ?_)
  refine lv_iload_n hx hb dX0_nonce_7 rfl (lv_at hl 0 rfl) ?_
  refine lv_aload_n hx hb dX0_nonce_8 rfl (lv_at hl 1 rfl) ?_
  refine va_get (D := D) (ci := 0) (v := .int v) (C := RX0) (T := TX0) (N := 4) hx hb hts hin_RX0 hown hE.1 hP n wd_ex rfl 1 (by decide) hf15 (fun _ h9 => h9) rfl dX0_nonce_9 ?_
  refine vp_callSi (W.runS (As := [.int (mxI (nI 17) s0), .int v]) (rest := []) ⟨hx, hb, hml, hown, hts⟩ (kX2_mixed l) (va_cwS 2 hts gX0_nonce_X2_mixed rfl rfl rfl (by decide +kernel) ⟨Nat.le_of_ble_eq_true rfl, Nat.le_of_ble_eq_true rfl⟩) pu_ps rfl rfl hl.1 rfl (lv_room (Nat.le_of_ble_eq_true rfl)) dX0_nonce_12 ⟨Nat.le_of_ble_eq_true rfl, Nat.le_of_ble_eq_true rfl⟩) (fun r_12 hr_12 => ?_)
  subst hr_12
  refine lv_istore_n (lv' := [(3, .int (mxI (mxI (nI 17) s0) v)), (0, .ref qc), (1, .int s0), (2, .int (nI i))]) hx hb dX0_nonce_15 rfl hl (by decide) rfl (fun ls hl => ?_)
  refine lv_iload_n hx hb dX0_nonce_16 rfl (lv_at hl 0 rfl) ?_
  refine lv_aload_n hx hb dX0_nonce_17 rfl (lv_at hl 1 rfl) ?_
  refine va_get (D := D) (ci := 0) (v := .int mo) (C := RX0) (T := TX0) (N := 4) hx hb hts hin_RX0 hown hE.1 hP n wd_ex rfl 3 (by decide) hf22 (fun _ h9 => h9) rfl dX0_nonce_18 ?_
  refine vp_callSi (W.runS (As := [.int (mxI (mxI (nI 17) s0) v), .int mo]) (rest := []) ⟨hx, hb, hml, hown, hts⟩ (kX2_mixed l) (va_cwS 2 hts gX0_nonce_X2_mixed rfl rfl rfl (by decide +kernel) ⟨Nat.le_of_ble_eq_true rfl, Nat.le_of_ble_eq_true rfl⟩) pu_ps rfl rfl hl.1 rfl (lv_room (Nat.le_of_ble_eq_true rfl)) dX0_nonce_21 ⟨Nat.le_of_ble_eq_true rfl, Nat.le_of_ble_eq_true rfl⟩) (fun r_21 hr_21 => ?_)
  subst hr_21
  refine lv_istore_n (lv' := [(3, .int (mxI (mxI (mxI (nI 17) s0) v) mo)), (0, .ref qc), (1, .int s0), (2, .int (nI i))]) hx hb dX0_nonce_24 rfl hl (by decide) rfl (fun ls hl => ?_)
  refine lv_iload_n hx hb dX0_nonce_25 rfl (lv_at hl 0 rfl) ?_
  refine lv_iload_n hx hb dX0_nonce_26 rfl (lv_at hl 3 rfl) ?_
  refine vp_callSi (W.runS (As := [.int (mxI (mxI (mxI (nI 17) s0) v) mo), .int (nI i)]) (rest := []) ⟨hx, hb, hml, hown, hts⟩ (kX2_mixed l) (va_cwS 2 hts gX0_nonce_X2_mixed rfl rfl rfl (by decide +kernel) ⟨Nat.le_of_ble_eq_true rfl, Nat.le_of_ble_eq_true rfl⟩) pu_ps rfl rfl hl.1 rfl (lv_room (Nat.le_of_ble_eq_true rfl)) dX0_nonce_27 ⟨Nat.le_of_ble_eq_true rfl, Nat.le_of_ble_eq_true rfl⟩) (fun r_27 hr_27 => ?_)
  subst hr_27
  refine vp_callSi (W.runS (As := [.int (mxI (mxI (mxI (mxI (nI 17) s0) v) mo) (nI i))]) (rest := []) ⟨hx, hb, hml, hown, hts⟩ (kX2_rest l) (va_cwS 1 hts gX0_nonce_X2_rest rfl rfl rfl (by decide +kernel) ⟨Nat.le_of_ble_eq_true rfl, Nat.le_of_ble_eq_true rfl⟩) pu_ps rfl rfl hl.1 rfl (lv_room (Nat.le_of_ble_eq_true rfl)) dX0_nonce_30 ⟨Nat.le_of_ble_eq_true rfl, Nat.le_of_ble_eq_true rfl⟩) (fun r_30 hr_30 => ?_)
  subst hr_30
  exact W.iret (v := (nI (rsN (mxI (mxI (mxI (mxI (nI 17) s0) v) mo) (nI i)) 1013))) hx hb hr (fun t ht hW => ⟨(nI (rsN (mxI (mxI (mxI (mxI (nI 17) s0) v) mo) (nI i)) 1013)), rfl, rfl, ht⟩) (fun q h => nomatch h) dX0_nonce_33

set_option maxHeartbeats 4000000 in
set_option maxRecDepth 100000 in
/-- Claim.placeBehind -/
theorem kX0_placeBehind (l : Launch) {D : va_G} {cy ad : Nat → Nat} {n : Nat} {M : Mm} {qc ks bB : Nat} {v mo : Int32} (hkr : isKR cy ad ks 6) (hks : ks < n) (hks1 : ks + 1 < n) {z : Nat} (hz : M ks 1 = nI z) (hz6 : z ≤ 6) {i : Nat} (hi : i < z) : Met l yX0_placeBehind wsX0_placeBehind ({ frames := 0, cells := 0, slots := 0, locals := 0 }) (va_Pc [.ref qc, .int (nI i)] (RO D cy (wd cy ad n M ++ [(qc, .inr (0, [.ref (ad ks), .int v, .int (nI bB), .int mo]))]))) (vp_Si (fun r => r = nI (if i + 1 < z then i + 1 else 0))) 0 0 (fun _ => False) := by
  refine Met.ofW (cc := cX0_placeBehind) (maxL := 2) (ret := (some .int)) (by decide +kernel) rfl ?_
  intro p e s m args below meth c s₁ B hml hv
  obtain ⟨rfl, hP, hE⟩ := hv
  have hx := B.exec
  have hb := B.bytes
  have hr := B.returns
  have hts := atoms_spec (ws := wsX0_placeBehind) B.pre
  have hown : s.vm.findClass RX0 = some m.cls := findClass_of_methodNamed B.named
  have hlocks := B.notSynchronized
  have hf30 : (Cond.fieldLinkNest RX0 30 "RingPetition$KeyRow" "size" "I" "RingPetition").before #[.ref qc, .int (nI i)] s = true := va_Nw.use rfl (hE.2 _ (List.mem_of_getElem? (i := 2) rfl))
  have hf9 : (Cond.fieldLink RX0 9 "RingPetition$Claim" "signers" "LRingPetition$KeyRow;").before #[.ref qc, .int (nI i)] s = true := hts _ (by decide +kernel)
  have hin_RX0 : ∀ w ∈ u_ws RX0 TX0 4, w ∈ wsX0_placeBehind := by decide +kernel
  have hin_RX1 : ∀ w ∈ u_ws RX1 TX1 2, w ∈ wsX0_placeBehind := by decide +kernel
  have hl := lv_entry ([.ref qc, .int (nI i)]) (n := 2) (Nat.le_of_ble_eq_true rfl)
  rw [lg_entry_eq]
  generalize (lg_sl ([.ref qc, .int (nI i)]) ++ List.replicate (2 - (lg_sl ([.ref qc, .int (nI i)])).length) Slot.unset).toArray = ls at hl ⊢
  have hl : lv_has ls 2 [(0, .ref qc), (1, .int (nI i))] := hl
  refine lv_iload_n hx hb dX0_placeBehind_0 rfl (lv_at hl 1 rfl) ?_
  refine lv_iconst (v := (nI 1)) hx hb dX0_placeBehind_1 (by decide) ?_
  refine lv_iadd hx hb dX0_placeBehind_2 ?_
  refine wr_top (y := (nI (i + 1))) (nI_add _ _) ?_
  refine lv_aload_n hx hb dX0_placeBehind_3 rfl (lv_at hl 0 rfl) ?_
  refine va_get (D := D) (ci := 0) (v := .ref (ad ks)) (C := RX0) (T := TX0) (N := 4) hx hb hts hin_RX0 hown hE.1 hP n wd_ex rfl 0 (by decide) hf9 (fun _ h9 => h9) rfl dX0_placeBehind_4 ?_
  refine va_getN (D := D) (ci := 1) (v := .int (M ks 1)) (C := RX1) (T := TX1) (N := 2) hx hb hts hin_RX1 hown hE.1 hP ks (wd_at (M := M) hks (hkr.1 _)) rfl 1 (by decide) hf30 (fun _ h9 => h9) rfl dX0_placeBehind_7 ?_
  refine wr_top (y := (nI z)) hz ?_
  refine lv_icmp_ge (tgt := 19) hx hb dX0_placeBehind_10 (by decide) (fun c_10 => ?_) (fun c_10 => ?_)
  · have c_10 := (nI_leI (by omega) (by omega)).mp c_10
    refine lv_iconst (v := (nI 0)) hx hb dX0_placeBehind_19 (by decide) ?_
    exact W.iret (v := (nI 0)) hx hb hr (fun t ht hW => ⟨(nI 0), rfl, by rw [if_neg (by omega)], ht⟩) (fun q h => nomatch h) dX0_placeBehind_20
  · have c_10 := mt (nI_leI (by omega) (by omega)).mpr c_10
    refine lv_iload_n hx hb dX0_placeBehind_13 rfl (lv_at hl 1 rfl) ?_
    refine lv_iconst (v := (nI 1)) hx hb dX0_placeBehind_14 (by decide) ?_
    refine lv_iadd hx hb dX0_placeBehind_15 ?_
    refine wr_top (y := (nI (i + 1))) (nI_add _ _) ?_
    refine lv_goto (tgt := 20) hx hb dX0_placeBehind_16 (by decide) ?_
    exact W.iret (v := (nI (i + 1))) hx hb hr (fun t ht hW => ⟨(nI (i + 1)), rfl, by rw [if_pos (by omega)], ht⟩) (fun q h => nomatch h) dX0_placeBehind_20

set_option maxHeartbeats 4000000 in
set_option maxRecDepth 100000 in
/-- Claim.hasFitNumbers -/
theorem kX0_hasFitNumbers (l : Launch) {D : va_G} {cy ad : Nat → Nat} {n : Nat} {M : Mm} {qc ks bB : Nat} {v mo : Int32} {kg : Nat} (hsg : isSg cy ad kg) (hkg : kg < n) (hkg1 : kg + 1 < n) {z : Nat} (hsz : M kg 1 = nI (2 + z)) (hz6 : z ≤ 6) : Met l yX0_hasFitNumbers wsX0_hasFitNumbers ({ frames := 2, cells := 0, slots := 0, locals := 44 }) (va_Pc [.ref qc, .ref (ad kg)] (RO D cy (wd cy ad n M ++ [(qc, .inr (0, [.ref (ad ks), .int v, .int (nI bB), .int mo]))]))) (vp_Si (fun r => bP (isE (M (kg + 1) 0) ∧ eltN (vN (M (kg + 1) 1)) = true ∧ ∀ i, i < z → isE (M (kg + 1) (2 + i))) r)) 0 0 (fun _ => False) := by
  refine Met.ofW (cc := cX0_hasFitNumbers) (maxL := 3) (ret := (some .boolean)) (by decide +kernel) rfl ?_
  intro p e s m args below meth c s₁ B hml hv
  obtain ⟨rfl, hP, hE⟩ := hv
  have hx := B.exec
  have hb := B.bytes
  have hr := B.returns
  have hts := atoms_spec (ws := wsX0_hasFitNumbers) B.pre
  have hown : s.vm.findClass RX0 = some m.cls := findClass_of_methodNamed B.named
  have hlocks := B.notSynchronized
  have hf25 : (Cond.fieldLinkNest RX0 25 "RingPetition$Signature" "size" "I" "RingPetition").before #[.ref qc, .ref (ad kg)] s = true := va_Nw.use rfl (hE.2 _ (List.mem_of_getElem? (i := 8) rfl))
  have hf37 : (Cond.fieldLinkNest RX0 37 "RingPetition$Signature" "numbers" "[I" "RingPetition").before #[.ref qc, .ref (ad kg)] s = true := va_Nw.use rfl (hE.2 _ (List.mem_of_getElem? (i := 5) rfl))
  have hin_RX3 : ∀ w ∈ u_ws RX3 TX3 4, w ∈ wsX0_hasFitNumbers := by decide +kernel
  have hl := lv_entry ([.ref qc, .ref (ad kg)]) (n := 3) (Nat.le_of_ble_eq_true rfl)
  rw [lg_entry_eq]
  generalize (lg_sl ([.ref qc, .ref (ad kg)]) ++ List.replicate (3 - (lg_sl ([.ref qc, .ref (ad kg)])).length) Slot.unset).toArray = ls at hl ⊢
  have hl : lv_has ls 3 [(0, .ref qc), (1, .ref (ad kg))] := hl
  refine lv_iconst (v := (nI 2)) hx hb dX0_hasFitNumbers_0 (by decide) ?_
  refine lv_istore_n (lv' := [(2, .int (nI 2)), (0, .ref qc), (1, .ref (ad kg))]) hx hb dX0_hasFitNumbers_1 rfl hl (by decide) rfl (fun ls hl => ?_)
  refine wloopR (fun kq (xq : Nat) ls => match xq with | i => kq = 2 + z - i ∧ ((2 ≤ i ∧ i ≤ 2 + z) ∧ ∀ j, 2 ≤ j → j < i → isE (M (kg + 1) j)) ∧ lv_has ls 3 [(2, .int (nI i)), (0, .ref qc), (1, .ref (ad kg))]) (fun k2 x2 ls h2 ih2 => ?_) _ 2 ls ⟨rfl, ⟨⟨by omega, by omega⟩, fun j h1 h2 => by omega⟩, lv_sub hl [0, 1, 2] rfl⟩
  obtain ⟨i, rfl⟩ : ∃ z, z = x2 := ⟨_, rfl⟩
  obtain ⟨hk2, hI, hl⟩ := h2
  refine lv_iload_n hx hb dX0_hasFitNumbers_2 rfl (lv_at hl 0 rfl) ?_
  refine lv_aload_n hx hb dX0_hasFitNumbers_3 rfl (lv_at hl 2 rfl) ?_
  refine va_getN (D := D) (ci := 2) (v := .int (M kg 1)) (C := RX3) (T := TX3) (N := 4) hx hb hts hin_RX3 hown hE.1 hP kg (wd_at (M := M) hkg (hsg.1 _)) rfl 1 (by decide) hf25 (fun _ h9 => h9) rfl dX0_hasFitNumbers_4 ?_
  refine wr_top (y := (nI (2 + z))) hsz ?_
  refine lv_icmp_ge (tgt := 30) hx hb dX0_hasFitNumbers_7 (by decide) (fun c_7 => ?_) (fun c_7 => ?_)
  · have c_7 := (nI_leI (by omega) (by omega)).mp c_7
    refine lv_aload_n hx hb dX0_hasFitNumbers_30 rfl (lv_at hl 2 rfl) ?_
    refine va_getN (D := D) (ci := 2) (v := .ref (ad (kg + 1))) (C := RX3) (T := TX3) (N := 4) hx hb hts hin_RX3 hown hE.1 hP kg (wd_at (M := M) hkg (hsg.1 _)) rfl 0 (by decide) hf37 (fun _ h9 => h9) rfl dX0_hasFitNumbers_31 ?_
    refine lv_iconst (v := (nI 0)) hx hb dX0_hasFitNumbers_34 (by decide) ?_
    refine wr_ald (cy := cy) (ad := ad) (ex := [(qc, .inr (0, [.ref (ad ks), .int v, .int (nI bB), .int mo]))]) hx hb hE.1 hP (kg + 1) hkg1 (hsg.2 _) 0 rfl (by omega) (by decide) dX0_hasFitNumbers_35 ?_
    refine vp_callSi (W.runS (As := [.int (M (kg + 1) 0)]) (rest := []) ⟨hx, hb, hml, hown, hts⟩ (kX2_isExponent l) (va_cwS 1 hts gX0_hasFitNumbers_X2_isExponent rfl rfl rfl (by decide +kernel) ⟨Nat.le_of_ble_eq_true rfl, Nat.le_of_ble_eq_true rfl⟩) pu_ps rfl rfl hl.1 rfl (lv_room (Nat.le_of_ble_eq_true rfl)) dX0_hasFitNumbers_36 ⟨Nat.le_of_ble_eq_true rfl, Nat.le_of_ble_eq_true rfl⟩) (fun r_36 hr_36 => ?_)
    rcases hr_36 with ⟨hq_36, rfl⟩ | ⟨hq_36, rfl⟩
    · refine lv_if_eq (tgt := 58) hx hb dX0_hasFitNumbers_39 (by decide) (fun c_39 => ?_) (fun c_39 => ?_)
      · exact absurd c_39 (by decide)
      · have c_39 := mt (o_eq0 _).mpr c_39
        refine lv_aload_n hx hb dX0_hasFitNumbers_42 rfl (lv_at hl 2 rfl) ?_
        refine va_getN (D := D) (ci := 2) (v := .ref (ad (kg + 1))) (C := RX3) (T := TX3) (N := 4) hx hb hts hin_RX3 hown hE.1 hP kg (wd_at (M := M) hkg (hsg.1 _)) rfl 0 (by decide) hf37 (fun _ h9 => h9) rfl dX0_hasFitNumbers_43 ?_
        refine lv_iconst (v := (nI 1)) hx hb dX0_hasFitNumbers_46 (by decide) ?_
        refine wr_ald (cy := cy) (ad := ad) (ex := [(qc, .inr (0, [.ref (ad ks), .int v, .int (nI bB), .int mo]))]) hx hb hE.1 hP (kg + 1) hkg1 (hsg.2 _) 1 rfl (by omega) (by decide) dX0_hasFitNumbers_47 ?_
        refine vp_callSi (W.runS (As := [.int (M (kg + 1) 1)]) (rest := []) ⟨hx, hb, hml, hown, hts⟩ (kX2_isElementButOne l) (va_cwS 1 hts gX0_hasFitNumbers_X2_isElementButOne rfl rfl rfl (by decide +kernel) ⟨Nat.le_of_ble_eq_true rfl, Nat.le_of_ble_eq_true rfl⟩) pu_ps rfl rfl hl.1 rfl (lv_room (Nat.le_of_ble_eq_true rfl)) dX0_hasFitNumbers_48 ⟨Nat.le_of_ble_eq_true rfl, Nat.le_of_ble_eq_true rfl⟩) (fun r_48 hr_48 => ?_)
        rcases hr_48 with ⟨hq_48, rfl⟩ | ⟨hq_48, rfl⟩
        · refine lv_if_eq (tgt := 58) hx hb dX0_hasFitNumbers_51 (by decide) (fun c_51 => ?_) (fun c_51 => ?_)
          · exact absurd c_51 (by decide)
          · have c_51 := mt (o_eq0 _).mpr c_51
            refine lv_iconst (v := (nI 1)) hx hb dX0_hasFitNumbers_54 (by decide) ?_
            refine lv_goto (tgt := 59) hx hb dX0_hasFitNumbers_55 (by decide) ?_
            exact W.zret (v := (nI 1)) hx hb hr rfl (fun t ht hW => ⟨(nI 1), rfl, (bP_1 ⟨hq_36, hq_48, fun j hj => by have h9 := hI.2 (2 + j) (by omega) (by omega); exact h9⟩), ht⟩) (fun q h => nomatch h) dX0_hasFitNumbers_59
        · refine lv_if_eq (tgt := 58) hx hb dX0_hasFitNumbers_51 (by decide) (fun c_51 => ?_) (fun c_51 => ?_)
          · have c_51 := (o_eq0 _).mp c_51
            refine lv_iconst (v := (nI 0)) hx hb dX0_hasFitNumbers_58 (by decide) ?_
            exact W.zret (v := (nI 0)) hx hb hr rfl (fun t ht hW => ⟨(nI 0), rfl, (bP_0 (fun h => hq_48 h.2.1)), ht⟩) (fun q h => nomatch h) dX0_hasFitNumbers_59
          · exact absurd c_51 (by decide)
    · refine lv_if_eq (tgt := 58) hx hb dX0_hasFitNumbers_39 (by decide) (fun c_39 => ?_) (fun c_39 => ?_)
      · have c_39 := (o_eq0 _).mp c_39
        refine lv_iconst (v := (nI 0)) hx hb dX0_hasFitNumbers_58 (by decide) ?_
        exact W.zret (v := (nI 0)) hx hb hr rfl (fun t ht hW => ⟨(nI 0), rfl, (bP_0 (fun h => hq_36 h.1)), ht⟩) (fun q h => nomatch h) dX0_hasFitNumbers_59
      · exact absurd c_39 (by decide)
  · have c_7 := mt (nI_leI (by omega) (by omega)).mpr c_7
    refine lv_aload_n hx hb dX0_hasFitNumbers_10 rfl (lv_at hl 2 rfl) ?_
    refine va_getN (D := D) (ci := 2) (v := .ref (ad (kg + 1))) (C := RX3) (T := TX3) (N := 4) hx hb hts hin_RX3 hown hE.1 hP kg (wd_at (M := M) hkg (hsg.1 _)) rfl 0 (by decide) hf37 (fun _ h9 => h9) rfl dX0_hasFitNumbers_11 ?_
    refine lv_iload_n hx hb dX0_hasFitNumbers_14 rfl (lv_at hl 0 rfl) ?_
    refine wr_ald (cy := cy) (ad := ad) (ex := [(qc, .inr (0, [.ref (ad ks), .int v, .int (nI bB), .int mo]))]) hx hb hE.1 hP (kg + 1) hkg1 (hsg.2 _) i rfl (by omega) (by decide) dX0_hasFitNumbers_15 ?_
    refine vp_callSi (W.runS (As := [.int (M (kg + 1) i)]) (rest := []) ⟨hx, hb, hml, hown, hts⟩ (kX2_isExponent l) (va_cwS 1 hts gX0_hasFitNumbers_X2_isExponent rfl rfl rfl (by decide +kernel) ⟨Nat.le_of_ble_eq_true rfl, Nat.le_of_ble_eq_true rfl⟩) pu_ps rfl rfl hl.1 rfl (lv_room (Nat.le_of_ble_eq_true rfl)) dX0_hasFitNumbers_16 ⟨Nat.le_of_ble_eq_true rfl, Nat.le_of_ble_eq_true rfl⟩) (fun r_16 hr_16 => ?_)
    rcases hr_16 with ⟨hq_16, rfl⟩ | ⟨hq_16, rfl⟩
    · refine lv_if_ne (tgt := 24) hx hb dX0_hasFitNumbers_19 (by decide) (fun c_19 => ?_) (fun c_19 => ?_)
      · have c_19 := mt (o_eq0 _).mpr c_19
        refine lv_iinc (v := (nI (i + 1))) (lv' := [(2, .int (nI (i + 1))), (0, .ref qc), (1, .ref (ad kg))]) hx hb dX0_hasFitNumbers_24 hl (k := 0) rfl (nI_1 _) (by decide) rfl (fun ls hl => ?_)
        refine lv_goto (tgt := 2) hx hb dX0_hasFitNumbers_27 (by decide) ?_
        exact ih2 _ (i + 1) _ (by omega) ⟨rfl, ⟨⟨by omega, by omega⟩, fun j h1 h2 => by rcases Nat.lt_or_ge j i with h | h <;> first | exact hI.2 j h1 h | (rw [show j = i by omega]; exact hq_16)⟩, (lv_sub hl [0, 1, 2] rfl)⟩
      · exact absurd c_19 (by decide)
    · refine lv_if_ne (tgt := 24) hx hb dX0_hasFitNumbers_19 (by decide) (fun c_19 => ?_) (fun c_19 => ?_)
      · exact absurd c_19 (by decide)
      · have c_19 := (o_eq0 _).mp c_19
        refine lv_iconst (v := (nI 0)) hx hb dX0_hasFitNumbers_22 (by decide) ?_
        exact W.zret (v := (nI 0)) hx hb hr rfl (fun t ht hW => ⟨(nI 0), rfl, (bP_0 (fun h => hq_16 (by have h9 := h.2.2 (i - 2) (by omega); rw [show 2 + (i - 2) = i by omega] at h9; exact h9))), ht⟩) (fun q h => nomatch h) dX0_hasFitNumbers_23

set_option maxHeartbeats 4000000 in
set_option maxRecDepth 100000 in
/-- Claim.isProvedBy -/
theorem kX0_isProvedBy (l : Launch) {D : va_G} {cy ad : Nat → Nat} {n : Nat} {M : Mm} {qc ks bB : Nat} {v mo : Int32} (hkr : isKR cy ad ks 6) (hks : ks < n) (hks1 : ks + 1 < n) {z : Nat} (hz : M ks 1 = nI z) (hz6 : z ≤ 6) {kg : Nat} (hsg : isSg cy ad kg) (hkg : kg < n) (hkg1 : kg + 1 < n) (hy : ∀ i, i < z → eltN (vN (M (ks + 1) i)) = true) (hB : bB < 2027) : Met l yX0_isProvedBy wsX0_isProvedBy ({ frames := 3, cells := 0, slots := 0, locals := 72 }) (va_Pc [.ref qc, .ref (ad kg)] (RO D cy (wd cy ad n M ++ [(qc, .inr (0, [.ref (ad ks), .int v, .int (nI bB), .int mo]))]))) (vp_Si (fun r => bP (M kg 1 = nI (2 + z) ∧ gdP z (M (ks + 1)) v mo bB (M (kg + 1))) r)) 0 0 (fun _ => False) := by
  refine Met.ofW (cc := cX0_isProvedBy) (maxL := 6) (ret := (some .boolean)) (by decide +kernel) rfl ?_
  intro p e s m args below meth c s₁ B hml hv
  obtain ⟨rfl, hP, hE⟩ := hv
  have hx := B.exec
  have hb := B.bytes
  have hr := B.returns
  have hts := atoms_spec (ws := wsX0_isProvedBy) B.pre
  have hown : s.vm.findClass RX0 = some m.cls := findClass_of_methodNamed B.named
  have hlocks := B.notSynchronized
  have hf25 : (Cond.fieldLinkNest RX0 25 "RingPetition$Signature" "size" "I" "RingPetition").before #[.ref qc, .ref (ad kg)] s = true := va_Nw.use rfl (hE.2 _ (List.mem_of_getElem? (i := 8) rfl))
  have hf30 : (Cond.fieldLinkNest RX0 30 "RingPetition$KeyRow" "size" "I" "RingPetition").before #[.ref qc, .ref (ad kg)] s = true := va_Nw.use rfl (hE.2 _ (List.mem_of_getElem? (i := 2) rfl))
  have hf37 : (Cond.fieldLinkNest RX0 37 "RingPetition$Signature" "numbers" "[I" "RingPetition").before #[.ref qc, .ref (ad kg)] s = true := va_Nw.use rfl (hE.2 _ (List.mem_of_getElem? (i := 5) rfl))
  have hf45 : (Cond.fieldLinkNest RX0 45 "RingPetition$KeyRow" "keys" "[I" "RingPetition").before #[.ref qc, .ref (ad kg)] s = true := va_Nw.use rfl (hE.2 _ (List.mem_of_getElem? (i := 0) rfl))
  have hf9 : (Cond.fieldLink RX0 9 "RingPetition$Claim" "signers" "LRingPetition$KeyRow;").before #[.ref qc, .ref (ad kg)] s = true := hts _ (by decide +kernel)
  have hin_RX0 : ∀ w ∈ u_ws RX0 TX0 4, w ∈ wsX0_isProvedBy := by decide +kernel
  have hin_RX1 : ∀ w ∈ u_ws RX1 TX1 2, w ∈ wsX0_isProvedBy := by decide +kernel
  have hin_RX3 : ∀ w ∈ u_ws RX3 TX3 4, w ∈ wsX0_isProvedBy := by decide +kernel
  have hl := lv_entry ([.ref qc, .ref (ad kg)]) (n := 6) (Nat.le_of_ble_eq_true rfl)
  rw [lg_entry_eq]
  generalize (lg_sl ([.ref qc, .ref (ad kg)]) ++ List.replicate (6 - (lg_sl ([.ref qc, .ref (ad kg)])).length) Slot.unset).toArray = ls at hl ⊢
  have hl : lv_has ls 6 [(0, .ref qc), (1, .ref (ad kg))] := hl
  refine lv_aload_n hx hb dX0_isProvedBy_0 rfl (lv_at hl 1 rfl) ?_
  refine va_getN (D := D) (ci := 2) (v := .int (M kg 1)) (C := RX3) (T := TX3) (N := 4) hx hb hts hin_RX3 hown hE.1 hP kg (wd_at (M := M) hkg (hsg.1 _)) rfl 1 (by decide) hf25 (fun _ h9 => h9) rfl dX0_isProvedBy_1 ?_
  refine lv_iconst (v := (nI 2)) hx hb dX0_isProvedBy_4 (by decide) ?_
  refine lv_aload_n hx hb dX0_isProvedBy_5 rfl (lv_at hl 0 rfl) ?_
  refine va_get (D := D) (ci := 0) (v := .ref (ad ks)) (C := RX0) (T := TX0) (N := 4) hx hb hts hin_RX0 hown hE.1 hP n wd_ex rfl 0 (by decide) hf9 (fun _ h9 => h9) rfl dX0_isProvedBy_6 ?_
  refine va_getN (D := D) (ci := 1) (v := .int (M ks 1)) (C := RX1) (T := TX1) (N := 2) hx hb hts hin_RX1 hown hE.1 hP ks (wd_at (M := M) hks (hkr.1 _)) rfl 1 (by decide) hf30 (fun _ h9 => h9) rfl dX0_isProvedBy_9 ?_
  refine wr_top (y := (nI z)) hz ?_
  refine lv_iadd hx hb dX0_isProvedBy_12 ?_
  refine wr_top (y := (nI (2 + z))) (nI_add _ _) ?_
  refine lv_icmp_ne (tgt := 24) hx hb dX0_isProvedBy_13 (by decide) (fun c_13 => ?_) (fun c_13 => ?_)
  · refine lv_iconst (v := (nI 0)) hx hb dX0_isProvedBy_24 (by decide) ?_
    exact W.zret (v := (nI 0)) hx hb hr rfl (fun t ht hW => ⟨(nI 0), rfl, (bP_0 (fun h => c_13 h.1)), ht⟩) (fun q h => nomatch h) dX0_isProvedBy_25
  · refine lv_aload_n hx hb dX0_isProvedBy_16 rfl (lv_at hl 0 rfl) ?_
    refine lv_aload_n hx hb dX0_isProvedBy_17 rfl (lv_at hl 1 rfl) ?_
    refine vp_callSi (W.runV (As := [.ref (ad kg)]) (rest := []) ⟨hx, hb, hml, hown, hts⟩ (kX0_hasFitNumbers l hsg hkg hkg1 c_13 hz6) (cwV 1 hts gX0_isProvedBy_X0_hasFitNumbers rfl rfl rfl (by decide +kernel) ⟨Nat.le_of_ble_eq_true rfl, Nat.le_of_ble_eq_true rfl⟩) (ro_pv (ci := 0) (q := (RX0, TX0, 4)) hE hP rfl wd_ex) rfl rfl hl.1 rfl (lv_room (Nat.le_of_ble_eq_true rfl)) dX0_isProvedBy_18 ⟨Nat.le_of_ble_eq_true rfl, Nat.le_of_ble_eq_true rfl⟩) (fun r_18 hr_18 => ?_)
    rcases hr_18 with ⟨hq_18, rfl⟩ | ⟨hq_18, rfl⟩
    · refine lv_if_ne (tgt := 26) hx hb dX0_isProvedBy_21 (by decide) (fun c_21 => ?_) (fun c_21 => ?_)
      · have c_21 := mt (o_eq0 _).mpr c_21
        refine lv_aload_n hx hb dX0_isProvedBy_26 rfl (lv_at hl 1 rfl) ?_
        refine va_getN (D := D) (ci := 2) (v := .ref (ad (kg + 1))) (C := RX3) (T := TX3) (N := 4) hx hb hts hin_RX3 hown hE.1 hP kg (wd_at (M := M) hkg (hsg.1 _)) rfl 0 (by decide) hf37 (fun _ h9 => h9) rfl dX0_isProvedBy_27 ?_
        refine lv_iconst (v := (nI 1)) hx hb dX0_isProvedBy_30 (by decide) ?_
        refine wr_ald (cy := cy) (ad := ad) (ex := [(qc, .inr (0, [.ref (ad ks), .int v, .int (nI bB), .int mo]))]) hx hb hE.1 hP (kg + 1) hkg1 (hsg.2 _) 1 rfl (by omega) (by decide) dX0_isProvedBy_31 ?_
        refine wr_top (y := (nI (vN (M (kg + 1) 1)))) (elt_x hq_18.2.1) ?_
        refine lv_istore_n (lv' := [(2, .int (nI (vN (M (kg + 1) 1)))), (0, .ref qc), (1, .ref (ad kg))]) hx hb dX0_isProvedBy_32 rfl hl (by decide) rfl (fun ls hl => ?_)
        refine lv_aload_n hx hb dX0_isProvedBy_33 rfl (lv_at hl 1 rfl) ?_
        refine lv_iload_n hx hb dX0_isProvedBy_34 rfl (lv_at hl 0 rfl) ?_
        refine vp_callSi (W.runV (As := [.int (nI (vN (M (kg + 1) 1)))]) (rest := []) ⟨hx, hb, hml, hown, hts⟩ (kX0_stem l hkr hks hks1 hz hz6) (cwV 1 hts gX0_isProvedBy_X0_stem rfl rfl rfl (by decide +kernel) ⟨Nat.le_of_ble_eq_true rfl, Nat.le_of_ble_eq_true rfl⟩) (ro_pv (ci := 0) (q := (RX0, TX0, 4)) hE hP rfl wd_ex) rfl rfl hl.1 rfl (lv_room (Nat.le_of_ble_eq_true rfl)) dX0_isProvedBy_35 ⟨Nat.le_of_ble_eq_true rfl, Nat.le_of_ble_eq_true rfl⟩) (fun r_35 hr_35 => ?_)
        subst hr_35
        refine lv_istore_n (lv' := [(3, .int (stmI z (M (ks + 1)) v mo (nI (vN (M (kg + 1) 1))))), (2, .int (nI (vN (M (kg + 1) 1)))), (0, .ref qc), (1, .ref (ad kg))]) hx hb dX0_isProvedBy_38 rfl hl (by decide) rfl (fun ls hl => ?_)
        refine lv_aload_n hx hb dX0_isProvedBy_39 rfl (lv_at hl 3 rfl) ?_
        refine va_getN (D := D) (ci := 2) (v := .ref (ad (kg + 1))) (C := RX3) (T := TX3) (N := 4) hx hb hts hin_RX3 hown hE.1 hP kg (wd_at (M := M) hkg (hsg.1 _)) rfl 0 (by decide) hf37 (fun _ h9 => h9) rfl dX0_isProvedBy_40 ?_
        refine lv_iconst (v := (nI 0)) hx hb dX0_isProvedBy_43 (by decide) ?_
        refine wr_ald (cy := cy) (ad := ad) (ex := [(qc, .inr (0, [.ref (ad ks), .int v, .int (nI bB), .int mo]))]) hx hb hE.1 hP (kg + 1) hkg1 (hsg.2 _) 0 rfl (by omega) (by decide) dX0_isProvedBy_44 ?_
        refine wr_top (y := (nI (vN (M (kg + 1) 0)))) ((isE_vN hq_18.1).2) ?_
        refine lv_istore (lv' := [(4, .int (nI (vN (M (kg + 1) 0)))), (3, .int (stmI z (M (ks + 1)) v mo (nI (vN (M (kg + 1) 1))))), (2, .int (nI (vN (M (kg + 1) 1)))), (0, .ref qc), (1, .ref (ad kg))]) hx hb dX0_isProvedBy_45 hl (by decide) rfl (fun ls hl => ?_)
        refine lv_iconst (v := (nI 0)) hx hb dX0_isProvedBy_47 (by decide) ?_
        refine lv_istore (lv' := [(5, .int (nI 0)), (4, .int (nI (vN (M (kg + 1) 0)))), (3, .int (stmI z (M (ks + 1)) v mo (nI (vN (M (kg + 1) 1))))), (2, .int (nI (vN (M (kg + 1) 1)))), (0, .ref qc), (1, .ref (ad kg))]) hx hb dX0_isProvedBy_48 hl (by decide) rfl (fun ls hl => ?_)
        refine wloopR (fun kq (xq : Nat × Nat) ls => match xq with | (i, cc) => kq = z - i ∧ (i ≤ z ∧ cc = (cnF (stmI z (M (ks + 1)) v mo (nI (vN (M (kg + 1) 1)))) bB (vN (M (kg + 1) 1)) (fun i => vN (M (ks + 1) i)) (fun i => vN (M (kg + 1) (2 + i))) (vN (M (kg + 1) 0)) i) ∧ cc < 1013) ∧ lv_has ls 6 [(5, .int (nI i)), (4, .int (nI cc)), (3, .int (stmI z (M (ks + 1)) v mo (nI (vN (M (kg + 1) 1))))), (2, .int (nI (vN (M (kg + 1) 1)))), (0, .ref qc), (1, .ref (ad kg))]) (fun k50 x50 ls h50 ih50 => ?_) _ (0, vN (M (kg + 1) 0)) ls ⟨rfl, ⟨Nat.zero_le _, rfl, (isE_vN hq_18.1).1⟩, lv_sub hl [0, 1, 2, 3, 4, 5] rfl⟩
        obtain ⟨i, cc⟩ := x50
        obtain ⟨hk50, hI, hl⟩ := h50
        refine lv_iload hx hb dX0_isProvedBy_50 (lv_at hl 0 rfl) ?_
        refine lv_aload_n hx hb dX0_isProvedBy_52 rfl (lv_at hl 4 rfl) ?_
        refine va_get (D := D) (ci := 0) (v := .ref (ad ks)) (C := RX0) (T := TX0) (N := 4) hx hb hts hin_RX0 hown hE.1 hP n wd_ex rfl 0 (by decide) hf9 (fun _ h9 => h9) rfl dX0_isProvedBy_53 ?_
        refine va_getN (D := D) (ci := 1) (v := .int (M ks 1)) (C := RX1) (T := TX1) (N := 2) hx hb hts hin_RX1 hown hE.1 hP ks (wd_at (M := M) hks (hkr.1 _)) rfl 1 (by decide) hf30 (fun _ h9 => h9) rfl dX0_isProvedBy_56 ?_
        refine wr_top (y := (nI z)) hz ?_
        refine lv_icmp_ge (tgt := 97) hx hb dX0_isProvedBy_59 (by decide) (fun c_59 => ?_) (fun c_59 => ?_)
        · have c_59 := (nI_leI (by omega) (by omega)).mp c_59
          refine lv_iload hx hb dX0_isProvedBy_97 (lv_at hl 1 rfl) ?_
          refine lv_aload_n hx hb dX0_isProvedBy_99 rfl (lv_at hl 5 rfl) ?_
          refine va_getN (D := D) (ci := 2) (v := .ref (ad (kg + 1))) (C := RX3) (T := TX3) (N := 4) hx hb hts hin_RX3 hown hE.1 hP kg (wd_at (M := M) hkg (hsg.1 _)) rfl 0 (by decide) hf37 (fun _ h9 => h9) rfl dX0_isProvedBy_100 ?_
          refine lv_iconst (v := (nI 0)) hx hb dX0_isProvedBy_103 (by decide) ?_
          refine wr_ald (cy := cy) (ad := ad) (ex := [(qc, .inr (0, [.ref (ad ks), .int v, .int (nI bB), .int mo]))]) hx hb hE.1 hP (kg + 1) hkg1 (hsg.2 _) 0 rfl (by omega) (by decide) dX0_isProvedBy_104 ?_
          refine wr_top (y := (nI (vN (M (kg + 1) 0)))) ((isE_vN hq_18.1).2) ?_
          refine lv_icmp_ne (tgt := 112) hx hb dX0_isProvedBy_105 (by decide) (fun c_105 => ?_) (fun c_105 => ?_)
          · have hv0 := (isE_vN hq_18.1).1
            have c_105 := mt (nI_eq (by omega) (by omega)).mpr c_105
            rw [hI.2.1, show i = z by omega, ← elt_x hq_18.2.1] at c_105
            refine lv_iconst (v := (nI 0)) hx hb dX0_isProvedBy_112 (by decide) ?_
            exact W.zret (v := (nI 0)) hx hb hr rfl (fun t ht hW => ⟨(nI 0), rfl, (bP_0 (fun h => c_105 h.2.2.2.2)), ht⟩) (fun q h => nomatch h) dX0_isProvedBy_113
          · have hv0 := (isE_vN hq_18.1).1
            have c_105 := (nI_eq (by omega) (by omega)).mp c_105
            rw [hI.2.1, show i = z by omega, ← elt_x hq_18.2.1] at c_105
            refine lv_iconst (v := (nI 1)) hx hb dX0_isProvedBy_108 (by decide) ?_
            refine lv_goto (tgt := 113) hx hb dX0_isProvedBy_109 (by decide) ?_
            exact W.zret (v := (nI 1)) hx hb hr rfl (fun t ht hW => ⟨(nI 1), rfl, (bP_1 ⟨c_13, hq_18.1, hq_18.2.1, hq_18.2.2, c_105⟩), ht⟩) (fun q h => nomatch h) dX0_isProvedBy_113
        · have c_59 := mt (nI_leI (by omega) (by omega)).mpr c_59
          refine lv_aload_n hx hb dX0_isProvedBy_62 rfl (lv_at hl 4 rfl) ?_
          refine lv_iload_n hx hb dX0_isProvedBy_63 rfl (lv_at hl 2 rfl) ?_
          refine lv_iload_n hx hb dX0_isProvedBy_64 rfl (lv_at hl 3 rfl) ?_
          refine lv_iload hx hb dX0_isProvedBy_65 (lv_at hl 1 rfl) ?_
          refine lv_aload_n hx hb dX0_isProvedBy_67 rfl (lv_at hl 4 rfl) ?_
          refine va_get (D := D) (ci := 0) (v := .ref (ad ks)) (C := RX0) (T := TX0) (N := 4) hx hb hts hin_RX0 hown hE.1 hP n wd_ex rfl 0 (by decide) hf9 (fun _ h9 => h9) rfl dX0_isProvedBy_68 ?_
          refine va_getN (D := D) (ci := 1) (v := .ref (ad (ks + 1))) (C := RX1) (T := TX1) (N := 2) hx hb hts hin_RX1 hown hE.1 hP ks (wd_at (M := M) hks (hkr.1 _)) rfl 0 (by decide) hf45 (fun _ h9 => h9) rfl dX0_isProvedBy_71 ?_
          refine lv_iload hx hb dX0_isProvedBy_74 (lv_at hl 0 rfl) ?_
          refine wr_ald (cy := cy) (ad := ad) (ex := [(qc, .inr (0, [.ref (ad ks), .int v, .int (nI bB), .int mo]))]) hx hb hE.1 hP (ks + 1) hks1 (hkr.2 _) i rfl (by omega) (by decide) dX0_isProvedBy_76 ?_
          refine wr_top (y := (nI (vN (M (ks + 1) i)))) (elt_x (hy i (by omega))) ?_
          refine lv_aload_n hx hb dX0_isProvedBy_77 rfl (lv_at hl 5 rfl) ?_
          refine va_getN (D := D) (ci := 2) (v := .ref (ad (kg + 1))) (C := RX3) (T := TX3) (N := 4) hx hb hts hin_RX3 hown hE.1 hP kg (wd_at (M := M) hkg (hsg.1 _)) rfl 0 (by decide) hf37 (fun _ h9 => h9) rfl dX0_isProvedBy_78 ?_
          refine lv_iconst (v := (nI 2)) hx hb dX0_isProvedBy_81 (by decide) ?_
          refine lv_iload hx hb dX0_isProvedBy_82 (lv_at hl 0 rfl) ?_
          refine lv_iadd hx hb dX0_isProvedBy_84 ?_
          refine wr_top (y := (nI (2 + i))) (nI_add _ _) ?_
          refine wr_ald (cy := cy) (ad := ad) (ex := [(qc, .inr (0, [.ref (ad ks), .int v, .int (nI bB), .int mo]))]) hx hb hE.1 hP (kg + 1) hkg1 (hsg.2 _) (2 + i) rfl (by omega) (by decide) dX0_isProvedBy_85 ?_
          refine wr_top (y := (nI (vN (M (kg + 1) (2 + i))))) ((isE_vN (hq_18.2.2 i (by omega))).2) ?_
          refine vp_callSi (W.runV (As := [.int (stmI z (M (ks + 1)) v mo (nI (vN (M (kg + 1) 1)))), .int (nI (vN (M (kg + 1) 1))), .int (nI cc), .int (nI (vN (M (ks + 1) i))), .int (nI (vN (M (kg + 1) (2 + i))))]) (rest := []) ⟨hx, hb, hml, hown, hts⟩ (kX0_step l hB (elt_lt hq_18.2.1).2.1 hI.2.2 (elt_lt (hy i (by omega))).2.1 (isE_vN (hq_18.2.2 i (by omega))).1) (cwV 5 hts gX0_isProvedBy_X0_step rfl rfl rfl (by decide +kernel) ⟨Nat.le_of_ble_eq_true rfl, Nat.le_of_ble_eq_true rfl⟩) (ro_pv (ci := 0) (q := (RX0, TX0, 4)) hE hP rfl wd_ex) rfl rfl hl.1 rfl (lv_room (Nat.le_of_ble_eq_true rfl)) dX0_isProvedBy_86 ⟨Nat.le_of_ble_eq_true rfl, Nat.le_of_ble_eq_true rfl⟩) (fun r_86 hr_86 => ?_)
          subst hr_86
          refine lv_istore (lv' := [(4, .int (nI (stN (stmI z (M (ks + 1)) v mo (nI (vN (M (kg + 1) 1)))) bB (vN (M (kg + 1) 1)) cc (vN (M (ks + 1) i)) (vN (M (kg + 1) (2 + i)))))), (5, .int (nI i)), (3, .int (stmI z (M (ks + 1)) v mo (nI (vN (M (kg + 1) 1))))), (2, .int (nI (vN (M (kg + 1) 1)))), (0, .ref qc), (1, .ref (ad kg))]) hx hb dX0_isProvedBy_89 hl (by decide) rfl (fun ls hl => ?_)
          refine lv_iinc (v := (nI (i + 1))) (lv' := [(5, .int (nI (i + 1))), (4, .int (nI (stN (stmI z (M (ks + 1)) v mo (nI (vN (M (kg + 1) 1)))) bB (vN (M (kg + 1) 1)) cc (vN (M (ks + 1) i)) (vN (M (kg + 1) (2 + i)))))), (3, .int (stmI z (M (ks + 1)) v mo (nI (vN (M (kg + 1) 1))))), (2, .int (nI (vN (M (kg + 1) 1)))), (0, .ref qc), (1, .ref (ad kg))]) hx hb dX0_isProvedBy_91 hl (k := 1) rfl (nI_1 _) (by decide) rfl (fun ls hl => ?_)
          refine lv_goto (tgt := 50) hx hb dX0_isProvedBy_94 (by decide) ?_
          exact ih50 _ (i + 1, stN (stmI z (M (ks + 1)) v mo (nI (vN (M (kg + 1) 1)))) bB (vN (M (kg + 1) 1)) cc (vN (M (ks + 1) i)) (vN (M (kg + 1) (2 + i)))) _ (by omega) ⟨rfl, ⟨by omega, by rw [hI.2.1]; rfl, stN_lt _ _ _ _ _ _⟩, (lv_sub hl [0, 1, 2, 3, 4, 5] rfl)⟩
      · exact absurd c_21 (by decide)
    · refine lv_if_ne (tgt := 26) hx hb dX0_isProvedBy_21 (by decide) (fun c_21 => ?_) (fun c_21 => ?_)
      · exact absurd c_21 (by decide)
      · have c_21 := (o_eq0 _).mp c_21
        refine lv_iconst (v := (nI 0)) hx hb dX0_isProvedBy_24 (by decide) ?_
        exact W.zret (v := (nI 0)) hx hb hr rfl (fun t ht hW => ⟨(nI 0), rfl, (bP_0 (fun h => hq_18 ⟨h.2.1, h.2.2.1, h.2.2.2.1⟩)), ht⟩) (fun q h => nomatch h) dX0_isProvedBy_25
